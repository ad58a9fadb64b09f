/-! THE TWO WORLDS: numbers, the relation, the calls that only look -/
theorem T_le {x y : Int32} : x ≤ y ↔ x.toInt ≤ y.toInt := Int32.le_iff_toInt_le
theorem T_lt {x y : Int32} : x < y ↔ x.toInt < y.toInt := Int32.lt_iff_toInt_lt
theorem T_ext {x y : Int32} (h : x.toInt = y.toInt) : x = y := Int32.toInt_inj.mp h
theorem T_add {x y : Int32} (h1 : -2147483648 ≤ x.toInt + y.toInt) (h2 : x.toInt + y.toInt < 2147483648) : (x + y).toInt = x.toInt + y.toInt := by
  rw [Int32.toInt_add]
  exact Int.bmod_eq_of_le (by omega) (by omega)
theorem T_sub {x y : Int32} (h1 : -2147483648 ≤ x.toInt - y.toInt) (h2 : x.toInt - y.toInt < 2147483648) : (x - y).toInt = x.toInt - y.toInt := by
  rw [Int32.toInt_sub]
  exact Int.bmod_eq_of_le (by omega) (by omega)
theorem T_mul {x y : Int32} (h1 : -2147483648 ≤ x.toInt * y.toInt) (h2 : x.toInt * y.toInt < 2147483648) : (x * y).toInt = x.toInt * y.toInt := by
  rw [Int32.toInt_mul]
  exact Int.bmod_eq_of_le (by omega) (by omega)
theorem L_add {x y : Int64} (h1 : -9223372036854775808 ≤ x.toInt + y.toInt) (h2 : x.toInt + y.toInt < 9223372036854775808) : (x + y).toInt = x.toInt + y.toInt := by
  rw [Int64.toInt_add]
  exact Int.bmod_eq_of_le (by omega) (by omega)
theorem L_mul {x y : Int64} (h1 : -9223372036854775808 ≤ x.toInt * y.toInt) (h2 : x.toInt * y.toInt < 9223372036854775808) : (x * y).toInt = x.toInt * y.toInt := by
  rw [Int64.toInt_mul]
  exact Int.bmod_eq_of_le (by omega) (by omega)
theorem L_ext {x y : Int64} (h : x.toInt = y.toInt) : x = y := Int64.toInt_inj.mp h
theorem T_0 : (0 : Int32).toInt = 0 := rfl
theorem T_b (x : Int32) : -2147483648 ≤ x.toInt ∧ x.toInt < 2147483648 := by
  have h1 := Int32.le_toInt x
  have h2 := Int32.toInt_lt x
  omega
def sumZ (f : Nat → Int) : Nat → Int
  | 0 => 0
  | k + 1 => sumZ f k + f k
theorem sumZ_ext {f g : Nat → Int} : ∀ {k : Nat}, (∀ i, i < k → f i = g i) → sumZ f k = sumZ g k
  | 0, _ => rfl
  | k + 1, h => by rw [sumZ, sumZ, sumZ_ext (fun i hi => h i (by omega)), h k (by omega)]
theorem sumZ_nn {f : Nat → Int} : ∀ {k : Nat}, (∀ i, i < k → 0 ≤ f i) → 0 ≤ sumZ f k
  | 0, _ => Int.le_refl _
  | k + 1, h => by
    have h1 := sumZ_nn (fun i hi => h i (by omega) : ∀ i, i < k → 0 ≤ f i)
    have h2 := h k (by omega)
    rw [sumZ]
    omega
theorem sumZ_le {f : Nat → Int} {B : Int} : ∀ {k : Nat}, (∀ i, i < k → f i ≤ B) → sumZ f k ≤ k * B
  | 0, _ => by simp [sumZ]
  | k + 1, h => by
    have h1 := sumZ_le (fun i hi => h i (by omega) : ∀ i, i < k → f i ≤ B)
    have h2 := h k (by omega)
    rw [sumZ, Int.natCast_succ, Int.add_mul]
    omega
theorem sumZ_get {f : Nat → Int} : ∀ {k : Nat} {j : Nat}, j < k → (∀ i, i < k → 0 ≤ f i) → f j ≤ sumZ f k
  | k + 1, j, hj, h => by
    rw [sumZ]
    have h2 := h k (by omega)
    have h3 := sumZ_nn (fun i hi => h i (by omega) : ∀ i, i < k → 0 ≤ f i)
    by_cases e : j = k
    · subst e
      omega
    · have h1 := sumZ_get (f := f) (k := k) (j := j) (by omega) (fun i hi => h i (by omega))
      omega
/-- one more at one place -/
theorem sumZ_put {f g : Nat → Int} {j : Nat} {v : Int} : ∀ {k : Nat}, j < k → (∀ i, i < k → i ≠ j → g i = f i) → g j = f j + v → sumZ g k = sumZ f k + v
  | k + 1, hj, h, hv => by
    rw [sumZ, sumZ]
    by_cases e : j = k
    · subst e
      rw [sumZ_ext (f := g) (g := f) (fun i hi => h i (by omega) (by omega)), hv]
      omega
    · rw [sumZ_put (f := f) (g := g) (j := j) (v := v) (k := k) (by omega) (fun i hi hne => h i (by omega) hne) hv, h k (by omega) (fun q => e q.symm)]
      omega
theorem mu_row {m : Nat → Nat → Int32} {k j a : Nat} {v : Int32} (h : a ≠ k) : mu m k j v a = m a := by
  unfold mu
  rw [if_neg h]
theorem mu_row' {m : Nat → Nat → Int32} {k j : Nat} {v : Int32} : mu m k j v k = upd (m k) j v := by
  unfold mu
  rw [if_pos rfl]
theorem cu_rw {c : Nat → Nat → Nat → Int32} {k i j a : Nat} {v : Int32} (h : a ≠ k) : cu c k i j v a = c a := by
  unfold cu
  rw [if_neg h]
def bdr (nP nF b : Nat) : Prop := b < nP ∨ (24 ≤ b ∧ b < 24 + nF)
def iRul (r us lo hi : Nat → Int32) : Prop := ∀ j, j < 6 → us j = unR j ∧ lo j = loR j ∧ hi j = hiR j ∧ loR j ≤ r j ∧ r j ≤ hiR j
def iWrk (sh lf pr sn : Nat → Int32) (nW rd : Nat) : Prop := ∀ j, j < nW → 1 ≤ (sh j).toInt ∧ (sh j).toInt ≤ 1000 ∧ 0 ≤ (lf j).toInt ∧ 1 ≤ (pr j).toInt ∧ (pr j).toInt ≤ 9999 ∧ (∃ k, k ≤ rd ∧ sn j = nI k) ∧ (rd = 0 → lf j = sh j)
def iAsk (A : Nat → Int32) (nW nP nF : Nat) : Prop := ∀ b, b < 28 → ∀ x, x < 10 → 0 ≤ (A (10 * b + x)).toInt ∧ (A (10 * b + x)).toInt ≤ 1000 ∧ (nW ≤ x ∨ ¬ bdr nP nF b → A (10 * b + x) = 0)
def iHld (H sh lf : Nat → Int32) (nW : Nat) : Prop := (∀ b, b < 28 → ∀ x, x < 10 → 0 ≤ (H (10 * b + x)).toInt ∧ (nW ≤ x → H (10 * b + x) = 0)) ∧ ∀ x, x < nW → sumZ (fun b => (H (10 * b + x)).toInt) 28 + (lf x).toInt = (sh x).toInt
def iWas (Ws : Nat → Int32) (nW rd : Nat) : Prop := ∀ r, r < rd → ∀ b, b < 28 → ∀ x, x < 10 → 0 ≤ (Ws (280 * r + 10 * b + x)).toInt ∧ (Ws (280 * r + 10 * b + x)).toInt ≤ 1000 ∧ (nW ≤ x → Ws (280 * r + 10 * b + x) = 0)
def iPts (P H : Nat → Int32) (nP nF : Nat) : Prop := ∀ b, b < 28 → (P b).toInt ≤ 24000 ∧ 0 ≤ (P b).toInt + 9999 * sumZ (fun x => (H (10 * b + x)).toInt) 10 ∧ (¬ bdr nP nF b → P b = 0)
def iGft (G gv : Nat → Int32) (nP nF : Nat) : Prop := (∀ p, p < 24 → (∀ f, f < 4 → 0 ≤ (G (4 * p + f)).toInt ∧ (nP ≤ p ∨ nF ≤ f → G (4 * p + f) = 0)) ∧ sumZ (fun f => (G (4 * p + f)).toInt) 4 ≤ 1000) ∧ ∀ f, f < 4 → (gv f).toInt = sumZ (fun p => (G (4 * p + f)).toInt) 24
def iR0 (P G gv : Nat → Int32) (nP nF rd : Nat) : Prop := rd = 0 → (∀ p, p < nP → 0 ≤ (P p).toInt ∧ (P p).toInt + sumZ (fun f => (G (4 * p + f)).toInt) 4 = 1000) ∧ ∀ f, f < nF → P (24 + f) = gv f
def eWrk (c13 : Nat → Nat → Int32) (sh lf pr sn : Nat → Int32) (nW : Nat) : Prop := ∀ x, x < nW → c13 x 0 = sh x ∧ c13 x 1 = sn x ∧ c13 x 2 = lf x ∧ c13 x 3 = pr x
def eMat (cA : Nat → Nat → Int32) (A : Nat → Int32) (nW : Nat) : Prop := ∀ x, x < nW → ∀ b, b < 28 → cA x b = A (10 * b + x)
def ePri (c16 : Nat → Nat → Int32) (Q sn : Nat → Int32) (nW rd : Nat) : Prop := ∀ x, x < nW → ∀ r, r ≤ rd → sn x ≤ nI r → c16 x r = Q (50 * x + r)
def eRow (c17 : Nat → Nat → Int32) (H Ws : Nat → Int32) (nW rd : Nat) : Prop := ∀ x, x < nW → ∀ r, r ≤ rd → ∀ b, b < 28 → c17 x (r * 28 + b) = if r = rd then H (10 * b + x) else Ws (280 * r + 10 * b + x)
def ePer (c18 : Nat → Nat → Int32) (P wk : Nat → Int32) (nP : Nat) : Prop := ∀ p, p < nP → c18 p 0 = P p ∧ c18 p 1 = wk p
def eFnd (c19 : Nat → Nat → Int32) (P pm gv : Nat → Int32) (nF : Nat) : Prop := ∀ f, f < nF → c19 f 0 = P (24 + f) ∧ c19 f 1 = pm f ∧ c19 f 3 = gv f
def eGft (c20 : Nat → Nat → Int32) (G : Nat → Int32) (nF : Nat) : Prop := ∀ f, f < nF → ∀ p, p < 24 → c20 f p = G (4 * p + f)
def eTap (c2 t : Nat → Int32) : Prop := ∀ j, j < 140 → c2 j &&& 255 = t j
def eVal (v r : Nat → Int32) : Prop := ∀ j, j < 6 → v j = r j
/-- what the two worlds have in common (e..), and what keeps in the second (i..) -/
def RelE (n : Nat → Nat) (c : Nat → Nat → Nat → Int32) (m : Nat → Nat → Int32) (rd tp : Nat) : Prop :=
  (c 1 0 1 = m 2 0 ∧ c 0 0 9 = m 33 0 ∧ c 0 0 10 = m 34 0 ∧ c 3 0 5 = m 13 0) ∧ eTap (c 2 0) (m 1) ∧ eVal (c 4 0) (m 3) ∧ eWrk (c 13) (m 17) (m 18) (m 19) (m 21) (n 0) ∧ eMat (c 14) (m 27) (n 0) ∧ eMat (c 15) (m 28) (n 0) ∧ ePri (c 16) (m 20) (m 21) (n 0) rd ∧ eRow (c 17) (m 28) (m 29) (n 0) rd ∧ ePer (c 18) (m 22) (m 23) (n 1) ∧ eFnd (c 19) (m 22) (m 24) (m 25) (n 2) ∧ eGft (c 20) (m 26) (n 2)
def RelI (n : Nat → Nat) (m : Nat → Nat → Int32) (rd tp : Nat) : Prop :=
  iRul (m 3) (m 4) (m 5) (m 6) ∧ iWrk (m 17) (m 18) (m 19) (m 21) (n 0) rd ∧ iAsk (m 27) (n 0) (n 1) (n 2) ∧ iHld (m 28) (m 17) (m 18) (n 0) ∧ iWas (m 29) (n 0) rd ∧ iPts (m 22) (m 28) (n 1) (n 2) ∧ iGft (m 26) (m 25) (n 1) (n 2) ∧ iR0 (m 22) (m 26) (m 25) (n 1) (n 2) rd
def Rel (n : Nat → Nat) (op : Option Nat) (c : Nat → Nat → Nat → Int32) (m : Nat → Nat → Int32) (w : Int64) : Prop :=
  nOK n ∧ ∃ rd tp, mI m (n 0) (n 1) (n 2) rd tp ∧ RelE n c m rd tp ∧ RelI n m rd tp
section READS
variable {n : Nat → Nat} {op : Option Nat} {c : Nat → Nat → Nat → Int32} {m : Nat → Nat → Int32} {w : Int64} {rd tp : Nat}
theorem kW_is (hI : mI m (n 0) (n 1) (n 2) rd tp) {x : Int32} : kW n x ↔ isW m x := by
  unfold kW isW
  rw [hI.1]
theorem kP_is (hI : mI m (n 0) (n 1) (n 2) rd tp) {x : Int32} : kP n x ↔ isP m x := by
  unfold kP isP
  rw [hI.2.2.1]
theorem kF_is (hI : mI m (n 0) (n 1) (n 2) rd tp) {x : Int32} : kF n x ↔ isF m x := by
  unfold kF isF
  rw [hI.2.2.2.2.1, ← nI_add 24 (n 2)]
  exact Iff.rfl
theorem kB_is (hI : mI m (n 0) (n 1) (n 2) rd tp) {x : Int32} : kB n x ↔ isB m x := or_congr (kP_is hI) (kF_is hI)
theorem kB_nI (hn : nOK n) {x : Int32} (h : kB n x) : ∃ j, j < 28 ∧ x = nI j ∧ bdr (n 1) (n 2) j := by
  rcases h with h | h
  · obtain ⟨j, hj, rfl⟩ := kP_nI hn h
    have := hn.2.1
    exact ⟨j, by omega, rfl, Or.inl hj⟩
  · obtain ⟨j, hj, rfl⟩ := kF_nI hn h
    have := hn.2.2
    exact ⟨24 + j, by omega, rfl, Or.inr ⟨by omega, by omega⟩⟩
theorem R_st (h : Rel n op c m w) : nOK n ∧ (∃ rd tp, mI m (n 0) (n 1) (n 2) rd tp ∧ c 1 0 1 = nI tp ∧ c 0 0 9 = nI rd) ∧ (∀ j, j < n 0 → 0 ≤ m 21 j) ∧ (∀ j, j < n 0 → 0 ≤ c 13 j 1) := by
  obtain ⟨hn, rd, tp, hI, hE, hJ⟩ := h
  have hw : ∀ j, j < n 0 → 0 ≤ m 21 j := fun j hj => by
    obtain ⟨k, hk, he⟩ := (hJ.2.1 j hj).2.2.2.2.2.1
    rw [he]
    have := hI.2.2.2.2.2.2.2.1
    exact nI_pos' (by omega)
  refine ⟨hn, ⟨rd, tp, hI, ?_, ?_⟩, hw, fun j hj => ?_⟩
  · rw [hE.1.1]; exact hI.2.2.2.2.2.2.2.2.1
  · rw [hE.1.2.1]; exact hI.2.2.2.2.2.2.1
  · rw [(hE.2.2.2.1 j hj).2.1]; exact hw j hj
theorem R_thr {v : Int32} (h : Rel n op c m w) : Rel n op c (mu m 0 0 v) w := by
  have e : ∀ k, k ≠ 0 → mu m 0 0 v k = m k := fun k hk => mu_row hk
  obtain ⟨hn, rd, tp, hI, hE, hJ⟩ := h
  refine ⟨hn, rd, tp, ?_, ?_, ?_⟩
  · unfold mI
    rw [e 30 (by decide), e 31 (by decide), e 32 (by decide), e 33 (by decide), e 2 (by decide)]
    exact hI
  · unfold RelE
    rw [e 1 (by decide), e 2 (by decide), e 3 (by decide), e 13 (by decide), e 17 (by decide), e 18 (by decide), e 19 (by decide), e 20 (by decide), e 21 (by decide), e 22 (by decide), e 23 (by decide), e 24 (by decide), e 25 (by decide), e 26 (by decide), e 27 (by decide), e 28 (by decide), e 29 (by decide), e 33 (by decide), e 34 (by decide)]
    exact hE
  · unfold RelI
    rw [e 3 (by decide), e 4 (by decide), e 5 (by decide), e 6 (by decide), e 17 (by decide), e 18 (by decide), e 19 (by decide), e 21 (by decide), e 22 (by decide), e 25 (by decide), e 26 (by decide), e 27 (by decide), e 28 (by decide), e 29 (by decide)]
    exact hJ
theorem R_fault (h : Rel n op c m w) : c 3 0 5 = m 13 0 := by
  obtain ⟨hn, rd, tp, hI, hE, hJ⟩ := h
  exact hE.1.2.2.2
theorem R_rule {k : Int32} (h : Rel n op c m w) : zRule c k = sRule m k := by
  obtain ⟨hn, rd, tp, hI, hE, hJ⟩ := h
  unfold zRule sRule
  by_cases hk : 0 ≤ k ∧ k < 6
  · rw [if_pos hk, if_pos hk]
    obtain ⟨j, hj, rfl⟩ := nI_in2 (n := 6) hk.1 hk.2 (by decide)
    rw [tn_nI (by omega)]
    exact hE.2.2.1 j hj
  · rw [if_neg hk, if_neg hk]
theorem R_count {x : Int32} (h : Rel n op c m w) : zCount n c x = sCount m x := by
  obtain ⟨hn, rd, tp, hI, hE, hJ⟩ := h
  unfold zCount sCount
  rw [hE.1.1, hE.1.2.1, hE.1.2.2.1, hI.1, hI.2.2.1, hI.2.2.2.2.1]
theorem R_asks {b x : Int32} (h : Rel n op c m w) : zAsks n c b x = sAsks m b x := by
  obtain ⟨hn, rd, tp, hI, hE, hJ⟩ := h
  unfold zAsks sAsks
  by_cases hc : kB n b ∧ kW n x
  · rw [if_pos hc, if_pos ⟨(kB_is hI).mp hc.1, (kW_is hI).mp hc.2⟩]
    obtain ⟨jx, hjx, rfl⟩ := kW_nI hn hc.2
    obtain ⟨jb, hjb, rfl, -⟩ := kB_nI hn hc.1
    have := hn.1
    rw [tn_nI (by omega), tn_nI (by omega)]
    exact hE.2.2.2.2.1 jx hjx jb hjb
  · rw [if_neg hc, if_neg (fun q => hc ⟨(kB_is hI).mpr q.1, (kW_is hI).mpr q.2⟩)]
theorem R_holds {b x r : Int32} (h : Rel n op c m w) : zHolds n c b x r = sHolds m b x r := by
  obtain ⟨hn, rd, tp, hI, hE, hJ⟩ := h
  have hrd : rd ≤ 49 := hI.2.2.2.2.2.2.2.1
  have h33 : m 33 0 = nI rd := hI.2.2.2.2.2.2.1
  unfold zHolds sHolds
  by_cases hc : kB n b ∧ kW n x ∧ (0 ≤ r ∧ r ≤ c 0 0 9)
  · rw [if_pos hc, if_pos ⟨(kB_is hI).mp hc.1, (kW_is hI).mp hc.2.1, by have q := hc.2.2; rw [hE.1.2.1] at q; exact q⟩]
    obtain ⟨hb, hx, hr0, hr1⟩ := hc
    obtain ⟨jx, hjx, rfl⟩ := kW_nI hn hx
    obtain ⟨jb, hjb, rfl, -⟩ := kB_nI hn hb
    rw [hE.1.2.1, h33] at hr1
    have hr2 : r < nI (rd + 1) := Int32.lt_of_le_of_lt hr1 (nI_lt (by omega) (by omega))
    obtain ⟨jr, hjr, rfl⟩ := nI_in2 (n := rd + 1) hr0 hr2 (by omega)
    have := hn.1
    rw [tn_nI (by omega), tn_nI (by omega), tn_nI (by omega), hE.2.2.2.2.2.2.2.1 jx hjx jr (by omega) jb hjb, mHeldAt, h33]
    by_cases e : jr = rd
    · rw [if_pos e, if_pos (by rw [e])]
    · rw [if_neg e, if_neg (fun q => e ((nI_eq (by omega) (by omega)).mp q))]
  · rw [if_neg hc, if_neg (fun q => hc ⟨(kB_is hI).mpr q.1, (kW_is hI).mpr q.2.1, by rw [hE.1.2.1]; exact q.2.2⟩)]
theorem R_price {x r : Int32} (h : Rel n op c m w) : zPrice n c x r = sPrice m x r := by
  obtain ⟨hn, rd, tp, hI, hE, hJ⟩ := h
  have hrd : rd ≤ 49 := hI.2.2.2.2.2.2.2.1
  have h33 : m 33 0 = nI rd := hI.2.2.2.2.2.2.1
  unfold zPrice sPrice
  by_cases hx : kW n x
  · obtain ⟨jx, hjx, rfl⟩ := kW_nI hn hx
    have := hn.1
    have hx2 := (kW_is hI).mp hx
    rw [tn_nI (by omega), (hE.2.2.2.1 jx hjx).2.1, hE.1.2.1]
    by_cases hc : m 21 jx ≤ r ∧ r ≤ m 33 0
    · rw [if_pos ⟨hx, hc⟩, if_pos ⟨hx2, hc.1, hc.2⟩]
      obtain ⟨k, hk, hs⟩ := (hJ.2.1 jx hjx).2.2.2.2.2.1
      have hr0 : 0 ≤ r := Int32.le_trans (by rw [hs]; exact nI_pos' (by omega)) hc.1
      have hr1 := hc.2
      rw [h33] at hr1
      have hr2 : r < nI (rd + 1) := Int32.lt_of_le_of_lt hr1 (nI_lt (by omega) (by omega))
      obtain ⟨jr, hjr, rfl⟩ := nI_in2 (n := rd + 1) hr0 hr2 (by omega)
      rw [tn_nI (by omega)]
      exact hE.2.2.2.2.2.2.1 jx hjx jr (by omega) hc.1
    · rw [if_neg (fun q => hc q.2), if_neg (fun q => hc ⟨q.2.1, q.2.2⟩)]
  · rw [if_neg (fun q => hx q.1), if_neg (fun q => hx ((kW_is hI).mpr q.1))]
theorem sum_ask {cA : Nat → Nat → Int32} {A : Nat → Int32} {nW : Nat} {m : Nat → Nat → Int32} (hA : m 27 = A) (h : eMat cA A nW) {x : Nat} (hx : x < nW) : ∀ k, k ≤ 28 → sumA (cA x) k = mAskd m x k
  | 0, _ => rfl
  | k + 1, hk => by rw [sumA, mAskd, sum_ask hA h hx k (by omega), h x hx k (by omega), hA]
theorem R_about {x y : Int32} (h : Rel n op c m w) : zAbout n c x y = sAbout m x y := by
  obtain ⟨hn, rd, tp, hI, hE, hJ⟩ := h
  unfold zAbout sAbout
  by_cases hx : kW n x
  · rw [if_pos hx, if_pos ((kW_is hI).mp hx)]
    obtain ⟨jx, hjx, rfl⟩ := kW_nI hn hx
    have := hn.1
    have hw := hE.2.2.2.1 jx hjx
    rw [tn_nI (by omega), hw.1, hw.2.2.1, hw.2.2.2, sum_ask rfl hE.2.2.2.2.1 hjx 28 (by omega)]
  · rw [if_neg hx, if_neg (fun q => hx ((kW_is hI).mpr q))]
end READS

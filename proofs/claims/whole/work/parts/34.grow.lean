/-! a new WORK, one of PEOPLE, a FUND: the cells that come, in the order of the class's world -/
def au (a : Nat → Nat → Nat) (k i v : Nat) : Nat → Nat → Nat := fun k' i' => if k' = k ∧ i' = i then v else a k' i'
theorem pm (L A R : va_W) (e : Nat × va_E) : (L ++ ((A ++ [e]) ++ R)).Perm ((L ++ (A ++ R)) ++ [e]) := by
  have h1 : (L ++ ((A ++ [e]) ++ R)) = (L ++ A) ++ ([e] ++ R) := by simp
  have h2 : (L ++ (A ++ R)) ++ [e] = (L ++ A) ++ (R ++ [e]) := by simp
  rw [h1, h2]
  exact List.Perm.append_left _ List.perm_append_comm
theorem cPl_succ {a a2 : Nat → Nat → Nat} {k N : Nat} {e e2 : Nat → va_E} (h : ∀ i, i < N → a2 k i = a k i ∧ e2 i = e i) : cPl a2 k (N + 1) e2 = cPl a k N e ++ [(a2 k N, e2 N)] := by
  rw [cPl, List.range_succ, List.map_append]
  congr 1
  exact List.map_congr_left (fun i hi => by obtain ⟨h1, h2⟩ := h i (List.mem_range.mp hi); rw [h1, h2])
theorem cPl_same {a a2 : Nat → Nat → Nat} {k N : Nat} {e e2 : Nat → va_E} (h : ∀ i, i < N → a2 k i = a k i ∧ e2 i = e i) : cPl a2 k N e2 = cPl a k N e :=
  List.map_congr_left (fun i hi => by obtain ⟨h1, h2⟩ := h i (List.mem_range.mp hi); rw [h1, h2])
theorem cR_succ {a a2 : Nat → Nat → Nat} {k N q : Nat} (h : ∀ i, i < N → a2 k i = a k i) (hq : a2 k N = q) : cR a2 k (N + 1) = va_up (cR a k N) N (some q) := by
  funext i
  simp only [cR, va_up]
  by_cases h1 : i = N
  · subst h1; simp [hq]
  · rw [if_neg h1]
    by_cases h2 : i < N
    · rw [if_pos (by omega), if_pos h2, h i h2]
    · rw [if_neg (by omega), if_neg h2]
theorem bk_get {ws t : va_W} {e : Nat × va_E} : (ws ++ (e :: t))[ws.length]? = some e := by simp
theorem up_set {ws t : va_W} {k : Nat} {e : Nat × va_E} (h : k < ws.length) : (ws ++ t).set k e = ws.set k e ++ t := List.set_append_left _ _ h
theorem cW_len {a : Nat → Nat → Nat} {d : jD} {n : Nat → Nat} {op : Option Nat} {ad : Nat → Nat} {c : Nat → Nat → Nat → Int32} {k : Nat} (hk : k < 13) : k < (cW a d n op ad c).length := by
  rw [cW, List.length_append]
  have : (cX a d n op ad c).length = 13 := rfl
  omega
def nu (n : Nat → Nat) (k : Nat) : Nat → Nat := fun j => if j = k then n k + 1 else n j
/-- the numbers of a new WORK, made in ROUND r -/
def cNW (c : Nat → Nat → Nat → Int32) (N r : Nat) (x y : Int32) : Nat → Nat → Nat → Int32 := fun k i j =>
  if i = N then (if k = 13 then (if j = 0 then x else if j = 1 then nI r else if j = 2 then x else if j = 3 then y else 0) else if k = 14 then 0 else if k = 15 then 0 else if k = 16 then upd (fun _ => 0) r y j else if k = 17 then 0 else c k i j) else c k i j
def aNW (a : Nat → Nat → Nat) (N q q1 q2 q3 q4 : Nat) : Nat → Nat → Nat := au (au (au (au (au a 13 N q) 14 N q1) 15 N q2) 16 N q3) 17 N q4
/-- of one more of PEOPLE -/
def cNP (c : Nat → Nat → Nat → Int32) (N : Nat) (x : Int32) : Nat → Nat → Nat → Int32 := fun k i j => if i = N ∧ k = 18 then (if j = 0 then 1000 else x) else c k i j
/-- of one more FUND -/
def cNF (c : Nat → Nat → Nat → Int32) (N : Nat) (x : Int32) : Nat → Nat → Nat → Int32 := fun k i j => if i = N then (if k = 19 then (if j = 1 then x else 0) else if k = 20 then 0 else c k i j) else c k i j

theorem nI_p1 (k : Nat) : nI (k + 1) = nI k + 1 := (nI_1 k).symm

theorem perm_W_0 (X P13 P14 P15 P16 P17 P18 P19 P20 : va_W) (E13 E14 E15 E16 E17 : Nat × va_E) : (X ++ (P13 ++ (P14 ++ (P15 ++ (P16 ++ (P17 ++ (P18 ++ (P19 ++ (P20)))))))) ++ [E13, E14, E15, E16, E17]).Perm (X ++ ((P13 ++ [E13]) ++ ((P14 ++ [E14]) ++ ((P15 ++ [E15]) ++ ((P16 ++ [E16]) ++ ((P17 ++ [E17]) ++ (P18 ++ (P19 ++ (P20))))))))) := by
  letI : DecidableEq (Nat × va_E) := fun _ _ => Classical.propDecidable _
  refine List.perm_iff_count.mpr (fun z => ?_)
  simp only [List.count_append, List.count_cons, List.count_nil]
  omega
theorem perm_W {a : Nat → Nat → Nat} {d : jD} {n : Nat → Nat} {op : Option Nat} {ad : Nat → Nat} {c : Nat → Nat → Nat → Int32} (q q1 q2 q3 q4 r : Nat) (x y : Int32) : (((cW a d n op ad c).set 6 (a 6 0, .inl (d.2 2, 10, .inr (.inr (.inr (.inr (va_up (cR a 13 (n 0)) (n 0) (some q)))))))).set 0 (a 0 0, .inr (7, [.ref (a 1 0), .ref (a 3 0), .ref (a 6 0), .ref (a 7 0), .ref (a 8 0), .ref (a 9 0), .int (nI (n 0) + 1), .int (nI (n 1)), .int (nI (n 2)), .int (c 0 0 9), .int (c 0 0 10)])) ++ ([(q, .inr (6, [.int x, .int (nI r), .int x, .int y, .ref q1, .ref q2, .ref q3, .ref q4])), (q1, .inl (d.2 1, 28, .inl (fun _ => 0))), (q2, .inl (d.2 1, 28, .inl (fun _ => 0))), (q3, .inl (d.2 1, 50, .inl (upd (fun _ => 0) r y))), (q4, .inl (d.2 1, 1400, .inl (fun _ => 0)))] : va_W)).Perm (cW (aNW a (n 0) q q1 q2 q3 q4) d (nu n 0) op ad (cNW c (n 0) r x y)) := by
  have e : nu n 0 0 = n 0 + 1 := if_pos rfl
  have e1 : nu n 0 1 = n 1 := rfl
  have e2 : nu n 0 2 = n 2 := rfl
  have ha : ∀ k i, k < 13 → (aNW a (n 0) q q1 q2 q3 q4) k i = a k i := by
    intro k i hk
    simp only [aNW, au]
    repeat rw [if_neg (by omega)]
  have haN : ∀ k i, i < n 0 → (aNW a (n 0) q q1 q2 q3 q4) k i = a k i := by
    intro k i hi
    simp only [aNW, au]
    repeat rw [if_neg (by omega)]
  have hc : ∀ k, k < 13 → (cNW c (n 0) r x y) k = c k := by
    intro k hk
    funext i j
    by_cases hi : i = n 0 <;> simp [cNW, hi, show k ≠ 13 by omega, show k ≠ 14 by omega, show k ≠ 15 by omega, show k ≠ 16 by omega, show k ≠ 17 by omega]
  have hcN : ∀ k i, i < n 0 → (cNW c (n 0) r x y) k i = c k i := by
    intro k i hi
    funext j
    simp only [cNW]
    rw [if_neg (by omega)]
  have ha18 : ∀ i, (aNW a (n 0) q q1 q2 q3 q4) 18 i = a 18 i := by
    intro i
    simp only [aNW, au]
    repeat rw [if_neg (by omega)]
  have hc18 : (cNW c (n 0) r x y) 18 = c 18 := by
    funext i j
    simp [cNW]
  have ha19 : ∀ i, (aNW a (n 0) q q1 q2 q3 q4) 19 i = a 19 i := by
    intro i
    simp only [aNW, au]
    repeat rw [if_neg (by omega)]
  have hc19 : (cNW c (n 0) r x y) 19 = c 19 := by
    funext i j
    simp [cNW]
  have ha20 : ∀ i, (aNW a (n 0) q q1 q2 q3 q4) 20 i = a 20 i := by
    intro i
    simp only [aNW, au]
    repeat rw [if_neg (by omega)]
  have hc20 : (cNW c (n 0) r x y) 20 = c 20 := by
    funext i j
    simp [cNW]
  have hr : cR (aNW a (n 0) q q1 q2 q3 q4) 13 (n 0 + 1) = va_up (cR a 13 (n 0)) (n 0) (some q) := by
    exact cR_succ (fun i hi => haN _ i hi) (by simp [aNW, au])
  have hr1 : cR (aNW a (n 0) q q1 q2 q3 q4) 18 (n 1) = cR a 18 (n 1) := by
    funext i
    simp only [cR, ha18]
  have hr2 : cR (aNW a (n 0) q q1 q2 q3 q4) 19 (n 2) = cR a 19 (n 2) := by
    funext i
    simp only [cR, ha19]
  have hX : cX (aNW a (n 0) q q1 q2 q3 q4) d (nu n 0) op ad (cNW c (n 0) r x y) = ([(a 0 0, .inr (7, [.ref (a 1 0), .ref (a 3 0), .ref (a 6 0), .ref (a 7 0), .ref (a 8 0), .ref (a 9 0), .int (nI (n 0) + 1), .int (nI (n 1)), .int (nI (n 2)), .int (c 0 0 9), .int (c 0 0 10)])), (a 1 0, .inr (5, [.ref (a 2 0), .int (c 1 0 1)])), (a 2 0, .inl (d.2 0, 140, .inl (c 2 0))), (a 3 0, .inr (4, [.ref (a 4 0), .ref (a 5 0), .int (c 3 0 2), .int (c 3 0 3), va_re ad op, .int (c 3 0 5), .int (c 3 0 6)])), (a 4 0, .inl (d.2 1, 6, .inl (c 4 0))), (a 5 0, .inl (d.2 1, 6, .inl (c 5 0))), (a 6 0, .inl (d.2 2, 10, .inr (.inr (.inr (.inr (va_up (cR a 13 (n 0)) (n 0) (some q))))))), (a 7 0, .inl (d.2 3, 24, .inr (.inr (.inr (.inr (cR a 18 (n 1))))))), (a 8 0, .inl (d.2 4, 4, .inr (.inr (.inr (.inr (cR a 19 (n 2))))))), (a 9 0, .inr (0, [.ref (a 10 0), .ref (a 11 0), .ref (a 12 0)])), (a 10 0, .inl (d.2 1, 28, .inl (c 10 0))), (a 11 0, .inl (d.2 1, 28, .inl (c 11 0))), (a 12 0, .inl (d.2 1, 28, .inl (c 12 0)))] : va_W) := by
    simp only [cX, hr, hr1, hr2, e, e1, e2, nI_p1, ha 0 0 (by decide), ha 1 0 (by decide), ha 2 0 (by decide), ha 3 0 (by decide), ha 4 0 (by decide), ha 5 0 (by decide), ha 6 0 (by decide), ha 7 0 (by decide), ha 8 0 (by decide), ha 9 0 (by decide), ha 10 0 (by decide), ha 11 0 (by decide), ha 12 0 (by decide), hc 0 (by decide), hc 1 (by decide), hc 2 (by decide), hc 3 (by decide), hc 4 (by decide), hc 5 (by decide), hc 10 (by decide), hc 11 (by decide), hc 12 (by decide)]
  have p13 : cPl (aNW a (n 0) q q1 q2 q3 q4) 13 ((nu n 0) 0) (cE13 (aNW a (n 0) q q1 q2 q3 q4) d (nu n 0) op ad (cNW c (n 0) r x y)) = cPl a 13 (n 0) (cE13 a d n op ad c) ++ ([(q, .inr (6, [.int x, .int (nI r), .int x, .int y, .ref q1, .ref q2, .ref q3, .ref q4]))] : va_W) := by
    rw [e, cPl_succ (a := a) (e := cE13 a d n op ad c) (fun i hi => ⟨haN _ i hi, by simp only [cE13, haN _ i hi, hcN _ i hi]⟩)]
    congr 1
    simp [cE13, aNW, au, cNW]
  have p14 : cPl (aNW a (n 0) q q1 q2 q3 q4) 14 ((nu n 0) 0) (cE14 (aNW a (n 0) q q1 q2 q3 q4) d (nu n 0) op ad (cNW c (n 0) r x y)) = cPl a 14 (n 0) (cE14 a d n op ad c) ++ ([(q1, .inl (d.2 1, 28, .inl (fun _ => 0)))] : va_W) := by
    rw [e, cPl_succ (a := a) (e := cE14 a d n op ad c) (fun i hi => ⟨haN _ i hi, by simp only [cE14, haN _ i hi, hcN _ i hi]⟩)]
    congr 1
    simp [cE14, aNW, au]
    funext z
    simp [cNW]
  have p15 : cPl (aNW a (n 0) q q1 q2 q3 q4) 15 ((nu n 0) 0) (cE15 (aNW a (n 0) q q1 q2 q3 q4) d (nu n 0) op ad (cNW c (n 0) r x y)) = cPl a 15 (n 0) (cE15 a d n op ad c) ++ ([(q2, .inl (d.2 1, 28, .inl (fun _ => 0)))] : va_W) := by
    rw [e, cPl_succ (a := a) (e := cE15 a d n op ad c) (fun i hi => ⟨haN _ i hi, by simp only [cE15, haN _ i hi, hcN _ i hi]⟩)]
    congr 1
    simp [cE15, aNW, au]
    funext z
    simp [cNW]
  have p16 : cPl (aNW a (n 0) q q1 q2 q3 q4) 16 ((nu n 0) 0) (cE16 (aNW a (n 0) q q1 q2 q3 q4) d (nu n 0) op ad (cNW c (n 0) r x y)) = cPl a 16 (n 0) (cE16 a d n op ad c) ++ ([(q3, .inl (d.2 1, 50, .inl (upd (fun _ => 0) r y)))] : va_W) := by
    rw [e, cPl_succ (a := a) (e := cE16 a d n op ad c) (fun i hi => ⟨haN _ i hi, by simp only [cE16, haN _ i hi, hcN _ i hi]⟩)]
    congr 1
    simp [cE16, aNW, au]
    funext z
    simp [cNW]
  have p17 : cPl (aNW a (n 0) q q1 q2 q3 q4) 17 ((nu n 0) 0) (cE17 (aNW a (n 0) q q1 q2 q3 q4) d (nu n 0) op ad (cNW c (n 0) r x y)) = cPl a 17 (n 0) (cE17 a d n op ad c) ++ ([(q4, .inl (d.2 1, 1400, .inl (fun _ => 0)))] : va_W) := by
    rw [e, cPl_succ (a := a) (e := cE17 a d n op ad c) (fun i hi => ⟨haN _ i hi, by simp only [cE17, haN _ i hi, hcN _ i hi]⟩)]
    congr 1
    simp [cE17, aNW, au]
    funext z
    simp [cNW]
  have p18 : cPl (aNW a (n 0) q q1 q2 q3 q4) 18 ((nu n 0) 1) (cE18 (aNW a (n 0) q q1 q2 q3 q4) d (nu n 0) op ad (cNW c (n 0) r x y)) = cPl a 18 (n 1) (cE18 a d n op ad c) := by
    rw [e1]
    exact cPl_same (fun i hi => ⟨ha18 i, by simp only [cE18, hc18]⟩)
  have p19 : cPl (aNW a (n 0) q q1 q2 q3 q4) 19 ((nu n 0) 2) (cE19 (aNW a (n 0) q q1 q2 q3 q4) d (nu n 0) op ad (cNW c (n 0) r x y)) = cPl a 19 (n 2) (cE19 a d n op ad c) := by
    rw [e2]
    exact cPl_same (fun i hi => ⟨ha19 i, by simp only [cE19, hc19, ha20]⟩)
  have p20 : cPl (aNW a (n 0) q q1 q2 q3 q4) 20 ((nu n 0) 2) (cE20 (aNW a (n 0) q q1 q2 q3 q4) d (nu n 0) op ad (cNW c (n 0) r x y)) = cPl a 20 (n 2) (cE20 a d n op ad c) := by
    rw [e2]
    exact cPl_same (fun i hi => ⟨ha20 i, by simp only [cE20, hc20]⟩)
  have hl : ((cW a d n op ad c).set 6 (a 6 0, .inl (d.2 2, 10, .inr (.inr (.inr (.inr (va_up (cR a 13 (n 0)) (n 0) (some q)))))))).set 0 (a 0 0, .inr (7, [.ref (a 1 0), .ref (a 3 0), .ref (a 6 0), .ref (a 7 0), .ref (a 8 0), .ref (a 9 0), .int (nI (n 0) + 1), .int (nI (n 1)), .int (nI (n 2)), .int (c 0 0 9), .int (c 0 0 10)])) = ([(a 0 0, .inr (7, [.ref (a 1 0), .ref (a 3 0), .ref (a 6 0), .ref (a 7 0), .ref (a 8 0), .ref (a 9 0), .int (nI (n 0) + 1), .int (nI (n 1)), .int (nI (n 2)), .int (c 0 0 9), .int (c 0 0 10)])), (a 1 0, .inr (5, [.ref (a 2 0), .int (c 1 0 1)])), (a 2 0, .inl (d.2 0, 140, .inl (c 2 0))), (a 3 0, .inr (4, [.ref (a 4 0), .ref (a 5 0), .int (c 3 0 2), .int (c 3 0 3), va_re ad op, .int (c 3 0 5), .int (c 3 0 6)])), (a 4 0, .inl (d.2 1, 6, .inl (c 4 0))), (a 5 0, .inl (d.2 1, 6, .inl (c 5 0))), (a 6 0, .inl (d.2 2, 10, .inr (.inr (.inr (.inr (va_up (cR a 13 (n 0)) (n 0) (some q))))))), (a 7 0, .inl (d.2 3, 24, .inr (.inr (.inr (.inr (cR a 18 (n 1))))))), (a 8 0, .inl (d.2 4, 4, .inr (.inr (.inr (.inr (cR a 19 (n 2))))))), (a 9 0, .inr (0, [.ref (a 10 0), .ref (a 11 0), .ref (a 12 0)])), (a 10 0, .inl (d.2 1, 28, .inl (c 10 0))), (a 11 0, .inl (d.2 1, 28, .inl (c 11 0))), (a 12 0, .inl (d.2 1, 28, .inl (c 12 0)))] : va_W) ++ (cPl a 13 (n 0) (cE13 a d n op ad c) ++ (cPl a 14 (n 0) (cE14 a d n op ad c) ++ (cPl a 15 (n 0) (cE15 a d n op ad c) ++ (cPl a 16 (n 0) (cE16 a d n op ad c) ++ (cPl a 17 (n 0) (cE17 a d n op ad c) ++ (cPl a 18 (n 1) (cE18 a d n op ad c) ++ (cPl a 19 (n 2) (cE19 a d n op ad c) ++ (cPl a 20 (n 2) (cE20 a d n op ad c))))))))) := rfl
  rw [hl, cW, hX, p13, p14, p15, p16, p17, p18, p19, p20]
  exact perm_W_0 _ _ _ _ _ _ _ _ _ _ _ _ _ _

theorem perm_P_0 (X P13 P14 P15 P16 P17 P18 P19 P20 : va_W) (E18 : Nat × va_E) : (X ++ (P13 ++ (P14 ++ (P15 ++ (P16 ++ (P17 ++ (P18 ++ (P19 ++ (P20)))))))) ++ [E18]).Perm (X ++ (P13 ++ (P14 ++ (P15 ++ (P16 ++ (P17 ++ ((P18 ++ [E18]) ++ (P19 ++ (P20))))))))) := by
  letI : DecidableEq (Nat × va_E) := fun _ _ => Classical.propDecidable _
  refine List.perm_iff_count.mpr (fun z => ?_)
  simp only [List.count_append, List.count_cons, List.count_nil]
  omega
theorem perm_P {a : Nat → Nat → Nat} {d : jD} {n : Nat → Nat} {op : Option Nat} {ad : Nat → Nat} {c : Nat → Nat → Nat → Int32} (q : Nat) (x : Int32) : (((cW a d n op ad c).set 7 (a 7 0, .inl (d.2 3, 24, .inr (.inr (.inr (.inr (va_up (cR a 18 (n 1)) (n 1) (some q)))))))).set 0 (a 0 0, .inr (7, [.ref (a 1 0), .ref (a 3 0), .ref (a 6 0), .ref (a 7 0), .ref (a 8 0), .ref (a 9 0), .int (nI (n 0)), .int (nI (n 1) + 1), .int (nI (n 2)), .int (c 0 0 9), .int (c 0 0 10)])) ++ ([(q, .inr (3, [.int 1000, .int x]))] : va_W)).Perm (cW (au a 18 (n 1) q) d (nu n 1) op ad (cNP c (n 1) x)) := by
  have e : nu n 1 1 = n 1 + 1 := if_pos rfl
  have e0 : nu n 1 0 = n 0 := rfl
  have e2 : nu n 1 2 = n 2 := rfl
  have ha : ∀ k i, k < 13 → (au a 18 (n 1) q) k i = a k i := by
    intro k i hk
    simp only [au]
    repeat rw [if_neg (by omega)]
  have haN : ∀ k i, i < n 1 → (au a 18 (n 1) q) k i = a k i := by
    intro k i hi
    simp only [au]
    repeat rw [if_neg (by omega)]
  have hc : ∀ k, k < 13 → (cNP c (n 1) x) k = c k := by
    intro k hk
    funext i j
    by_cases hi : i = n 1 <;> simp [cNP, hi, show k ≠ 18 by omega]
  have hcN : ∀ k i, i < n 1 → (cNP c (n 1) x) k i = c k i := by
    intro k i hi
    funext j
    simp only [cNP]
    rw [if_neg (by omega)]
  have ha13 : ∀ i, (au a 18 (n 1) q) 13 i = a 13 i := by
    intro i
    simp only [au]
    repeat rw [if_neg (by omega)]
  have hc13 : (cNP c (n 1) x) 13 = c 13 := by
    funext i j
    simp [cNP]
  have ha14 : ∀ i, (au a 18 (n 1) q) 14 i = a 14 i := by
    intro i
    simp only [au]
    repeat rw [if_neg (by omega)]
  have hc14 : (cNP c (n 1) x) 14 = c 14 := by
    funext i j
    simp [cNP]
  have ha15 : ∀ i, (au a 18 (n 1) q) 15 i = a 15 i := by
    intro i
    simp only [au]
    repeat rw [if_neg (by omega)]
  have hc15 : (cNP c (n 1) x) 15 = c 15 := by
    funext i j
    simp [cNP]
  have ha16 : ∀ i, (au a 18 (n 1) q) 16 i = a 16 i := by
    intro i
    simp only [au]
    repeat rw [if_neg (by omega)]
  have hc16 : (cNP c (n 1) x) 16 = c 16 := by
    funext i j
    simp [cNP]
  have ha17 : ∀ i, (au a 18 (n 1) q) 17 i = a 17 i := by
    intro i
    simp only [au]
    repeat rw [if_neg (by omega)]
  have hc17 : (cNP c (n 1) x) 17 = c 17 := by
    funext i j
    simp [cNP]
  have ha19 : ∀ i, (au a 18 (n 1) q) 19 i = a 19 i := by
    intro i
    simp only [au]
    repeat rw [if_neg (by omega)]
  have hc19 : (cNP c (n 1) x) 19 = c 19 := by
    funext i j
    simp [cNP]
  have ha20 : ∀ i, (au a 18 (n 1) q) 20 i = a 20 i := by
    intro i
    simp only [au]
    repeat rw [if_neg (by omega)]
  have hc20 : (cNP c (n 1) x) 20 = c 20 := by
    funext i j
    simp [cNP]
  have hr : cR (au a 18 (n 1) q) 18 (n 1 + 1) = va_up (cR a 18 (n 1)) (n 1) (some q) := by
    exact cR_succ (fun i hi => haN _ i hi) (by simp [au])
  have hr0 : cR (au a 18 (n 1) q) 13 (n 0) = cR a 13 (n 0) := by
    funext i
    simp only [cR, ha13]
  have hr2 : cR (au a 18 (n 1) q) 19 (n 2) = cR a 19 (n 2) := by
    funext i
    simp only [cR, ha19]
  have hX : cX (au a 18 (n 1) q) d (nu n 1) op ad (cNP c (n 1) x) = ([(a 0 0, .inr (7, [.ref (a 1 0), .ref (a 3 0), .ref (a 6 0), .ref (a 7 0), .ref (a 8 0), .ref (a 9 0), .int (nI (n 0)), .int (nI (n 1) + 1), .int (nI (n 2)), .int (c 0 0 9), .int (c 0 0 10)])), (a 1 0, .inr (5, [.ref (a 2 0), .int (c 1 0 1)])), (a 2 0, .inl (d.2 0, 140, .inl (c 2 0))), (a 3 0, .inr (4, [.ref (a 4 0), .ref (a 5 0), .int (c 3 0 2), .int (c 3 0 3), va_re ad op, .int (c 3 0 5), .int (c 3 0 6)])), (a 4 0, .inl (d.2 1, 6, .inl (c 4 0))), (a 5 0, .inl (d.2 1, 6, .inl (c 5 0))), (a 6 0, .inl (d.2 2, 10, .inr (.inr (.inr (.inr (cR a 13 (n 0))))))), (a 7 0, .inl (d.2 3, 24, .inr (.inr (.inr (.inr (va_up (cR a 18 (n 1)) (n 1) (some q))))))), (a 8 0, .inl (d.2 4, 4, .inr (.inr (.inr (.inr (cR a 19 (n 2))))))), (a 9 0, .inr (0, [.ref (a 10 0), .ref (a 11 0), .ref (a 12 0)])), (a 10 0, .inl (d.2 1, 28, .inl (c 10 0))), (a 11 0, .inl (d.2 1, 28, .inl (c 11 0))), (a 12 0, .inl (d.2 1, 28, .inl (c 12 0)))] : va_W) := by
    simp only [cX, hr, hr0, hr2, e, e0, e2, nI_p1, ha 0 0 (by decide), ha 1 0 (by decide), ha 2 0 (by decide), ha 3 0 (by decide), ha 4 0 (by decide), ha 5 0 (by decide), ha 6 0 (by decide), ha 7 0 (by decide), ha 8 0 (by decide), ha 9 0 (by decide), ha 10 0 (by decide), ha 11 0 (by decide), ha 12 0 (by decide), hc 0 (by decide), hc 1 (by decide), hc 2 (by decide), hc 3 (by decide), hc 4 (by decide), hc 5 (by decide), hc 10 (by decide), hc 11 (by decide), hc 12 (by decide)]
  have p18 : cPl (au a 18 (n 1) q) 18 ((nu n 1) 1) (cE18 (au a 18 (n 1) q) d (nu n 1) op ad (cNP c (n 1) x)) = cPl a 18 (n 1) (cE18 a d n op ad c) ++ ([(q, .inr (3, [.int 1000, .int x]))] : va_W) := by
    rw [e, cPl_succ (a := a) (e := cE18 a d n op ad c) (fun i hi => ⟨haN _ i hi, by simp only [cE18, haN _ i hi, hcN _ i hi]⟩)]
    congr 1
    simp [cE18, au, cNP]
  have p13 : cPl (au a 18 (n 1) q) 13 ((nu n 1) 0) (cE13 (au a 18 (n 1) q) d (nu n 1) op ad (cNP c (n 1) x)) = cPl a 13 (n 0) (cE13 a d n op ad c) := by
    rw [e0]
    exact cPl_same (fun i hi => ⟨ha13 i, by simp only [cE13, hc13, ha14, ha15, ha16, ha17]⟩)
  have p14 : cPl (au a 18 (n 1) q) 14 ((nu n 1) 0) (cE14 (au a 18 (n 1) q) d (nu n 1) op ad (cNP c (n 1) x)) = cPl a 14 (n 0) (cE14 a d n op ad c) := by
    rw [e0]
    exact cPl_same (fun i hi => ⟨ha14 i, by simp only [cE14, hc14]⟩)
  have p15 : cPl (au a 18 (n 1) q) 15 ((nu n 1) 0) (cE15 (au a 18 (n 1) q) d (nu n 1) op ad (cNP c (n 1) x)) = cPl a 15 (n 0) (cE15 a d n op ad c) := by
    rw [e0]
    exact cPl_same (fun i hi => ⟨ha15 i, by simp only [cE15, hc15]⟩)
  have p16 : cPl (au a 18 (n 1) q) 16 ((nu n 1) 0) (cE16 (au a 18 (n 1) q) d (nu n 1) op ad (cNP c (n 1) x)) = cPl a 16 (n 0) (cE16 a d n op ad c) := by
    rw [e0]
    exact cPl_same (fun i hi => ⟨ha16 i, by simp only [cE16, hc16]⟩)
  have p17 : cPl (au a 18 (n 1) q) 17 ((nu n 1) 0) (cE17 (au a 18 (n 1) q) d (nu n 1) op ad (cNP c (n 1) x)) = cPl a 17 (n 0) (cE17 a d n op ad c) := by
    rw [e0]
    exact cPl_same (fun i hi => ⟨ha17 i, by simp only [cE17, hc17]⟩)
  have p19 : cPl (au a 18 (n 1) q) 19 ((nu n 1) 2) (cE19 (au a 18 (n 1) q) d (nu n 1) op ad (cNP c (n 1) x)) = cPl a 19 (n 2) (cE19 a d n op ad c) := by
    rw [e2]
    exact cPl_same (fun i hi => ⟨ha19 i, by simp only [cE19, hc19, ha20]⟩)
  have p20 : cPl (au a 18 (n 1) q) 20 ((nu n 1) 2) (cE20 (au a 18 (n 1) q) d (nu n 1) op ad (cNP c (n 1) x)) = cPl a 20 (n 2) (cE20 a d n op ad c) := by
    rw [e2]
    exact cPl_same (fun i hi => ⟨ha20 i, by simp only [cE20, hc20]⟩)
  have hl : ((cW a d n op ad c).set 7 (a 7 0, .inl (d.2 3, 24, .inr (.inr (.inr (.inr (va_up (cR a 18 (n 1)) (n 1) (some q)))))))).set 0 (a 0 0, .inr (7, [.ref (a 1 0), .ref (a 3 0), .ref (a 6 0), .ref (a 7 0), .ref (a 8 0), .ref (a 9 0), .int (nI (n 0)), .int (nI (n 1) + 1), .int (nI (n 2)), .int (c 0 0 9), .int (c 0 0 10)])) = ([(a 0 0, .inr (7, [.ref (a 1 0), .ref (a 3 0), .ref (a 6 0), .ref (a 7 0), .ref (a 8 0), .ref (a 9 0), .int (nI (n 0)), .int (nI (n 1) + 1), .int (nI (n 2)), .int (c 0 0 9), .int (c 0 0 10)])), (a 1 0, .inr (5, [.ref (a 2 0), .int (c 1 0 1)])), (a 2 0, .inl (d.2 0, 140, .inl (c 2 0))), (a 3 0, .inr (4, [.ref (a 4 0), .ref (a 5 0), .int (c 3 0 2), .int (c 3 0 3), va_re ad op, .int (c 3 0 5), .int (c 3 0 6)])), (a 4 0, .inl (d.2 1, 6, .inl (c 4 0))), (a 5 0, .inl (d.2 1, 6, .inl (c 5 0))), (a 6 0, .inl (d.2 2, 10, .inr (.inr (.inr (.inr (cR a 13 (n 0))))))), (a 7 0, .inl (d.2 3, 24, .inr (.inr (.inr (.inr (va_up (cR a 18 (n 1)) (n 1) (some q))))))), (a 8 0, .inl (d.2 4, 4, .inr (.inr (.inr (.inr (cR a 19 (n 2))))))), (a 9 0, .inr (0, [.ref (a 10 0), .ref (a 11 0), .ref (a 12 0)])), (a 10 0, .inl (d.2 1, 28, .inl (c 10 0))), (a 11 0, .inl (d.2 1, 28, .inl (c 11 0))), (a 12 0, .inl (d.2 1, 28, .inl (c 12 0)))] : va_W) ++ (cPl a 13 (n 0) (cE13 a d n op ad c) ++ (cPl a 14 (n 0) (cE14 a d n op ad c) ++ (cPl a 15 (n 0) (cE15 a d n op ad c) ++ (cPl a 16 (n 0) (cE16 a d n op ad c) ++ (cPl a 17 (n 0) (cE17 a d n op ad c) ++ (cPl a 18 (n 1) (cE18 a d n op ad c) ++ (cPl a 19 (n 2) (cE19 a d n op ad c) ++ (cPl a 20 (n 2) (cE20 a d n op ad c))))))))) := rfl
  rw [hl, cW, hX, p13, p14, p15, p16, p17, p18, p19, p20]
  exact perm_P_0 _ _ _ _ _ _ _ _ _ _

theorem perm_F_0 (X P13 P14 P15 P16 P17 P18 P19 P20 : va_W) (E19 E20 : Nat × va_E) : (X ++ (P13 ++ (P14 ++ (P15 ++ (P16 ++ (P17 ++ (P18 ++ (P19 ++ (P20)))))))) ++ [E19, E20]).Perm (X ++ (P13 ++ (P14 ++ (P15 ++ (P16 ++ (P17 ++ (P18 ++ ((P19 ++ [E19]) ++ ((P20 ++ [E20])))))))))) := by
  letI : DecidableEq (Nat × va_E) := fun _ _ => Classical.propDecidable _
  refine List.perm_iff_count.mpr (fun z => ?_)
  simp only [List.count_append, List.count_cons, List.count_nil]
  omega
theorem perm_F {a : Nat → Nat → Nat} {d : jD} {n : Nat → Nat} {op : Option Nat} {ad : Nat → Nat} {c : Nat → Nat → Nat → Int32} (q q1 : Nat) (x : Int32) : (((cW a d n op ad c).set 8 (a 8 0, .inl (d.2 4, 4, .inr (.inr (.inr (.inr (va_up (cR a 19 (n 2)) (n 2) (some q)))))))).set 0 (a 0 0, .inr (7, [.ref (a 1 0), .ref (a 3 0), .ref (a 6 0), .ref (a 7 0), .ref (a 8 0), .ref (a 9 0), .int (nI (n 0)), .int (nI (n 1)), .int (nI (n 2) + 1), .int (c 0 0 9), .int (c 0 0 10)])) ++ ([(q, .inr (2, [.int 0, .int x, .ref q1, .int 0])), (q1, .inl (d.2 1, 24, .inl (fun _ => 0)))] : va_W)).Perm (cW (au (au a 19 (n 2) q) 20 (n 2) q1) d (nu n 2) op ad (cNF c (n 2) x)) := by
  have e : nu n 2 2 = n 2 + 1 := if_pos rfl
  have e0 : nu n 2 0 = n 0 := rfl
  have e1 : nu n 2 1 = n 1 := rfl
  have ha : ∀ k i, k < 13 → (au (au a 19 (n 2) q) 20 (n 2) q1) k i = a k i := by
    intro k i hk
    simp only [au]
    repeat rw [if_neg (by omega)]
  have haN : ∀ k i, i < n 2 → (au (au a 19 (n 2) q) 20 (n 2) q1) k i = a k i := by
    intro k i hi
    simp only [au]
    repeat rw [if_neg (by omega)]
  have hc : ∀ k, k < 13 → (cNF c (n 2) x) k = c k := by
    intro k hk
    funext i j
    by_cases hi : i = n 2 <;> simp [cNF, hi, show k ≠ 19 by omega, show k ≠ 20 by omega]
  have hcN : ∀ k i, i < n 2 → (cNF c (n 2) x) k i = c k i := by
    intro k i hi
    funext j
    simp only [cNF]
    rw [if_neg (by omega)]
  have ha13 : ∀ i, (au (au a 19 (n 2) q) 20 (n 2) q1) 13 i = a 13 i := by
    intro i
    simp only [au]
    repeat rw [if_neg (by omega)]
  have hc13 : (cNF c (n 2) x) 13 = c 13 := by
    funext i j
    simp [cNF]
  have ha14 : ∀ i, (au (au a 19 (n 2) q) 20 (n 2) q1) 14 i = a 14 i := by
    intro i
    simp only [au]
    repeat rw [if_neg (by omega)]
  have hc14 : (cNF c (n 2) x) 14 = c 14 := by
    funext i j
    simp [cNF]
  have ha15 : ∀ i, (au (au a 19 (n 2) q) 20 (n 2) q1) 15 i = a 15 i := by
    intro i
    simp only [au]
    repeat rw [if_neg (by omega)]
  have hc15 : (cNF c (n 2) x) 15 = c 15 := by
    funext i j
    simp [cNF]
  have ha16 : ∀ i, (au (au a 19 (n 2) q) 20 (n 2) q1) 16 i = a 16 i := by
    intro i
    simp only [au]
    repeat rw [if_neg (by omega)]
  have hc16 : (cNF c (n 2) x) 16 = c 16 := by
    funext i j
    simp [cNF]
  have ha17 : ∀ i, (au (au a 19 (n 2) q) 20 (n 2) q1) 17 i = a 17 i := by
    intro i
    simp only [au]
    repeat rw [if_neg (by omega)]
  have hc17 : (cNF c (n 2) x) 17 = c 17 := by
    funext i j
    simp [cNF]
  have ha18 : ∀ i, (au (au a 19 (n 2) q) 20 (n 2) q1) 18 i = a 18 i := by
    intro i
    simp only [au]
    repeat rw [if_neg (by omega)]
  have hc18 : (cNF c (n 2) x) 18 = c 18 := by
    funext i j
    simp [cNF]
  have hr : cR (au (au a 19 (n 2) q) 20 (n 2) q1) 19 (n 2 + 1) = va_up (cR a 19 (n 2)) (n 2) (some q) := by
    exact cR_succ (fun i hi => haN _ i hi) (by simp [au])
  have hr0 : cR (au (au a 19 (n 2) q) 20 (n 2) q1) 13 (n 0) = cR a 13 (n 0) := by
    funext i
    simp only [cR, ha13]
  have hr1 : cR (au (au a 19 (n 2) q) 20 (n 2) q1) 18 (n 1) = cR a 18 (n 1) := by
    funext i
    simp only [cR, ha18]
  have hX : cX (au (au a 19 (n 2) q) 20 (n 2) q1) d (nu n 2) op ad (cNF c (n 2) x) = ([(a 0 0, .inr (7, [.ref (a 1 0), .ref (a 3 0), .ref (a 6 0), .ref (a 7 0), .ref (a 8 0), .ref (a 9 0), .int (nI (n 0)), .int (nI (n 1)), .int (nI (n 2) + 1), .int (c 0 0 9), .int (c 0 0 10)])), (a 1 0, .inr (5, [.ref (a 2 0), .int (c 1 0 1)])), (a 2 0, .inl (d.2 0, 140, .inl (c 2 0))), (a 3 0, .inr (4, [.ref (a 4 0), .ref (a 5 0), .int (c 3 0 2), .int (c 3 0 3), va_re ad op, .int (c 3 0 5), .int (c 3 0 6)])), (a 4 0, .inl (d.2 1, 6, .inl (c 4 0))), (a 5 0, .inl (d.2 1, 6, .inl (c 5 0))), (a 6 0, .inl (d.2 2, 10, .inr (.inr (.inr (.inr (cR a 13 (n 0))))))), (a 7 0, .inl (d.2 3, 24, .inr (.inr (.inr (.inr (cR a 18 (n 1))))))), (a 8 0, .inl (d.2 4, 4, .inr (.inr (.inr (.inr (va_up (cR a 19 (n 2)) (n 2) (some q))))))), (a 9 0, .inr (0, [.ref (a 10 0), .ref (a 11 0), .ref (a 12 0)])), (a 10 0, .inl (d.2 1, 28, .inl (c 10 0))), (a 11 0, .inl (d.2 1, 28, .inl (c 11 0))), (a 12 0, .inl (d.2 1, 28, .inl (c 12 0)))] : va_W) := by
    simp only [cX, hr, hr0, hr1, e, e0, e1, nI_p1, ha 0 0 (by decide), ha 1 0 (by decide), ha 2 0 (by decide), ha 3 0 (by decide), ha 4 0 (by decide), ha 5 0 (by decide), ha 6 0 (by decide), ha 7 0 (by decide), ha 8 0 (by decide), ha 9 0 (by decide), ha 10 0 (by decide), ha 11 0 (by decide), ha 12 0 (by decide), hc 0 (by decide), hc 1 (by decide), hc 2 (by decide), hc 3 (by decide), hc 4 (by decide), hc 5 (by decide), hc 10 (by decide), hc 11 (by decide), hc 12 (by decide)]
  have p19 : cPl (au (au a 19 (n 2) q) 20 (n 2) q1) 19 ((nu n 2) 2) (cE19 (au (au a 19 (n 2) q) 20 (n 2) q1) d (nu n 2) op ad (cNF c (n 2) x)) = cPl a 19 (n 2) (cE19 a d n op ad c) ++ ([(q, .inr (2, [.int 0, .int x, .ref q1, .int 0]))] : va_W) := by
    rw [e, cPl_succ (a := a) (e := cE19 a d n op ad c) (fun i hi => ⟨haN _ i hi, by simp only [cE19, haN _ i hi, hcN _ i hi]⟩)]
    congr 1
    simp [cE19, au, cNF]
  have p20 : cPl (au (au a 19 (n 2) q) 20 (n 2) q1) 20 ((nu n 2) 2) (cE20 (au (au a 19 (n 2) q) 20 (n 2) q1) d (nu n 2) op ad (cNF c (n 2) x)) = cPl a 20 (n 2) (cE20 a d n op ad c) ++ ([(q1, .inl (d.2 1, 24, .inl (fun _ => 0)))] : va_W) := by
    rw [e, cPl_succ (a := a) (e := cE20 a d n op ad c) (fun i hi => ⟨haN _ i hi, by simp only [cE20, haN _ i hi, hcN _ i hi]⟩)]
    congr 1
    simp [cE20, au]
    funext z
    simp [cNF]
  have p13 : cPl (au (au a 19 (n 2) q) 20 (n 2) q1) 13 ((nu n 2) 0) (cE13 (au (au a 19 (n 2) q) 20 (n 2) q1) d (nu n 2) op ad (cNF c (n 2) x)) = cPl a 13 (n 0) (cE13 a d n op ad c) := by
    rw [e0]
    exact cPl_same (fun i hi => ⟨ha13 i, by simp only [cE13, hc13, ha14, ha15, ha16, ha17]⟩)
  have p14 : cPl (au (au a 19 (n 2) q) 20 (n 2) q1) 14 ((nu n 2) 0) (cE14 (au (au a 19 (n 2) q) 20 (n 2) q1) d (nu n 2) op ad (cNF c (n 2) x)) = cPl a 14 (n 0) (cE14 a d n op ad c) := by
    rw [e0]
    exact cPl_same (fun i hi => ⟨ha14 i, by simp only [cE14, hc14]⟩)
  have p15 : cPl (au (au a 19 (n 2) q) 20 (n 2) q1) 15 ((nu n 2) 0) (cE15 (au (au a 19 (n 2) q) 20 (n 2) q1) d (nu n 2) op ad (cNF c (n 2) x)) = cPl a 15 (n 0) (cE15 a d n op ad c) := by
    rw [e0]
    exact cPl_same (fun i hi => ⟨ha15 i, by simp only [cE15, hc15]⟩)
  have p16 : cPl (au (au a 19 (n 2) q) 20 (n 2) q1) 16 ((nu n 2) 0) (cE16 (au (au a 19 (n 2) q) 20 (n 2) q1) d (nu n 2) op ad (cNF c (n 2) x)) = cPl a 16 (n 0) (cE16 a d n op ad c) := by
    rw [e0]
    exact cPl_same (fun i hi => ⟨ha16 i, by simp only [cE16, hc16]⟩)
  have p17 : cPl (au (au a 19 (n 2) q) 20 (n 2) q1) 17 ((nu n 2) 0) (cE17 (au (au a 19 (n 2) q) 20 (n 2) q1) d (nu n 2) op ad (cNF c (n 2) x)) = cPl a 17 (n 0) (cE17 a d n op ad c) := by
    rw [e0]
    exact cPl_same (fun i hi => ⟨ha17 i, by simp only [cE17, hc17]⟩)
  have p18 : cPl (au (au a 19 (n 2) q) 20 (n 2) q1) 18 ((nu n 2) 1) (cE18 (au (au a 19 (n 2) q) 20 (n 2) q1) d (nu n 2) op ad (cNF c (n 2) x)) = cPl a 18 (n 1) (cE18 a d n op ad c) := by
    rw [e1]
    exact cPl_same (fun i hi => ⟨ha18 i, by simp only [cE18, hc18]⟩)
  have hl : ((cW a d n op ad c).set 8 (a 8 0, .inl (d.2 4, 4, .inr (.inr (.inr (.inr (va_up (cR a 19 (n 2)) (n 2) (some q)))))))).set 0 (a 0 0, .inr (7, [.ref (a 1 0), .ref (a 3 0), .ref (a 6 0), .ref (a 7 0), .ref (a 8 0), .ref (a 9 0), .int (nI (n 0)), .int (nI (n 1)), .int (nI (n 2) + 1), .int (c 0 0 9), .int (c 0 0 10)])) = ([(a 0 0, .inr (7, [.ref (a 1 0), .ref (a 3 0), .ref (a 6 0), .ref (a 7 0), .ref (a 8 0), .ref (a 9 0), .int (nI (n 0)), .int (nI (n 1)), .int (nI (n 2) + 1), .int (c 0 0 9), .int (c 0 0 10)])), (a 1 0, .inr (5, [.ref (a 2 0), .int (c 1 0 1)])), (a 2 0, .inl (d.2 0, 140, .inl (c 2 0))), (a 3 0, .inr (4, [.ref (a 4 0), .ref (a 5 0), .int (c 3 0 2), .int (c 3 0 3), va_re ad op, .int (c 3 0 5), .int (c 3 0 6)])), (a 4 0, .inl (d.2 1, 6, .inl (c 4 0))), (a 5 0, .inl (d.2 1, 6, .inl (c 5 0))), (a 6 0, .inl (d.2 2, 10, .inr (.inr (.inr (.inr (cR a 13 (n 0))))))), (a 7 0, .inl (d.2 3, 24, .inr (.inr (.inr (.inr (cR a 18 (n 1))))))), (a 8 0, .inl (d.2 4, 4, .inr (.inr (.inr (.inr (va_up (cR a 19 (n 2)) (n 2) (some q))))))), (a 9 0, .inr (0, [.ref (a 10 0), .ref (a 11 0), .ref (a 12 0)])), (a 10 0, .inl (d.2 1, 28, .inl (c 10 0))), (a 11 0, .inl (d.2 1, 28, .inl (c 11 0))), (a 12 0, .inl (d.2 1, 28, .inl (c 12 0)))] : va_W) ++ (cPl a 13 (n 0) (cE13 a d n op ad c) ++ (cPl a 14 (n 0) (cE14 a d n op ad c) ++ (cPl a 15 (n 0) (cE15 a d n op ad c) ++ (cPl a 16 (n 0) (cE16 a d n op ad c) ++ (cPl a 17 (n 0) (cE17 a d n op ad c) ++ (cPl a 18 (n 1) (cE18 a d n op ad c) ++ (cPl a 19 (n 2) (cE19 a d n op ad c) ++ (cPl a 20 (n 2) (cE20 a d n op ad c))))))))) := rfl
  rw [hl, cW, hX, p13, p14, p15, p16, p17, p18, p19, p20]
  exact perm_F_0 _ _ _ _ _ _ _ _ _ _ _

def zWork (n : Nat → Nat) (c : Nat → Nat → Nat → Int32) (r : Nat) (x y : Int32) : Int32 × (Nat → Nat) × (Nat → Nat → Nat → Int32) := if n 0 < 10 ∧ (1 ≤ x ∧ x ≤ 1000) ∧ (1 ≤ y ∧ y ≤ 9999) then (nI (n 0), nu n 0, cNW c (n 0) r x y) else (-1, n, c)
def zPerson (n : Nat → Nat) (c : Nat → Nat → Nat → Int32) (x : Int32) : Int32 × (Nat → Nat) × (Nat → Nat → Nat → Int32) := if n 1 < 24 ∧ (x = -1 ∨ kW n x) then (nI (n 1), nu n 1, cNP c (n 1) x) else (-1, n, c)
def zFund (n : Nat → Nat) (c : Nat → Nat → Nat → Int32) (x : Int32) : Int32 × (Nat → Nat) × (Nat → Nat → Nat → Int32) := if n 2 < 4 ∧ (0 ≤ x ∧ x ≤ 500) then (nI (24 + n 2), nu n 2, cNF c (n 2) x) else (-1, n, c)
theorem nI_s1 (k : Nat) : nI (k + 1) - 1 = nI k := by rw [nI_p1]; exact Int32.add_sub_cancel _ _
theorem nI_s24 (k : Nat) : 24 + nI (k + 1) - 1 = nI (24 + k) := by rw [show (24 : Int32) = nI 24 from rfl, nI_add, show 24 + (k + 1) = (24 + k) + 1 by omega, nI_s1]

theorem au_0 {a : Nat → Nat → Nat} {k i v k2 i2 : Nat} (h : k2 ≠ k) : au a k i v k2 i2 = a k2 i2 := if_neg (fun q => h q.1)
theorem aNW_0 {a : Nat → Nat → Nat} {N q q1 q2 q3 q4 : Nat} : aNW a N q q1 q2 q3 q4 0 0 = a 0 0 := (au_0 (by decide)).trans ((au_0 (by decide)).trans ((au_0 (by decide)).trans ((au_0 (by decide)).trans (au_0 (by decide)))))

set_option maxHeartbeats 4000000 in
set_option maxRecDepth 100000 in
theorem cc_X9_work (l : Launch) (d : jD) (ad adK adV : Nat → Nat) (al : Nat) (a : Nat → Nat → Nat) (n : Nat → Nat) (op : Option Nat) (c : Nat → Nat → Nat → Int32) (hn : nOK n) (x y : Int32) (r : Nat) (hr : r < 50) (hr9 : c 0 0 9 = nI r) : jMi (cEf ad adK adV al) d l yX9_work wsX9_work ({ frames := 2, cells := 5, slots := 1514, locals := 45 } : Room) 5 1514 [.ref (a 0 0), .int x, .int y] (cW a d n op ad c) (fun r1 u => ∃ a2 : Nat → Nat → Nat, a2 0 0 = a 0 0 ∧ r1 = (zWork n c r x y).1 ∧ u = cW a2 d (zWork n c r x y).2.1 op ad (zWork n c r x y).2.2) := by
  refine jMi.mk (cEf_k ad adK adV al) (by decide) rfl (Nat.le_of_ble_eq_true rfl) (fun X A C hQ => ?_)
  have hinX8 : ∀ w ∈ u_ws RX8 TX8 8, w ∈ wsX9_work := fun w h => List.mem_cons_of_mem _ (List.mem_append_right _ h)
  have hinX9 : ∀ w ∈ u_ws RX9 TX9 11, w ∈ wsX9_work := fun w h => List.mem_cons_of_mem _ (List.mem_append_left _ (List.mem_append_right _ h))
  obtain ⟨hn0, hn1, hn2⟩ := id hn
  refine j_lvq (lv2 := [(0, .ref (a 0 0)), (1, .int x), (2, .int y)]) rfl ?_
  refine j_aload_n C 0 dX9_work_0 rfl rfl ?_
  refine kg_0_workCount C hinX9 (by decide +kernel) dX9_work_1 ?_
  refine j_aload_n C 0 dX9_work_4 rfl rfl ?_
  refine kg_0_works C hinX9 (by decide +kernel) dX9_work_5 ?_
  refine kn_6 C dX9_work_8 ?_
  refine j_icmp_ge C 34 dX9_work_9 (by decide) (fun c9 => ?_) (fun c9 => ?_)
  · have c9 := (nI_leI (a := 10) (b := n 0) (by omega) (by omega)).mp c9
    refine j_widen (k1 := 5) (n1 := 1514) (Nat.le_of_ble_eq_true rfl) (Nat.le_of_ble_eq_true rfl) ?_
    refine j_iconst C (-1) dX9_work_34 (by decide) ?_
    exact j_iret C hQ dX9_work_35 (⟨a, rfl, by rw [zWork, if_neg (fun h => by have := h.1; omega)], by rw [zWork, if_neg (fun h => by have := h.1; omega)]⟩)
  · have c9 : ¬ (10 ≤ (n 0)) := fun h => c9 ((nI_leI (a := 10) (b := n 0) (by omega) (by omega)).mpr h)
    refine j_iload_n C 1 dX9_work_12 rfl rfl ?_
    refine j_iconst C 1 dX9_work_13 (by decide) ?_
    refine j_sipush C 1000 dX9_work_14 (by decide) ?_
    refine j_callS_i C 3 (cc_X9_isWithin (cEf ad adK adV al) (cEf_k ad adK adV al) l d _ x 1 1000) gX9_work_X9_isWithin rfl rfl rfl (by decide +kernel) ⟨(Nat.le_of_ble_eq_true rfl), (Nat.le_of_ble_eq_true rfl)⟩ ⟨(Nat.le_of_ble_eq_true rfl), (Nat.le_of_ble_eq_true rfl)⟩ rfl rfl (Nat.le_of_ble_eq_true rfl) dX9_work_17 (fun r17 u17 h17 => ?_)
    obtain ⟨rfl, rfl⟩ := h17
    refine j_if_eq C 34 dX9_work_20 (by decide) (fun c20 => ?_) (fun c20 => ?_)
    · refine j_widen (k1 := 5) (n1 := 1514) (Nat.le_of_ble_eq_true rfl) (Nat.le_of_ble_eq_true rfl) ?_
      refine j_iconst C (-1) dX9_work_34 (by decide) ?_
      exact j_iret C hQ dX9_work_35 (⟨a, rfl, by rw [zWork, if_neg (fun h => bI_0.mp c20 h.2.1)], by rw [zWork, if_neg (fun h => bI_0.mp c20 h.2.1)]⟩)
    · refine j_iload_n C 2 dX9_work_23 rfl rfl ?_
      refine j_iconst C 1 dX9_work_24 (by decide) ?_
      refine j_sipush C 9999 dX9_work_25 (by decide) ?_
      refine j_callS_i C 3 (cc_X9_isWithin (cEf ad adK adV al) (cEf_k ad adK adV al) l d _ y 1 9999) gX9_work_X9_isWithin rfl rfl rfl (by decide +kernel) ⟨(Nat.le_of_ble_eq_true rfl), (Nat.le_of_ble_eq_true rfl)⟩ ⟨(Nat.le_of_ble_eq_true rfl), (Nat.le_of_ble_eq_true rfl)⟩ rfl rfl (Nat.le_of_ble_eq_true rfl) dX9_work_28 (fun r28 u28 h28 => ?_)
      obtain ⟨rfl, rfl⟩ := h28
      refine j_if_ne C 36 dX9_work_31 (by decide) (fun c31 => ?_) (fun c31 => ?_)
      · have ok : n 0 < 10 ∧ (1 ≤ x ∧ x ≤ 1000) ∧ (1 ≤ y ∧ y ≤ 9999) := ⟨by omega, bI_n0.mp c20, bI_n0.mp c31⟩
        refine j_aload_n C 0 dX9_work_36 rfl rfl ?_
        refine kg_0_works C hinX9 (by decide +kernel) dX9_work_37 ?_
        refine j_aload_n C 0 dX9_work_40 rfl rfl ?_
        refine kg_0_workCount C hinX9 (by decide +kernel) dX9_work_41 ?_
        refine j_new (ty0 := tyX8) C [.int 0, .int 0, .int 0, .int 0, .null, .null, .null, .null] hinX8 tyX8_ok (by decide +kernel) (by decide +kernel) (by decide +kernel) (ci := 6) rfl (fun j hj => by rcases (show j = 0 ∨ j = 1 ∨ j = 2 ∨ j = 3 ∨ j = 4 ∨ j = 5 ∨ j = 6 ∨ j = 7 by omega) with rfl | rfl | rfl | rfl | rfl | rfl | rfl | rfl <;> rfl) ⟨(Nat.le_of_ble_eq_true rfl), (Nat.le_of_ble_eq_true rfl)⟩ dX9_work_44 (fun q => ?_)
        refine j_dup C dX9_work_47 rfl ?_
        refine j_iload_n C 1 dX9_work_48 rfl rfl ?_
        refine j_iload_n C 2 dX9_work_49 rfl rfl ?_
        refine j_aload_n C 0 dX9_work_50 rfl rfl ?_
        refine j_get C hinX9 0 9 (lft cG_0) rfl (by decide) (by decide +kernel) rfl dX9_work_51 ?_
        refine j_st (st2 := [.int (nI r), .int y, .int x, .ref q, .ref q, .int (nI (n 0)), .ref (a 6 0)]) (congrArg (fun z => Value.int z :: _) hr9) ?_
        refine j_callI_vF C 3 (wa := cW a d n op ad c) (wc := [(q, .inr (6, [.int 0, .int 0, .int 0, .int 0, .null, .null, .null, .null]))]) (wb := []) (List.append_nil _).symm (cc_X8_init l d ad adK adV al q x y r hr) gX9_work_X8_init (by decide +kernel) (by decide +kernel) (by decide +kernel) rfl rfl rfl rfl (by decide +kernel) ⟨(Nat.le_of_ble_eq_true rfl), (Nat.le_of_ble_eq_true rfl)⟩ ⟨(Nat.le_of_ble_eq_true rfl), (Nat.le_of_ble_eq_true rfl)⟩ rfl rfl (Nat.le_of_ble_eq_true rfl) dX9_work_54 (fun u hu => ?_)
        obtain ⟨q1, q2, q3, q4, rfl⟩ := hu
        refine j_ws (ws2 := cW a d n op ad c ++ ([(q, .inr (6, [.int x, .int (nI r), .int x, .int y, .ref q1, .ref q2, .ref q3, .ref q4])), (q1, .inl (d.2 1, 28, .inl (fun _ => 0))), (q2, .inl (d.2 1, 28, .inl (fun _ => 0))), (q3, .inl (d.2 1, 50, .inl (upd (fun _ => 0) r y))), (q4, .inl (d.2 1, 1400, .inl (fun _ => 0)))] : va_W)) (List.append_nil _) ?_
        refine j_widen (k1 := 5) (n1 := 1514) (Nat.le_of_ble_eq_true rfl) (Nat.le_of_ble_eq_true rfl) ?_
        refine j_astq C 6 2 (cW a d n op ad c).length 6 (n 0) (lft cG_6) rfl bk_get rfl rfl (by omega) (by decide) (up_set (cW_len (by decide))) dX9_work_57 ?_
        have he0 : ((cW a d n op ad c).set 6 (a 6 0, .inl (d.2 2, 10, .inr (.inr (.inr (.inr (va_up (cR a 13 (n 0)) (n 0) (some q))))))) ++ ([(q, .inr (6, [.int x, .int (nI r), .int x, .int y, .ref q1, .ref q2, .ref q3, .ref q4])), (q1, .inl (d.2 1, 28, .inl (fun _ => 0))), (q2, .inl (d.2 1, 28, .inl (fun _ => 0))), (q3, .inl (d.2 1, 50, .inl (upd (fun _ => 0) r y))), (q4, .inl (d.2 1, 1400, .inl (fun _ => 0)))] : va_W))[0]? = some (a 0 0, .inr (7, [.ref (a 1 0), .ref (a 3 0), .ref (a 6 0), .ref (a 7 0), .ref (a 8 0), .ref (a 9 0), .int (nI (n 0)), .int (nI (n 1)), .int (nI (n 2)), .int (c 0 0 9), .int (c 0 0 10)])) := lft rfl
        refine j_aload_n C 0 dX9_work_58 rfl rfl ?_
        refine j_dup C dX9_work_59 rfl ?_
        refine j_get C hinX9 0 6 (he0 : ((cW a d n op ad c).set 6 (a 6 0, .inl (d.2 2, 10, .inr (.inr (.inr (.inr (va_up (cR a 13 (n 0)) (n 0) (some q))))))) ++ ([(q, .inr (6, [.int x, .int (nI r), .int x, .int y, .ref q1, .ref q2, .ref q3, .ref q4])), (q1, .inl (d.2 1, 28, .inl (fun _ => 0))), (q2, .inl (d.2 1, 28, .inl (fun _ => 0))), (q3, .inl (d.2 1, 50, .inl (upd (fun _ => 0) r y))), (q4, .inl (d.2 1, 1400, .inl (fun _ => 0)))] : va_W))[0]? = _) rfl (by decide) (by decide +kernel) rfl dX9_work_60 ?_
        refine j_iconst C 1 dX9_work_63 (by decide) ?_
        refine j_iadd C dX9_work_64 ?_
        refine j_put C hinX9 tyX9_ok nmX9 0 6 he0 rfl (by decide) (by decide +kernel) rfl (ty := .int) rfl rfl rfl (by decide : 6 < 11) (ws2 := ((cW a d n op ad c).set 6 (a 6 0, .inl (d.2 2, 10, .inr (.inr (.inr (.inr (va_up (cR a 13 (n 0)) (n 0) (some q)))))))).set 0 (a 0 0, .inr (7, [.ref (a 1 0), .ref (a 3 0), .ref (a 6 0), .ref (a 7 0), .ref (a 8 0), .ref (a 9 0), .int (nI (n 0) + 1), .int (nI (n 1)), .int (nI (n 2)), .int (c 0 0 9), .int (c 0 0 10)])) ++ ([(q, .inr (6, [.int x, .int (nI r), .int x, .int y, .ref q1, .ref q2, .ref q3, .ref q4])), (q1, .inl (d.2 1, 28, .inl (fun _ => 0))), (q2, .inl (d.2 1, 28, .inl (fun _ => 0))), (q3, .inl (d.2 1, 50, .inl (upd (fun _ => 0) r y))), (q4, .inl (d.2 1, 1400, .inl (fun _ => 0)))] : va_W)) (up_set (by rw [List.length_set]; exact cW_len (by decide))) dX9_work_65 ?_
        refine j_perm (perm_W q q1 q2 q3 q4 r x y) ?_
        refine j_lvq (lv2 := [(0, .ref ((aNW a (n 0) q q1 q2 q3 q4) 0 0)), (1, .int x), (2, .int y)]) (by rw [show (aNW a (n 0) q q1 q2 q3 q4) 0 0 = a 0 0 from aNW_0]) ?_
        refine j_aload_n C 0 dX9_work_68 rfl rfl ?_
        refine kg_0_workCount C hinX9 (by decide +kernel) dX9_work_69 ?_
        refine j_iconst C 1 dX9_work_72 (by decide) ?_
        refine j_isub C dX9_work_73 ?_
        exact j_iret C hQ dX9_work_74 ⟨aNW a (n 0) q q1 q2 q3 q4, aNW_0, by rw [zWork, if_pos ok, show nu n 0 0 = n 0 + 1 from if_pos rfl, nI_s1], by rw [zWork, if_pos ok]⟩
      · refine j_widen (k1 := 5) (n1 := 1514) (Nat.le_of_ble_eq_true rfl) (Nat.le_of_ble_eq_true rfl) ?_
        refine j_iconst C (-1) dX9_work_34 (by decide) ?_
        exact j_iret C hQ dX9_work_35 (⟨a, rfl, by rw [zWork, if_neg (fun h => bI_0.mp c31 h.2.2)], by rw [zWork, if_neg (fun h => bI_0.mp c31 h.2.2)]⟩)

set_option maxHeartbeats 4000000 in
set_option maxRecDepth 100000 in
theorem cc_X9_person (l : Launch) (d : jD) (ad adK adV : Nat → Nat) (al : Nat) (a : Nat → Nat → Nat) (n : Nat → Nat) (op : Option Nat) (c : Nat → Nat → Nat → Int32) (hn : nOK n) (x : Int32) : jMi (cEf ad adK adV al) d l yX9_person wsX9_person ({ frames := 3, cells := 1, slots := 2, locals := 61 } : Room) 1 2 [.ref (a 0 0), .int x] (cW a d n op ad c) (fun r1 u => ∃ a2 : Nat → Nat → Nat, a2 0 0 = a 0 0 ∧ r1 = (zPerson n c x).1 ∧ u = cW a2 d (zPerson n c x).2.1 op ad (zPerson n c x).2.2) := by
  refine jMi.mk (cEf_k ad adK adV al) (by decide) rfl (Nat.le_of_ble_eq_true rfl) (fun X A C hQ => ?_)
  have hinX4 : ∀ w ∈ u_ws RX4 TX4 2, w ∈ wsX9_person := fun w h => List.mem_cons_of_mem _ (List.mem_append_left _ (List.mem_append_right _ h))
  have hinX9 : ∀ w ∈ u_ws RX9 TX9 11, w ∈ wsX9_person := fun w h => List.mem_cons_of_mem _ (List.mem_append_left _ (List.mem_append_left _ (List.mem_append_right _ h)))
  obtain ⟨hn0, hn1, hn2⟩ := id hn
  refine j_lvq (lv2 := [(0, .ref (a 0 0)), (1, .int x)]) rfl ?_
  refine j_aload_n C 0 dX9_person_0 rfl rfl ?_
  refine kg_0_peopleCount C hinX9 (by decide +kernel) dX9_person_1 ?_
  refine j_aload_n C 0 dX9_person_4 rfl rfl ?_
  refine kg_0_people C hinX9 (by decide +kernel) dX9_person_5 ?_
  refine kn_7 C dX9_person_8 ?_
  refine j_icmp_ge C 25 dX9_person_9 (by decide) (fun c9 => ?_) (fun c9 => ?_)
  · have c9 := (nI_leI (a := 24) (b := n 1) (by omega) (by omega)).mp c9
    refine j_widen (k1 := 1) (n1 := 2) (Nat.le_of_ble_eq_true rfl) (Nat.le_of_ble_eq_true rfl) ?_
    refine j_iconst C (-1) dX9_person_25 (by decide) ?_
    exact j_iret C hQ dX9_person_26 (⟨a, rfl, by rw [zPerson, if_neg (fun h => by have := h.1; omega)], by rw [zPerson, if_neg (fun h => by have := h.1; omega)]⟩)
  · have c9 : ¬ (24 ≤ (n 1)) := fun h => c9 ((nI_leI (a := 24) (b := n 1) (by omega) (by omega)).mpr h)
    refine j_iload_n C 1 dX9_person_12 rfl rfl ?_
    refine j_iconst C (-1) dX9_person_13 (by decide) ?_
    refine j_icmp_eq C 27 dX9_person_14 (by decide) (fun c14 => ?_) (fun c14 => ?_)
    · have ok : n 1 < 24 ∧ (x = -1 ∨ kW n x) := ⟨by omega, Or.inl c14⟩
      refine j_aload_n C 0 dX9_person_27 rfl rfl ?_
      refine kg_0_people C hinX9 (by decide +kernel) dX9_person_28 ?_
      refine j_aload_n C 0 dX9_person_31 rfl rfl ?_
      refine kg_0_peopleCount C hinX9 (by decide +kernel) dX9_person_32 ?_
      refine j_new (ty0 := tyX4) C [.int 0, .int 0] hinX4 tyX4_ok (by decide +kernel) (by decide +kernel) (by decide +kernel) (ci := 3) rfl (fun j hj => by rcases (show j = 0 ∨ j = 1 by omega) with rfl | rfl <;> rfl) ⟨(Nat.le_of_ble_eq_true rfl), (Nat.le_of_ble_eq_true rfl)⟩ dX9_person_35 (fun q => ?_)
      refine j_dup C dX9_person_38 rfl ?_
      refine j_iload_n C 1 dX9_person_39 rfl rfl ?_
      refine j_callI_vF C 1 (wa := cW a d n op ad c) (wc := [(q, .inr (3, [.int 0, .int 0]))]) (wb := []) (List.append_nil _).symm (cc_X4_init l d ad adK adV al q x) gX9_person_X4_init (by decide +kernel) (by decide +kernel) (by decide +kernel) rfl rfl rfl rfl (by decide +kernel) ⟨(Nat.le_of_ble_eq_true rfl), (Nat.le_of_ble_eq_true rfl)⟩ ⟨(Nat.le_of_ble_eq_true rfl), (Nat.le_of_ble_eq_true rfl)⟩ rfl rfl (Nat.le_of_ble_eq_true rfl) dX9_person_40 (fun u hu => ?_)
      obtain rfl := hu
      refine j_ws (ws2 := cW a d n op ad c ++ ([(q, .inr (3, [.int 1000, .int x]))] : va_W)) (List.append_nil _) ?_
      refine j_widen (k1 := 1) (n1 := 2) (Nat.le_of_ble_eq_true rfl) (Nat.le_of_ble_eq_true rfl) ?_
      refine j_astq C 7 3 (cW a d n op ad c).length 3 (n 1) (lft cG_7) rfl bk_get rfl rfl (by omega) (by decide) (up_set (cW_len (by decide))) dX9_person_43 ?_
      have he0 : ((cW a d n op ad c).set 7 (a 7 0, .inl (d.2 3, 24, .inr (.inr (.inr (.inr (va_up (cR a 18 (n 1)) (n 1) (some q))))))) ++ ([(q, .inr (3, [.int 1000, .int x]))] : va_W))[0]? = some (a 0 0, .inr (7, [.ref (a 1 0), .ref (a 3 0), .ref (a 6 0), .ref (a 7 0), .ref (a 8 0), .ref (a 9 0), .int (nI (n 0)), .int (nI (n 1)), .int (nI (n 2)), .int (c 0 0 9), .int (c 0 0 10)])) := lft rfl
      refine j_aload_n C 0 dX9_person_44 rfl rfl ?_
      refine j_dup C dX9_person_45 rfl ?_
      refine j_get C hinX9 0 7 (he0 : ((cW a d n op ad c).set 7 (a 7 0, .inl (d.2 3, 24, .inr (.inr (.inr (.inr (va_up (cR a 18 (n 1)) (n 1) (some q))))))) ++ ([(q, .inr (3, [.int 1000, .int x]))] : va_W))[0]? = _) rfl (by decide) (by decide +kernel) rfl dX9_person_46 ?_
      refine j_iconst C 1 dX9_person_49 (by decide) ?_
      refine j_iadd C dX9_person_50 ?_
      refine j_put C hinX9 tyX9_ok nmX9 0 7 he0 rfl (by decide) (by decide +kernel) rfl (ty := .int) rfl rfl rfl (by decide : 7 < 11) (ws2 := ((cW a d n op ad c).set 7 (a 7 0, .inl (d.2 3, 24, .inr (.inr (.inr (.inr (va_up (cR a 18 (n 1)) (n 1) (some q)))))))).set 0 (a 0 0, .inr (7, [.ref (a 1 0), .ref (a 3 0), .ref (a 6 0), .ref (a 7 0), .ref (a 8 0), .ref (a 9 0), .int (nI (n 0)), .int (nI (n 1) + 1), .int (nI (n 2)), .int (c 0 0 9), .int (c 0 0 10)])) ++ ([(q, .inr (3, [.int 1000, .int x]))] : va_W)) (up_set (by rw [List.length_set]; exact cW_len (by decide))) dX9_person_51 ?_
      refine j_perm (perm_P q x) ?_
      refine j_lvq (lv2 := [(0, .ref ((au a 18 (n 1) q) 0 0)), (1, .int x)]) (by rw [show (au a 18 (n 1) q) 0 0 = a 0 0 from au_0 (by decide)]) ?_
      refine j_aload_n C 0 dX9_person_54 rfl rfl ?_
      refine kg_0_peopleCount C hinX9 (by decide +kernel) dX9_person_55 ?_
      refine j_iconst C 1 dX9_person_58 (by decide) ?_
      refine j_isub C dX9_person_59 ?_
      exact j_iret C hQ dX9_person_60 ⟨au a 18 (n 1) q, au_0 (by decide), by rw [zPerson, if_pos ok, show nu n 1 1 = n 1 + 1 from if_pos rfl, nI_s1], by rw [zPerson, if_pos ok]⟩
    · refine j_aload_n C 0 dX9_person_17 rfl rfl ?_
      refine j_iload_n C 1 dX9_person_18 rfl rfl ?_
      refine j_callV_q C 1 0 (cc_X9_workAt l d ad adK adV al a n op c hn x) cG_0 rfl gX9_person_X9_workAt rfl rfl rfl (by decide +kernel) ⟨(Nat.le_of_ble_eq_true rfl), (Nat.le_of_ble_eq_true rfl)⟩ ⟨(Nat.le_of_ble_eq_true rfl), (Nat.le_of_ble_eq_true rfl)⟩ rfl rfl (Nat.le_of_ble_eq_true rfl) dX9_person_19 (fun r19 u19 h19 => ?_)
      obtain ⟨rfl, rfl⟩ := h19
      by_cases hx : kW n x
      · obtain ⟨jx, hjx, rfl⟩ := kW_nI hn hx
        have ok : n 1 < 24 ∧ (nI jx = -1 ∨ kW n (nI jx)) := ⟨by omega, Or.inr hx⟩
        refine j_st (st2 := [.ref (a 13 jx)]) (by rw [oW_j hn hjx]; rfl) ?_
        refine j_ifnonnull C 27 dX9_person_22 (by decide) ?_
        refine j_aload_n C 0 dX9_person_27 rfl rfl ?_
        refine kg_0_people C hinX9 (by decide +kernel) dX9_person_28 ?_
        refine j_aload_n C 0 dX9_person_31 rfl rfl ?_
        refine kg_0_peopleCount C hinX9 (by decide +kernel) dX9_person_32 ?_
        refine j_new (ty0 := tyX4) C [.int 0, .int 0] hinX4 tyX4_ok (by decide +kernel) (by decide +kernel) (by decide +kernel) (ci := 3) rfl (fun j hj => by rcases (show j = 0 ∨ j = 1 by omega) with rfl | rfl <;> rfl) ⟨(Nat.le_of_ble_eq_true rfl), (Nat.le_of_ble_eq_true rfl)⟩ dX9_person_35 (fun q => ?_)
        refine j_dup C dX9_person_38 rfl ?_
        refine j_iload_n C 1 dX9_person_39 rfl rfl ?_
        refine j_callI_vF C 1 (wa := cW a d n op ad c) (wc := [(q, .inr (3, [.int 0, .int 0]))]) (wb := []) (List.append_nil _).symm (cc_X4_init l d ad adK adV al q (nI jx)) gX9_person_X4_init (by decide +kernel) (by decide +kernel) (by decide +kernel) rfl rfl rfl rfl (by decide +kernel) ⟨(Nat.le_of_ble_eq_true rfl), (Nat.le_of_ble_eq_true rfl)⟩ ⟨(Nat.le_of_ble_eq_true rfl), (Nat.le_of_ble_eq_true rfl)⟩ rfl rfl (Nat.le_of_ble_eq_true rfl) dX9_person_40 (fun u hu => ?_)
        obtain rfl := hu
        refine j_ws (ws2 := cW a d n op ad c ++ ([(q, .inr (3, [.int 1000, .int (nI jx)]))] : va_W)) (List.append_nil _) ?_
        refine j_widen (k1 := 1) (n1 := 2) (Nat.le_of_ble_eq_true rfl) (Nat.le_of_ble_eq_true rfl) ?_
        refine j_astq C 7 3 (cW a d n op ad c).length 3 (n 1) (lft cG_7) rfl bk_get rfl rfl (by omega) (by decide) (up_set (cW_len (by decide))) dX9_person_43 ?_
        have he0 : ((cW a d n op ad c).set 7 (a 7 0, .inl (d.2 3, 24, .inr (.inr (.inr (.inr (va_up (cR a 18 (n 1)) (n 1) (some q))))))) ++ ([(q, .inr (3, [.int 1000, .int (nI jx)]))] : va_W))[0]? = some (a 0 0, .inr (7, [.ref (a 1 0), .ref (a 3 0), .ref (a 6 0), .ref (a 7 0), .ref (a 8 0), .ref (a 9 0), .int (nI (n 0)), .int (nI (n 1)), .int (nI (n 2)), .int (c 0 0 9), .int (c 0 0 10)])) := lft rfl
        refine j_aload_n C 0 dX9_person_44 rfl rfl ?_
        refine j_dup C dX9_person_45 rfl ?_
        refine j_get C hinX9 0 7 (he0 : ((cW a d n op ad c).set 7 (a 7 0, .inl (d.2 3, 24, .inr (.inr (.inr (.inr (va_up (cR a 18 (n 1)) (n 1) (some q))))))) ++ ([(q, .inr (3, [.int 1000, .int (nI jx)]))] : va_W))[0]? = _) rfl (by decide) (by decide +kernel) rfl dX9_person_46 ?_
        refine j_iconst C 1 dX9_person_49 (by decide) ?_
        refine j_iadd C dX9_person_50 ?_
        refine j_put C hinX9 tyX9_ok nmX9 0 7 he0 rfl (by decide) (by decide +kernel) rfl (ty := .int) rfl rfl rfl (by decide : 7 < 11) (ws2 := ((cW a d n op ad c).set 7 (a 7 0, .inl (d.2 3, 24, .inr (.inr (.inr (.inr (va_up (cR a 18 (n 1)) (n 1) (some q)))))))).set 0 (a 0 0, .inr (7, [.ref (a 1 0), .ref (a 3 0), .ref (a 6 0), .ref (a 7 0), .ref (a 8 0), .ref (a 9 0), .int (nI (n 0)), .int (nI (n 1) + 1), .int (nI (n 2)), .int (c 0 0 9), .int (c 0 0 10)])) ++ ([(q, .inr (3, [.int 1000, .int (nI jx)]))] : va_W)) (up_set (by rw [List.length_set]; exact cW_len (by decide))) dX9_person_51 ?_
        refine j_perm (perm_P q (nI jx)) ?_
        refine j_lvq (lv2 := [(0, .ref ((au a 18 (n 1) q) 0 0)), (1, .int (nI jx))]) (by rw [show (au a 18 (n 1) q) 0 0 = a 0 0 from au_0 (by decide)]) ?_
        refine j_aload_n C 0 dX9_person_54 rfl rfl ?_
        refine kg_0_peopleCount C hinX9 (by decide +kernel) dX9_person_55 ?_
        refine j_iconst C 1 dX9_person_58 (by decide) ?_
        refine j_isub C dX9_person_59 ?_
        exact j_iret C hQ dX9_person_60 ⟨au a 18 (n 1) q, au_0 (by decide), by rw [zPerson, if_pos ok, show nu n 1 1 = n 1 + 1 from if_pos rfl, nI_s1], by rw [zPerson, if_pos ok]⟩
      · refine j_st (st2 := [.null]) (by rw [oW, if_neg hx]; rfl) ?_
        refine j_ifnonnullN C dX9_person_22 ?_
        refine j_widen (k1 := 1) (n1 := 2) (Nat.le_of_ble_eq_true rfl) (Nat.le_of_ble_eq_true rfl) ?_
        refine j_iconst C (-1) dX9_person_25 (by decide) ?_
        exact j_iret C hQ dX9_person_26 (⟨a, rfl, by rw [zPerson, if_neg (fun h => h.2.elim c14 hx)], by rw [zPerson, if_neg (fun h => h.2.elim c14 hx)]⟩)

set_option maxHeartbeats 4000000 in
set_option maxRecDepth 100000 in
theorem cc_X9_fund (l : Launch) (d : jD) (ad adK adV : Nat → Nat) (al : Nat) (a : Nat → Nat → Nat) (n : Nat → Nat) (op : Option Nat) (c : Nat → Nat → Nat → Int32) (hn : nOK n) (x : Int32) : jMi (cEf ad adK adV al) d l yX9_fund wsX9_fund ({ frames := 3, cells := 2, slots := 28, locals := 61 } : Room) 2 28 [.ref (a 0 0), .int x] (cW a d n op ad c) (fun r1 u => ∃ a2 : Nat → Nat → Nat, a2 0 0 = a 0 0 ∧ r1 = (zFund n c x).1 ∧ u = cW a2 d (zFund n c x).2.1 op ad (zFund n c x).2.2) := by
  refine jMi.mk (cEf_k ad adK adV al) (by decide) rfl (Nat.le_of_ble_eq_true rfl) (fun X A C hQ => ?_)
  have hinX3 : ∀ w ∈ u_ws RX3 TX3 4, w ∈ wsX9_fund := fun w h => List.mem_cons_of_mem _ (List.mem_append_right _ h)
  have hinX9 : ∀ w ∈ u_ws RX9 TX9 11, w ∈ wsX9_fund := fun w h => List.mem_cons_of_mem _ (List.mem_append_left _ (List.mem_append_right _ h))
  obtain ⟨hn0, hn1, hn2⟩ := id hn
  refine j_lvq (lv2 := [(0, .ref (a 0 0)), (1, .int x)]) rfl ?_
  refine j_aload_n C 0 dX9_fund_0 rfl rfl ?_
  refine kg_0_fundCount C hinX9 (by decide +kernel) dX9_fund_1 ?_
  refine j_aload_n C 0 dX9_fund_4 rfl rfl ?_
  refine kg_0_funds C hinX9 (by decide +kernel) dX9_fund_5 ?_
  refine kn_8 C dX9_fund_8 ?_
  refine j_icmp_ge C 23 dX9_fund_9 (by decide) (fun c9 => ?_) (fun c9 => ?_)
  · have c9 := (nI_leI (a := 4) (b := n 2) (by omega) (by omega)).mp c9
    refine j_widen (k1 := 2) (n1 := 28) (Nat.le_of_ble_eq_true rfl) (Nat.le_of_ble_eq_true rfl) ?_
    refine j_iconst C (-1) dX9_fund_23 (by decide) ?_
    exact j_iret C hQ dX9_fund_24 (⟨a, rfl, by rw [zFund, if_neg (fun h => by have := h.1; omega)], by rw [zFund, if_neg (fun h => by have := h.1; omega)]⟩)
  · have c9 : ¬ (4 ≤ (n 2)) := fun h => c9 ((nI_leI (a := 4) (b := n 2) (by omega) (by omega)).mpr h)
    refine j_iload_n C 1 dX9_fund_12 rfl rfl ?_
    refine j_iconst C 0 dX9_fund_13 (by decide) ?_
    refine j_sipush C 500 dX9_fund_14 (by decide) ?_
    refine j_callS_i C 3 (cc_X9_isWithin (cEf ad adK adV al) (cEf_k ad adK adV al) l d _ x 0 500) gX9_fund_X9_isWithin rfl rfl rfl (by decide +kernel) ⟨(Nat.le_of_ble_eq_true rfl), (Nat.le_of_ble_eq_true rfl)⟩ ⟨(Nat.le_of_ble_eq_true rfl), (Nat.le_of_ble_eq_true rfl)⟩ rfl rfl (Nat.le_of_ble_eq_true rfl) dX9_fund_17 (fun r17 u17 h17 => ?_)
    obtain ⟨rfl, rfl⟩ := h17
    refine j_if_ne C 25 dX9_fund_20 (by decide) (fun c20 => ?_) (fun c20 => ?_)
    · have ok : n 2 < 4 ∧ (0 ≤ x ∧ x ≤ 500) := ⟨by omega, bI_n0.mp c20⟩
      refine j_aload_n C 0 dX9_fund_25 rfl rfl ?_
      refine kg_0_funds C hinX9 (by decide +kernel) dX9_fund_26 ?_
      refine j_aload_n C 0 dX9_fund_29 rfl rfl ?_
      refine kg_0_fundCount C hinX9 (by decide +kernel) dX9_fund_30 ?_
      refine j_new (ty0 := tyX3) C [.int 0, .int 0, .null, .int 0] hinX3 tyX3_ok (by decide +kernel) (by decide +kernel) (by decide +kernel) (ci := 2) rfl (fun j hj => by rcases (show j = 0 ∨ j = 1 ∨ j = 2 ∨ j = 3 by omega) with rfl | rfl | rfl | rfl <;> rfl) ⟨(Nat.le_of_ble_eq_true rfl), (Nat.le_of_ble_eq_true rfl)⟩ dX9_fund_33 (fun q => ?_)
      refine j_dup C dX9_fund_36 rfl ?_
      refine j_iload_n C 1 dX9_fund_37 rfl rfl ?_
      refine j_callI_vF C 1 (wa := cW a d n op ad c) (wc := [(q, .inr (2, [.int 0, .int 0, .null, .int 0]))]) (wb := []) (List.append_nil _).symm (cc_X3_init l d ad adK adV al q x) gX9_fund_X3_init (by decide +kernel) (by decide +kernel) (by decide +kernel) rfl rfl rfl rfl (by decide +kernel) ⟨(Nat.le_of_ble_eq_true rfl), (Nat.le_of_ble_eq_true rfl)⟩ ⟨(Nat.le_of_ble_eq_true rfl), (Nat.le_of_ble_eq_true rfl)⟩ rfl rfl (Nat.le_of_ble_eq_true rfl) dX9_fund_38 (fun u hu => ?_)
      obtain ⟨q1, rfl⟩ := hu
      refine j_ws (ws2 := cW a d n op ad c ++ ([(q, .inr (2, [.int 0, .int x, .ref q1, .int 0])), (q1, .inl (d.2 1, 24, .inl (fun _ => 0)))] : va_W)) (List.append_nil _) ?_
      refine j_widen (k1 := 2) (n1 := 28) (Nat.le_of_ble_eq_true rfl) (Nat.le_of_ble_eq_true rfl) ?_
      refine j_astq C 8 4 (cW a d n op ad c).length 2 (n 2) (lft cG_8) rfl bk_get rfl rfl (by omega) (by decide) (up_set (cW_len (by decide))) dX9_fund_41 ?_
      have he0 : ((cW a d n op ad c).set 8 (a 8 0, .inl (d.2 4, 4, .inr (.inr (.inr (.inr (va_up (cR a 19 (n 2)) (n 2) (some q))))))) ++ ([(q, .inr (2, [.int 0, .int x, .ref q1, .int 0])), (q1, .inl (d.2 1, 24, .inl (fun _ => 0)))] : va_W))[0]? = some (a 0 0, .inr (7, [.ref (a 1 0), .ref (a 3 0), .ref (a 6 0), .ref (a 7 0), .ref (a 8 0), .ref (a 9 0), .int (nI (n 0)), .int (nI (n 1)), .int (nI (n 2)), .int (c 0 0 9), .int (c 0 0 10)])) := lft rfl
      refine j_aload_n C 0 dX9_fund_42 rfl rfl ?_
      refine j_dup C dX9_fund_43 rfl ?_
      refine j_get C hinX9 0 8 (he0 : ((cW a d n op ad c).set 8 (a 8 0, .inl (d.2 4, 4, .inr (.inr (.inr (.inr (va_up (cR a 19 (n 2)) (n 2) (some q))))))) ++ ([(q, .inr (2, [.int 0, .int x, .ref q1, .int 0])), (q1, .inl (d.2 1, 24, .inl (fun _ => 0)))] : va_W))[0]? = _) rfl (by decide) (by decide +kernel) rfl dX9_fund_44 ?_
      refine j_iconst C 1 dX9_fund_47 (by decide) ?_
      refine j_iadd C dX9_fund_48 ?_
      refine j_put C hinX9 tyX9_ok nmX9 0 8 he0 rfl (by decide) (by decide +kernel) rfl (ty := .int) rfl rfl rfl (by decide : 8 < 11) (ws2 := ((cW a d n op ad c).set 8 (a 8 0, .inl (d.2 4, 4, .inr (.inr (.inr (.inr (va_up (cR a 19 (n 2)) (n 2) (some q)))))))).set 0 (a 0 0, .inr (7, [.ref (a 1 0), .ref (a 3 0), .ref (a 6 0), .ref (a 7 0), .ref (a 8 0), .ref (a 9 0), .int (nI (n 0)), .int (nI (n 1)), .int (nI (n 2) + 1), .int (c 0 0 9), .int (c 0 0 10)])) ++ ([(q, .inr (2, [.int 0, .int x, .ref q1, .int 0])), (q1, .inl (d.2 1, 24, .inl (fun _ => 0)))] : va_W)) (up_set (by rw [List.length_set]; exact cW_len (by decide))) dX9_fund_49 ?_
      refine j_perm (perm_F q q1 x) ?_
      refine j_bipush C 24 dX9_fund_52 (by decide) ?_
      refine j_lvq (lv2 := [(0, .ref ((au (au a 19 (n 2) q) 20 (n 2) q1) 0 0)), (1, .int x)]) (by rw [show (au (au a 19 (n 2) q) 20 (n 2) q1) 0 0 = a 0 0 from (au_0 (by decide)).trans (au_0 (by decide))]) ?_
      refine j_aload_n C 0 dX9_fund_54 rfl rfl ?_
      refine kg_0_fundCount C hinX9 (by decide +kernel) dX9_fund_55 ?_
      refine j_iadd C dX9_fund_58 ?_
      refine j_iconst C 1 dX9_fund_59 (by decide) ?_
      refine j_isub C dX9_fund_60 ?_
      exact j_iret C hQ dX9_fund_61 ⟨au (au a 19 (n 2) q) 20 (n 2) q1, (au_0 (by decide)).trans (au_0 (by decide)), by rw [zFund, if_pos ok, show nu n 2 2 = n 2 + 1 from if_pos rfl, nI_s24], by rw [zFund, if_pos ok]⟩
    · refine j_widen (k1 := 2) (n1 := 28) (Nat.le_of_ble_eq_true rfl) (Nat.le_of_ble_eq_true rfl) ?_
      refine j_iconst C (-1) dX9_fund_23 (by decide) ?_
      exact j_iret C hQ dX9_fund_24 (⟨a, rfl, by rw [zFund, if_neg (fun h => bI_0.mp c20 h.2)], by rw [zFund, if_neg (fun h => bI_0.mp c20 h.2)]⟩)


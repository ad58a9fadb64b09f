/-! a new WORK, one of PEOPLE, a FUND: the cells that come, in the order of the class's world -/
def au (a : Nat → Nat → Nat) (k i v : Nat) : Nat → Nat → Nat := fun k' i' => if k' = k ∧ i' = i then v else a k' i'
theorem pm (L A R : va_W) (e : Nat × va_E) : (L ++ ((A ++ [e]) ++ R)).Perm ((L ++ (A ++ R)) ++ [e]) := by
  have h1 : (L ++ ((A ++ [e]) ++ R)) = (L ++ A) ++ ([e] ++ R) := by simp
  have h2 : (L ++ (A ++ R)) ++ [e] = (L ++ A) ++ (R ++ [e]) := by simp
  rw [h1, h2]
  exact List.Perm.append_left _ List.perm_append_comm
theorem cPl_succ {a a2 : Nat → Nat → Nat} {k N : Nat} {e e2 : Nat → va_E} (h : ∀ i, i < N → a2 k i = a k i ∧ e2 i = e i) : cPl a2 k (N + 1) e2 = cPl a k N e ++ [(a2 k N, e2 N)] := by
  rw [cPl, List.range_succ, List.map_append]
  congr 1
  exact List.map_congr_left (fun i hi => by obtain ⟨h1, h2⟩ := h i (List.mem_range.mp hi); rw [h1, h2])
theorem cPl_same {a a2 : Nat → Nat → Nat} {k N : Nat} {e e2 : Nat → va_E} (h : ∀ i, i < N → a2 k i = a k i ∧ e2 i = e i) : cPl a2 k N e2 = cPl a k N e :=
  List.map_congr_left (fun i hi => by obtain ⟨h1, h2⟩ := h i (List.mem_range.mp hi); rw [h1, h2])
theorem cR_succ {a a2 : Nat → Nat → Nat} {k N q : Nat} (h : ∀ i, i < N → a2 k i = a k i) (hq : a2 k N = q) : cR a2 k (N + 1) = va_up (cR a k N) N (some q) := by
  funext i
  simp only [cR, va_up]
  by_cases h1 : i = N
  · subst h1; simp [hq]
  · rw [if_neg h1]
    by_cases h2 : i < N
    · rw [if_pos (by omega), if_pos h2, h i h2]
    · rw [if_neg (by omega), if_neg h2]
theorem bk_get {ws t : va_W} {e : Nat × va_E} : (ws ++ (e :: t))[ws.length]? = some e := by simp
theorem up_set {ws t : va_W} {k : Nat} {e : Nat × va_E} (h : k < ws.length) : (ws ++ t).set k e = ws.set k e ++ t := List.set_append_left _ _ h
theorem cW_len {a : Nat → Nat → Nat} {d : jD} {n : Nat → Nat} {op : Option Nat} {ad : Nat → Nat} {c : Nat → Nat → Nat → Int32} {k : Nat} (hk : k < 13) : k < (cW a d n op ad c).length := by
  rw [cW, List.length_append]
  have : (cX a d n op ad c).length = 13 := rfl
  omega
def nu (n : Nat → Nat) (k : Nat) : Nat → Nat := fun j => if j = k then n k + 1 else n j
/-- the numbers of a new WORK, made in ROUND r -/
def cNW (c : Nat → Nat → Nat → Int32) (N r : Nat) (x y : Int32) : Nat → Nat → Nat → Int32 := fun k i j =>
  if i = N then (if k = 13 then (if j = 0 then x else if j = 1 then nI r else if j = 2 then x else if j = 3 then y else 0) else if k = 14 then 0 else if k = 15 then 0 else if k = 16 then upd (fun _ => 0) r y j else if k = 17 then 0 else c k i j) else c k i j
def aNW (a : Nat → Nat → Nat) (N q q1 q2 q3 q4 : Nat) : Nat → Nat → Nat := au (au (au (au (au a 13 N q) 14 N q1) 15 N q2) 16 N q3) 17 N q4
/-- of one more of PEOPLE -/
def cNP (c : Nat → Nat → Nat → Int32) (N : Nat) (x : Int32) : Nat → Nat → Nat → Int32 := fun k i j => if i = N ∧ k = 18 then (if j = 0 then 1000 else x) else c k i j
/-- of one more FUND -/
def cNF (c : Nat → Nat → Nat → Int32) (N : Nat) (x : Int32) : Nat → Nat → Nat → Int32 := fun k i j => if i = N then (if k = 19 then (if j = 1 then x else 0) else if k = 20 then 0 else c k i j) else c k i j


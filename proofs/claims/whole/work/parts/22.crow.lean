section JAR
variable {Ef : jE} {X : jX} {l : Launch} {d : jD} {A : Nat → Prop} {cc : ByteArray} {nL cells slots : Nat} {Ts : List Cond} {own : String} {rm : Room} {ret : Option FieldType} {ws : va_W} {lv : List (Nat × Value)} {pc : Nat} {st : List Value}
theorem j_aret {r : Option Nat} {post : Option Nat → va_W → Prop} {nm : String} (C : jC Ef X l d A cc nL Ts own rm (some (.object nm))) (hQ : jQq X d A cells slots post) (hdg : decode cc pc = .ok (.areturn, 1)) (hp : post r ws) : jJ X l d A nL cells slots ws lv pc [va_rf r] := by
  obtain ⟨p, e, R, s, m, args, below, meth, c, Q⟩ := X
  intro ls H locs hl hP hD hS
  have hq : Q = _ := hQ
  subst hq
  exact W.aret C.1.1 C.1.2.1 C.2.2.2.2.1 (Or.inl ⟨_, rfl⟩) (va_rf_or r) (fun t ht hW => ⟨⟨r, ws, rfl, hp, by rw [ht]; exact hP, va_K.moved hW.alike C.2.1, hD⟩, hS.F ht⟩) hS.2.2 hdg C.2.2.2.2.2.1
/-- an inherited field, named by the object's own class -/
theorem j_getS (C : jC Ef X l d A cc nL Ts own rm ret) {a ci idx : Nat} {fs : List Value} {v : Value} {Cn ref : String} {T : u_T} {N : Nat} (hin : ∀ w ∈ u_ws Cn T N, w ∈ Ts) (q0 k : Nat) (he : ws[q0]? = some (a, .inr (ci, fs))) (hc : vwCl[ci]? = some (Cn, T, N)) (hk : k < N) (hlink : Cond.fieldLink own idx ref (T k).2.1 (T k).2.2.1 ∈ Ts) (hsame : Cond.sameField ref (T k).1 (T k).2.1 (T k).2.2.1 ∈ Ts) (hv : fs[k]? = some v) (hdg : decode cc pc = .ok (.getfield idx, 3)) (kk : jJ X l d A nL cells slots ws lv (pc + 3) (v :: st)) : jJ X l d A nL cells slots ws lv pc (.ref a :: st) := by
  obtain ⟨p, e, R, s, m, args, below, meth, c, Q⟩ := X
  exact fun ls H locs hl hP hD hS => va_get C.1.1 C.1.2.1 C.1.2.2.2.2 hin C.1.2.2.2.1 C.2.1 hP q0 he hc k hk (C.1.2.2.2.2 _ hlink) (fun x9 h9 => u_same (C.1.2.2.2.2 _ hsame) x9 h9) hv hdg (kk ls H locs hl hP hD hS)
theorem j_putS (C : jC Ef X l d A cc nL Ts own rm ret) {a ci idx : Nat} {fs : List Value} {v : Value} {Cn ref : String} {T : u_T} {N : Nat} {ty0 : Nat → FieldType} {ty : FieldType} {ws2 : va_W} (hin : ∀ w ∈ u_ws Cn T N, w ∈ Ts) (hty : ∀ k, k < N → parseFieldDescriptor (T k).2.2.1 = some (ty0 k)) (hnm : ∀ a, a < N → ∀ b, b < N → a ≠ b → (T a).2.1 ≠ (T b).2.1) (q0 k : Nat) (he : ws[q0]? = some (a, .inr (ci, fs))) (hc : vwCl[ci]? = some (Cn, T, N)) (hk : k < N) (hlink : Cond.fieldLink own idx ref (T k).2.1 (T k).2.2.1 ∈ Ts) (hsame : Cond.sameField ref (T k).1 (T k).2.1 (T k).2.2.1 ∈ Ts) (hfin : (T k).2.2.2 = false) (hd : ty0 k = ty) (hn : narrow ty v = v) (hfit : fits ty v = true) (hlf : k < fs.length) (hw : ws.set q0 (a, .inr (ci, fs.set k v)) = ws2) (hdg : decode cc pc = .ok (.putfield idx, 3)) (kk : jJ X l d A nL cells slots ws2 lv (pc + 3) st) : jJ X l d A nL cells slots ws lv pc (v :: .ref a :: st) := by
  obtain ⟨p, e, R, s, m, args, below, meth, c, Q⟩ := X
  subst hw
  exact fun ls H locs hl hP hD hS => va_put C.1.1 C.1.2.1 C.1.2.2.2.2 hin ty0 hty hnm C.1.2.2.2.1 C.2.1 hP hD hS q0 he hc k hk (C.1.2.2.2.2 _ hlink) (fun x9 h9 => u_same (C.1.2.2.2.2 _ hsame) x9 h9) hfin (hd ▸ hty k hk) hn hfit hlf hdg (fun H1 locs1 hP hD hS => kk ls H1 locs1 hl hP hD hS)
end JAR
/-! the class's own words: which numbers are WORKS, PEOPLE, FUNDS -/
abbrev kW (n : Nat → Nat) (x : Int32) : Prop := 0 ≤ x ∧ x < nI (n 0)
abbrev kP (n : Nat → Nat) (x : Int32) : Prop := 0 ≤ x ∧ x < nI (n 1)
abbrev kF (n : Nat → Nat) (x : Int32) : Prop := 24 ≤ x ∧ x < nI (24 + n 2)
def oW (a : Nat → Nat → Nat) (n : Nat → Nat) (x : Int32) : Option Nat := if kW n x then some (a 13 (tn x)) else none
def oP (a : Nat → Nat → Nat) (n : Nat → Nat) (x : Int32) : Option Nat := if kP n x then some (a 18 (tn x)) else none
def oF (a : Nat → Nat → Nat) (n : Nat → Nat) (x : Int32) : Option Nat := if kF n x then some (a 19 (tn x - 24)) else none
def oB (a : Nat → Nat → Nat) (n : Nat → Nat) (x : Int32) : Option Nat := if kP n x then some (a 18 (tn x)) else oF a n x
def nOK (n : Nat → Nat) : Prop := n 0 ≤ 10 ∧ n 1 ≤ 24 ∧ n 2 ≤ 4
theorem kW_nI {n : Nat → Nat} {x : Int32} (hn : nOK n) (h : kW n x) : ∃ j : Nat, j < n 0 ∧ x = nI j := nI_in2 h.1 h.2 (by have := hn.1; omega)
theorem kP_nI {n : Nat → Nat} {x : Int32} (hn : nOK n) (h : kP n x) : ∃ j : Nat, j < n 1 ∧ x = nI j := nI_in2 h.1 h.2 (by have := hn.2.1; omega)
theorem kF_nI {n : Nat → Nat} {x : Int32} (hn : nOK n) (h : kF n x) : ∃ j : Nat, j < n 2 ∧ x = nI (24 + j) := by
  have h4 := hn.2.2
  obtain ⟨j, hj, rfl⟩ := nI_in2 (Int32.le_trans (by decide) h.1) h.2 (by omega)
  have h24 : 24 ≤ j := (nI_leI (by omega) (by omega)).mp (show nI 24 ≤ nI j from h.1)
  exact ⟨j - 24, by omega, by rw [show 24 + (j - 24) = j by omega]⟩
theorem oW_j {a : Nat → Nat → Nat} {n : Nat → Nat} (hn : nOK n) {j : Nat} (hj : j < n 0) : oW a n (nI j) = some (a 13 j) := by
  have := hn.1
  rw [oW, if_pos ⟨nI_pos' (by omega), nI_lt hj (by omega)⟩, tn_nI (by omega)]
theorem oP_j {a : Nat → Nat → Nat} {n : Nat → Nat} (hn : nOK n) {j : Nat} (hj : j < n 1) : oP a n (nI j) = some (a 18 j) := by
  have := hn.2.1
  rw [oP, if_pos ⟨nI_pos' (by omega), nI_lt hj (by omega)⟩, tn_nI (by omega)]
theorem oF_j {a : Nat → Nat → Nat} {n : Nat → Nat} (hn : nOK n) {j : Nat} (hj : j < n 2) : oF a n (nI (24 + j)) = some (a 19 j) := by
  have := hn.2.2
  rw [oF, if_pos ⟨(nI_leI (a := 24) (b := 24 + j) (by omega) (by omega)).mpr (by omega), nI_lt (by omega) (by omega)⟩, tn_nI (by omega), Nat.add_sub_cancel_left]
theorem cu_same (c : Nat → Nat → Nat → Int32) (k i j : Nat) (v : Int32) : cu c k i j v k i j = v := by simp [cu, upd]

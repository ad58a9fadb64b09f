section JN
variable {Ef : jE} {X : jX} {l : Launch} {d : jD} {A : Nat → Prop} {cc : ByteArray} {nL cells slots : Nat} {Ts : List Cond} {own : String} {rm : Room} {ret : Option FieldType} {ws : va_W} {lv : List (Nat × Value)} {pc : Nat} {st : List Value}
theorem j_iaddN (C : jC Ef X l d A cc nL Ts own rm ret) (a b : Nat) (hdg : decode cc pc = .ok (.iadd, 1)) (k : jJ X l d A nL cells slots ws lv (pc + 1) (.int (nI (a + b)) :: st)) : jJ X l d A nL cells slots ws lv pc (.int (nI b) :: .int (nI a) :: st) := j_iadd C hdg (by rw [nI_add]; exact k)
theorem j_imulN (C : jC Ef X l d A cc nL Ts own rm ret) (a b : Nat) (hdg : decode cc pc = .ok (.imul, 1)) (k : jJ X l d A nL cells slots ws lv (pc + 1) (.int (nI (a * b)) :: st)) : jJ X l d A nL cells slots ws lv pc (.int (nI b) :: .int (nI a) :: st) := j_imul C hdg (by rw [pk_mul]; exact k)
theorem j_isubN (C : jC Ef X l d A cc nL Ts own rm ret) (a b : Nat) (h : b ≤ a) (hdg : decode cc pc = .ok (.isub, 1)) (k : jJ X l d A nL cells slots ws lv (pc + 1) (.int (nI (a - b)) :: st)) : jJ X l d A nL cells slots ws lv pc (.int (nI b) :: .int (nI a) :: st) := j_isub C hdg (by rw [pk_sub h]; exact k)
end JN

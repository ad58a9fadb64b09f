/-! the law's loop -/
theorem sw18 (x : Int32) : x = 0 ∨ x = 1 ∨ x = 2 ∨ x = 3 ∨ x = 4 ∨ x = 5 ∨ x = 6 ∨ x = 7 ∨ x = 8 ∨ x = 9 ∨ x = 10 ∨ x = 11 ∨ x = 12 ∨ x = 13 ∨ x = 14 ∨ x = 15 ∨ x = 16 ∨ x = 17 ∨ (x.toInt < 0 ∨ 17 < x.toInt) := by
  by_cases h : x.toInt < 0 ∨ 17 < x.toInt
  · exact Or.inr (Or.inr (Or.inr (Or.inr (Or.inr (Or.inr (Or.inr (Or.inr (Or.inr (Or.inr (Or.inr (Or.inr (Or.inr (Or.inr (Or.inr (Or.inr (Or.inr (Or.inr (h))))))))))))))))))
  · have h2 : ∃ k : Nat, k < 18 ∧ x.toInt = (k : Int) := ⟨x.toInt.toNat, by omega, by omega⟩
    obtain ⟨k, hk, he⟩ := h2
    have hx : x = Int32.ofInt (k : Int) := by rw [← he, Int32.ofInt_toInt]
    subst hx
    clear he h
    revert k
    decide
/-- the script at b, out of reach -/
def jS (X : jX) (A : Nat → Prop) (b L : Nat) (xs : Nat → Int32) : Prop :=
  match X with
  | (_, _, _, s, _, _, _, _, _, _) => va_X b L xs s s.heap ∧ b < s.heap.size ∧ ¬ A b
abbrev WL (a : Nat → Nat → Nat) (d : jD) (n : Nat → Nat) (op : Option Nat) (ad : Nat → Nat) (c : Nat → Nat → Nat → Int32) (ob : Nat) (g : Nat → Int64) (o : Nat) (q : Nat → Nat) (m : Nat → Nat → Int32) (w : Int64) : va_W := cW a d n op ad c ++ [outC d ob g] ++ mW o q d m w
section JLAW
variable {X : jX} {l : Launch} {d : jD} {A : Nat → Prop} {cc bytes : ByteArray} {nL cells slots maxL : Nat} {Ts wy w' : List Cond} {own : String} {rm rmc : Room} {ret ret' : Option FieldType} {ws : va_W} {lv : List (Nat × Value)} {pc : Nat} {st st0 : List Value} {y : MethodName} {mc ms idx : Nat} {As : List Value} {ad adK adV : Nat → Nat} {al : Nat} {a : Nat → Nat → Nat} {n : Nat → Nat} {op : Option Nat} {c : Nat → Nat → Nat → Int32} {ob : Nat} {g : Nat → Int64} {o : Nat} {q : Nat → Nat} {m : Nat → Nat → Int32} {w : Int64} {b L : Nat} {xs : Nat → Int32}
theorem j_wsq {w2 : va_W} (h : ws = w2) (k : jJ X l d A nL cells slots w2 lv pc st) : jJ X l d A nL cells slots ws lv pc st := by
  subst h
  exact k
theorem j_sld {Ef : jE} (C : jC Ef X l d A cc nL Ts own rm ret) (hSc : jS X A b L xs) {i : Int32} (j : Nat) (hi : i = nI j) (hj : j < L) (hL : L < 2 ^ 31) (hdg : decode cc pc = .ok (.iaload, 1)) (kk : jJ X l d A nL cells slots ws lv (pc + 1) (.int (xs j) :: st)) : jJ X l d A nL cells slots ws lv pc (.int i :: .ref b :: st) := by
  obtain ⟨p, e, R, s, m, args, below, meth, c, Q⟩ := X
  subst hi
  intro ls H locs hl hP hD hS
  refine va_sld C.1.1 C.1.2.1 hSc.1 hSc.2.1 hSc.2.2 hS (vp_in_nI hj hL) hdg ?_
  rw [nI_clamp (Nat.lt_trans hj hL)]
  exact kk ls H locs hl hP hD hS
theorem j_slen {Ef : jE} (C : jC Ef X l d A cc nL Ts own rm ret) (hSc : jS X A b L xs) (hdg : decode cc pc = .ok (.arraylength, 1)) (kk : jJ X l d A nL cells slots ws lv (pc + 1) (.int (nI L) :: st)) : jJ X l d A nL cells slots ws lv pc (.ref b :: st) := by
  obtain ⟨p, e, R, s, m, args, below, meth, c, Q⟩ := X
  exact fun ls H locs hl hP hD hS => va_slen C.1.1 C.1.2.1 hSc.1 hSc.2.1 hSc.2.2 hS hdg (kk ls H locs hl hP hD hS)
theorem C_noE {Ef : jE} (C : jC Ef X l d A cc nL Ts own rm ret) : jC noE X l d A cc nL Ts own rm ret := by
  obtain ⟨p, e, R, s, m, args, below, meth, c, Q⟩ := X
  exact ⟨C.1, C.2.1, C.2.2.1, C.2.2.2.1, C.2.2.2.2.1, C.2.2.2.2.2.1, trivial, noE_k⟩

theorem l_x9 (C : jC (cEf ad adK adV al) X l d A cc nL Ts own rm ret) (nA : Nat) {post : Int32 → va_W → Prop} (hM : jMi (cEf ad adK adV al) d l y wy rmc mc ms (.ref (a 0 0) :: As) (cW a d n op ad c) post) (hG : GoodIn Ts (wsV own idx RX9 y wy)) (hw : wy = Cond.code y bytes maxL ret' :: w') (hrc : rmc.cells = mc) (hrs : rmc.slots = ms) (hd : y.cls = RX9 ∧ y.cls ≠ "java/lang/invoke/MethodHandle" ∧ y.cls ≠ "java/lang/invoke/VarHandle" ∧ (parseMethodDescriptor y.desc).map (fun d => d.parameters.length) = some nA) (hR : rmc.frames + 1 ≤ rm.frames ∧ 8 + (maxL + 11) + rmc.locals ≤ rm.locals) (hroom : cells + mc ≤ rm.cells ∧ slots + ms ≤ rm.slots) (hnA : As.length = nA) (hst : st0 = As.reverse ++ .ref (a 0 0) :: st) (hcat : (st.map fun v => v.category).sum ≤ 8) (hdg : decode cc pc = .ok (.invokevirtual idx, 3)) (kk : ∀ (r : Int32) (u : va_W), post r u → jJ X l d A nL (cells + mc) (slots + ms) (u ++ [outC d ob g] ++ mW o q d m w) lv (pc + 3) (.int r :: st)) : jJ X l d A nL cells slots (WL a d n op ad c ob g o q m w) lv pc st0 :=
  j_callV_iF C nA 0 (wa := []) (wb := [outC d ob g] ++ mW o q d m w) (List.append_assoc _ _ _) hM cG_0 rfl hG hw hrc hrs hd hR hroom hnA hst hcat hdg (fun r u h => j_wsq (List.append_assoc u _ _).symm (kk r u h))
theorem l_x10 (C : jC (cEf ad adK adV al) X l d A cc nL Ts own rm ret) (nA : Nat) {post : Int32 → va_W → Prop} (hM : jMi noE d l y wy rmc mc ms (.ref o :: As) (mW o q d m w) post) (hG : GoodIn Ts (wsV own idx RX10 y wy)) (hw : wy = Cond.code y bytes maxL ret' :: w') (hrc : rmc.cells = mc) (hrs : rmc.slots = ms) (hd : y.cls = RX10 ∧ y.cls ≠ "java/lang/invoke/MethodHandle" ∧ y.cls ≠ "java/lang/invoke/VarHandle" ∧ (parseMethodDescriptor y.desc).map (fun d => d.parameters.length) = some nA) (hR : rmc.frames + 1 ≤ rm.frames ∧ 8 + (maxL + 11) + rmc.locals ≤ rm.locals) (hroom : cells + mc ≤ rm.cells ∧ slots + ms ≤ rm.slots) (hnA : As.length = nA) (hst : st0 = As.reverse ++ .ref o :: st) (hcat : (st.map fun v => v.category).sum ≤ 8) (hdg : decode cc pc = .ok (.invokevirtual idx, 3)) (kk : ∀ (r : Int32) (u : va_W), post r u → jJ X l d A nL (cells + mc) (slots + ms) (cW a d n op ad c ++ [outC d ob g] ++ u) lv (pc + 3) (.int r :: st)) : jJ X l d A nL cells slots (WL a d n op ad c ob g o q m w) lv pc st0 :=
  j_callV_iF (C_noE C) nA 0 (wa := cW a d n op ad c ++ [outC d ob g]) (wb := []) (List.append_nil _).symm hM rfl rfl hG hw hrc hrs hd hR hroom hnA hst hcat hdg (fun r u h => j_wsq (List.append_nil _) (kk r u h))
theorem l_x10l (C : jC (cEf ad adK adV al) X l d A cc nL Ts own rm ret) (nA : Nat) {post : Int64 → va_W → Prop} (hM : jMl noE d l y wy rmc mc ms (.ref o :: As) (mW o q d m w) post) (hG : GoodIn Ts (wsV own idx RX10 y wy)) (hw : wy = Cond.code y bytes maxL ret' :: w') (hrc : rmc.cells = mc) (hrs : rmc.slots = ms) (hd : y.cls = RX10 ∧ y.cls ≠ "java/lang/invoke/MethodHandle" ∧ y.cls ≠ "java/lang/invoke/VarHandle" ∧ (parseMethodDescriptor y.desc).map (fun d => d.parameters.length) = some nA) (hR : rmc.frames + 1 ≤ rm.frames ∧ 8 + (maxL + 11) + rmc.locals ≤ rm.locals) (hroom : cells + mc ≤ rm.cells ∧ slots + ms ≤ rm.slots) (hnA : As.length = nA) (hst : st0 = As.reverse ++ .ref o :: st) (hcat : (st.map fun v => v.category).sum ≤ 8) (hdg : decode cc pc = .ok (.invokevirtual idx, 3)) (kk : ∀ (r : Int64) (u : va_W), post r u → jJ X l d A nL (cells + mc) (slots + ms) (cW a d n op ad c ++ [outC d ob g] ++ u) lv (pc + 3) (.long r :: st)) : jJ X l d A nL cells slots (WL a d n op ad c ob g o q m w) lv pc st0 :=
  j_callV_lF (C_noE C) nA 0 (wa := cW a d n op ad c ++ [outC d ob g]) (wb := []) (List.append_nil _).symm hM rfl rfl hG hw hrc hrs hd hR hroom hnA hst hcat hdg (fun r u h => j_wsq (List.append_nil _) (kk r u h))
/-- a static call of a method with a table of its own -/
theorem l_xs (C : jC (cEf ad adK adV al) X l d A cc nL Ts own rm ret) (nA : Nat) {hh : List (Nat × Nat × Nat × Nat)} {post : Int32 → va_W → Prop} (hM : jMi (cEf ad adK adV al) d l y wy rmc mc ms As (cW a d n op ad c ++ [outC d ob g]) post) (hG : GoodIn Ts (va_wsS own idx y wy)) (hw : wy = Cond.codeWith y bytes maxL ret' hh :: w') (hrc : rmc.cells = mc) (hrs : rmc.slots = ms) (hd : y.cls ≠ "java/lang/invoke/MethodHandle" ∧ y.cls ≠ "java/lang/invoke/VarHandle" ∧ (parseMethodDescriptor y.desc).map (fun d => d.parameters.length) = some nA) (hR : rmc.frames + 1 ≤ rm.frames ∧ 8 + (maxL + 11) + rmc.locals ≤ rm.locals) (hroom : cells + mc ≤ rm.cells ∧ slots + ms ≤ rm.slots) (hnA : As.length = nA) (hst : st0 = As.reverse ++ st) (hcat : (st.map fun v => v.category).sum ≤ 8) (hdg : decode cc pc = .ok (.invokestatic idx, 3)) (kk : ∀ (r : Int32) (u : va_W), post r u → jJ X l d A nL (cells + mc) (slots + ms) (u ++ mW o q d m w) lv (pc + 3) (.int r :: st)) : jJ X l d A nL cells slots (WL a d n op ad c ob g o q m w) lv pc st0 := by
  obtain ⟨p, e, R, s, mm, args, below, meth, cd, Q⟩ := X
  intro ls H locs hl hP hD hS
  have hr : R = rm := C.2.2.2.1
  subst hr
  have hP' : va_P d.1 vwCl ([] ++ (cW a d n op ad c ++ [outC d ob g]) ++ mW o q d m w) H := hP
  have hD' : va_D A ([] ++ (cW a d n op ad c ++ [outC d ob g]) ++ mW o q d m w) := hD
  have hPc := (jap_P hP').2.1
  have hDc := jap_D hD'
  have hFc := jfree C.2.2.1 hDc hS
  refine va_calli (vx_runSW (As := As) (rest := st) C.1 (hM H.size) (vx_cwSW nA C.1.2.2.2.2 hG hw hrc hrs hd hR) ⟨jfb C.2.2.2.2.2.2.2, jpr C.2.2.2.2.2.2.2 (A' := A) (ws := cW a d n op ad c ++ [outC d ob g]) C.2.2.1 C.2.1 C.2.2.2.2.2.2.1 hPc hDc hS⟩ rfl hnA hl.1 hst (lv_room hcat) hdg hroom) hS (fun q _ h => hFc q h) hFc (fun r u t H1 locs1 ht hvm hw2 hB hz1 hk1 hS1 => ?_)
  obtain ⟨hP1, hK1, hD1⟩ := hB
  rw [ht] at hP1
  obtain ⟨hP2, hD2⟩ := jframe hP' hD' hFc hk1 hP1 hD1
  exact kk r u hw2 ls H1 locs1 hl hP2 hD2 hS1
end JLAW

/-- what the two worlds owe each other, call by call -/
def Lw_st (Rl : (Nat → Nat) → Option Nat → (Nat → Nat → Nat → Int32) → (Nat → Nat → Int32) → Int64 → Prop) : Prop := ∀ n op c m w, Rl n op c m w → nOK n ∧ (∃ rd tp, mI m (n 0) (n 1) (n 2) rd tp ∧ c 1 0 1 = nI tp ∧ c 0 0 9 = nI rd) ∧ (∀ j, j < n 0 → 0 ≤ m 21 j) ∧ (∀ j, j < n 0 → 0 ≤ c 13 j 1)
def Lw_thr (Rl : (Nat → Nat) → Option Nat → (Nat → Nat → Nat → Int32) → (Nat → Nat → Int32) → Int64 → Prop) : Prop := ∀ n op c m w v, Rl n op c m w → Rl n op c (mu m 0 0 v) w
def Lw_feed (Rl : (Nat → Nat) → Option Nat → (Nat → Nat → Nat → Int32) → (Nat → Nat → Int32) → Int64 → Prop) : Prop := ∀ n op c m w tp x1 x2 x3 x4 x5, Rl n op c m w → c 1 0 1 = nI tp → tp ≤ 140 → (zFeed c x1 x2 x3 x4 x5 tp).1 = (sFeed m x1 x2 x3 x4 x5 tp).1 ∧ Rl n op (zFeed c x1 x2 x3 x4 x5 tp).2 (sFeed m x1 x2 x3 x4 x5 tp).2 w
def Lw_fin (Rl : (Nat → Nat) → Option Nat → (Nat → Nat → Nat → Int32) → (Nat → Nat → Int32) → Int64 → Prop) : Prop := ∀ n op c m w x, Rl n op c m w → bI (0 ≤ x ∧ x ≤ c 1 0 1) = (sEnd m x).1 ∧ Rl n op (if 0 ≤ x ∧ x ≤ c 1 0 1 then cu c 1 0 1 x else c) (sEnd m x).2 w
def Lw_rules (Rl : (Nat → Nat) → Option Nat → (Nat → Nat → Nat → Int32) → (Nat → Nat → Int32) → Int64 → Prop) : Prop := ∀ n op c m w tp, Rl n op c m w → c 1 0 1 = nI tp → tp ≤ 140 → ∃ F, okRules m w tp F ∧ (zRules c tp).1 = (sRules m w tp F).1 ∧ Rl n (zRules c tp).2.1 (zRules c tp).2.2 (sRules m w tp F).2.1 (sRules m w tp F).2.2
def Lw_fault (Rl : (Nat → Nat) → Option Nat → (Nat → Nat → Nat → Int32) → (Nat → Nat → Int32) → Int64 → Prop) : Prop := ∀ n op c m w, Rl n op c m w → c 3 0 5 = m 13 0
def Lw_rule (Rl : (Nat → Nat) → Option Nat → (Nat → Nat → Nat → Int32) → (Nat → Nat → Int32) → Int64 → Prop) : Prop := ∀ n op c m w k, Rl n op c m w → zRule c k = sRule m k
def Lw_work (Rl : (Nat → Nat) → Option Nat → (Nat → Nat → Nat → Int32) → (Nat → Nat → Int32) → Int64 → Prop) : Prop := ∀ n op c m w rd x y, Rl n op c m w → c 0 0 9 = nI rd → rd ≤ 49 → (zWork n c rd x y).1 = (sWork m x y (n 0) rd).1 ∧ Rl (zWork n c rd x y).2.1 op (zWork n c rd x y).2.2 (sWork m x y (n 0) rd).2 w
def Lw_person (Rl : (Nat → Nat) → Option Nat → (Nat → Nat → Nat → Int32) → (Nat → Nat → Int32) → Int64 → Prop) : Prop := ∀ n op c m w x, Rl n op c m w → (zPerson n c x).1 = (sPerson m x (n 1)).1 ∧ Rl (zPerson n c x).2.1 op (zPerson n c x).2.2 (sPerson m x (n 1)).2 w
def Lw_fund (Rl : (Nat → Nat) → Option Nat → (Nat → Nat → Nat → Int32) → (Nat → Nat → Int32) → Int64 → Prop) : Prop := ∀ n op c m w x, Rl n op c m w → (zFund n c x).1 = (sFund m x (n 2)).1 ∧ Rl (zFund n c x).2.1 op (zFund n c x).2.2 (sFund m x (n 2)).2 w
def Lw_give (Rl : (Nat → Nat) → Option Nat → (Nat → Nat → Nat → Int32) → (Nat → Nat → Int32) → Int64 → Prop) : Prop := ∀ n op c m w b f x, Rl n op c m w → (zGive n c b f x).1 = (sGive m b f x (n 0)).1 ∧ Rl n op (zGive n c b f x).2 (sGive m b f x (n 0)).2 w
def Lw_bid (Rl : (Nat → Nat) → Option Nat → (Nat → Nat → Nat → Int32) → (Nat → Nat → Int32) → Int64 → Prop) : Prop := ∀ n op c m w b x y, Rl n op c m w → (zBid n c b x y).1 = (sBid m b x y (n 0)).1 ∧ Rl n op (zBid n c b x y).2 (sBid m b x y (n 0)).2 w
def Lw_close (Rl : (Nat → Nat) → Option Nat → (Nat → Nat → Nat → Int32) → (Nat → Nat → Int32) → Int64 → Prop) : Prop := ∀ n op c m w rd, Rl n op c m w → c 0 0 9 = nI rd → rd ≤ 49 → ∃ O R1 R2, (rd < 49 → okC n c rd O) ∧ (¬ rd = 49 → okClose m (n 0) (n 1) rd R1 R2) ∧ (zClose n c rd O).1 = (sClose m (n 0) (n 1) rd R1 R2).1 ∧ Rl n op (zClose n c rd O).2 (sClose m (n 0) (n 1) rd R1 R2).2 w
def Lw_about (Rl : (Nat → Nat) → Option Nat → (Nat → Nat → Nat → Int32) → (Nat → Nat → Int32) → Int64 → Prop) : Prop := ∀ n op c m w x y, Rl n op c m w → zAbout n c x y = sAbout m x y
def Lw_price (Rl : (Nat → Nat) → Option Nat → (Nat → Nat → Nat → Int32) → (Nat → Nat → Int32) → Int64 → Prop) : Prop := ∀ n op c m w x r, Rl n op c m w → zPrice n c x r = sPrice m x r
def Lw_purse (Rl : (Nat → Nat) → Option Nat → (Nat → Nat → Nat → Int32) → (Nat → Nat → Int32) → Int64 → Prop) : Prop := ∀ n op c m w x y, Rl n op c m w → (okP n x y ↔ okPurse m x y) ∧ (okP n x y → zPurse n c x y = vPurse m x y (n 0))
def Lw_holds (Rl : (Nat → Nat) → Option Nat → (Nat → Nat → Nat → Int32) → (Nat → Nat → Int32) → Int64 → Prop) : Prop := ∀ n op c m w b x r, Rl n op c m w → zHolds n c b x r = sHolds m b x r
def Lw_asks (Rl : (Nat → Nat) → Option Nat → (Nat → Nat → Nat → Int32) → (Nat → Nat → Int32) → Int64 → Prop) : Prop := ∀ n op c m w b x, Rl n op c m w → zAsks n c b x = sAsks m b x
def Lw_owned (Rl : (Nat → Nat) → Option Nat → (Nat → Nat → Nat → Int32) → (Nat → Nat → Int32) → Int64 → Prop) : Prop := ∀ n op c m w p x r k, Rl n op c m w → (okOc n c p x r k ↔ okOwn m p x r k) ∧ (okOwn m p x r k → okO m (tn p) (tn x) (tn r) (n 2)) ∧ (okOc n c p x r k → zOwned n c p x r k = oVal m (tn p) (tn x) (tn r) (n 2) k)
def Lw_count (Rl : (Nat → Nat) → Option Nat → (Nat → Nat → Nat → Int32) → (Nat → Nat → Int32) → Int64 → Prop) : Prop := ∀ n op c m w x, Rl n op c m w → zCount n c x = sCount m x
def LwOk (Rl : (Nat → Nat) → Option Nat → (Nat → Nat → Nat → Int32) → (Nat → Nat → Int32) → Int64 → Prop) : Prop := Lw_st Rl ∧ Lw_thr Rl ∧ Lw_feed Rl ∧ Lw_fin Rl ∧ Lw_rules Rl ∧ Lw_fault Rl ∧ Lw_rule Rl ∧ Lw_work Rl ∧ Lw_person Rl ∧ Lw_fund Rl ∧ Lw_give Rl ∧ Lw_bid Rl ∧ Lw_close Rl ∧ Lw_about Rl ∧ Lw_price Rl ∧ Lw_purse Rl ∧ Lw_holds Rl ∧ Lw_asks Rl ∧ Lw_owned Rl ∧ Lw_count Rl
theorem LwOk.st {Rl : (Nat → Nat) → Option Nat → (Nat → Nat → Nat → Int32) → (Nat → Nat → Int32) → Int64 → Prop} (h : LwOk Rl) : ∀ n op c m w, Rl n op c m w → nOK n ∧ (∃ rd tp, mI m (n 0) (n 1) (n 2) rd tp ∧ c 1 0 1 = nI tp ∧ c 0 0 9 = nI rd) ∧ (∀ j, j < n 0 → 0 ≤ m 21 j) ∧ (∀ j, j < n 0 → 0 ≤ c 13 j 1) := h.1
theorem LwOk.thr {Rl : (Nat → Nat) → Option Nat → (Nat → Nat → Nat → Int32) → (Nat → Nat → Int32) → Int64 → Prop} (h : LwOk Rl) : ∀ n op c m w v, Rl n op c m w → Rl n op c (mu m 0 0 v) w := h.2.1
theorem LwOk.feed {Rl : (Nat → Nat) → Option Nat → (Nat → Nat → Nat → Int32) → (Nat → Nat → Int32) → Int64 → Prop} (h : LwOk Rl) : ∀ n op c m w tp x1 x2 x3 x4 x5, Rl n op c m w → c 1 0 1 = nI tp → tp ≤ 140 → (zFeed c x1 x2 x3 x4 x5 tp).1 = (sFeed m x1 x2 x3 x4 x5 tp).1 ∧ Rl n op (zFeed c x1 x2 x3 x4 x5 tp).2 (sFeed m x1 x2 x3 x4 x5 tp).2 w := h.2.2.1
theorem LwOk.fin {Rl : (Nat → Nat) → Option Nat → (Nat → Nat → Nat → Int32) → (Nat → Nat → Int32) → Int64 → Prop} (h : LwOk Rl) : ∀ n op c m w x, Rl n op c m w → bI (0 ≤ x ∧ x ≤ c 1 0 1) = (sEnd m x).1 ∧ Rl n op (if 0 ≤ x ∧ x ≤ c 1 0 1 then cu c 1 0 1 x else c) (sEnd m x).2 w := h.2.2.2.1
theorem LwOk.rules {Rl : (Nat → Nat) → Option Nat → (Nat → Nat → Nat → Int32) → (Nat → Nat → Int32) → Int64 → Prop} (h : LwOk Rl) : ∀ n op c m w tp, Rl n op c m w → c 1 0 1 = nI tp → tp ≤ 140 → ∃ F, okRules m w tp F ∧ (zRules c tp).1 = (sRules m w tp F).1 ∧ Rl n (zRules c tp).2.1 (zRules c tp).2.2 (sRules m w tp F).2.1 (sRules m w tp F).2.2 := h.2.2.2.2.1
theorem LwOk.fault {Rl : (Nat → Nat) → Option Nat → (Nat → Nat → Nat → Int32) → (Nat → Nat → Int32) → Int64 → Prop} (h : LwOk Rl) : ∀ n op c m w, Rl n op c m w → c 3 0 5 = m 13 0 := h.2.2.2.2.2.1
theorem LwOk.rule {Rl : (Nat → Nat) → Option Nat → (Nat → Nat → Nat → Int32) → (Nat → Nat → Int32) → Int64 → Prop} (h : LwOk Rl) : ∀ n op c m w k, Rl n op c m w → zRule c k = sRule m k := h.2.2.2.2.2.2.1
theorem LwOk.work {Rl : (Nat → Nat) → Option Nat → (Nat → Nat → Nat → Int32) → (Nat → Nat → Int32) → Int64 → Prop} (h : LwOk Rl) : ∀ n op c m w rd x y, Rl n op c m w → c 0 0 9 = nI rd → rd ≤ 49 → (zWork n c rd x y).1 = (sWork m x y (n 0) rd).1 ∧ Rl (zWork n c rd x y).2.1 op (zWork n c rd x y).2.2 (sWork m x y (n 0) rd).2 w := h.2.2.2.2.2.2.2.1
theorem LwOk.person {Rl : (Nat → Nat) → Option Nat → (Nat → Nat → Nat → Int32) → (Nat → Nat → Int32) → Int64 → Prop} (h : LwOk Rl) : ∀ n op c m w x, Rl n op c m w → (zPerson n c x).1 = (sPerson m x (n 1)).1 ∧ Rl (zPerson n c x).2.1 op (zPerson n c x).2.2 (sPerson m x (n 1)).2 w := h.2.2.2.2.2.2.2.2.1
theorem LwOk.fund {Rl : (Nat → Nat) → Option Nat → (Nat → Nat → Nat → Int32) → (Nat → Nat → Int32) → Int64 → Prop} (h : LwOk Rl) : ∀ n op c m w x, Rl n op c m w → (zFund n c x).1 = (sFund m x (n 2)).1 ∧ Rl (zFund n c x).2.1 op (zFund n c x).2.2 (sFund m x (n 2)).2 w := h.2.2.2.2.2.2.2.2.2.1
theorem LwOk.give {Rl : (Nat → Nat) → Option Nat → (Nat → Nat → Nat → Int32) → (Nat → Nat → Int32) → Int64 → Prop} (h : LwOk Rl) : ∀ n op c m w b f x, Rl n op c m w → (zGive n c b f x).1 = (sGive m b f x (n 0)).1 ∧ Rl n op (zGive n c b f x).2 (sGive m b f x (n 0)).2 w := h.2.2.2.2.2.2.2.2.2.2.1
theorem LwOk.bid {Rl : (Nat → Nat) → Option Nat → (Nat → Nat → Nat → Int32) → (Nat → Nat → Int32) → Int64 → Prop} (h : LwOk Rl) : ∀ n op c m w b x y, Rl n op c m w → (zBid n c b x y).1 = (sBid m b x y (n 0)).1 ∧ Rl n op (zBid n c b x y).2 (sBid m b x y (n 0)).2 w := h.2.2.2.2.2.2.2.2.2.2.2.1
theorem LwOk.close {Rl : (Nat → Nat) → Option Nat → (Nat → Nat → Nat → Int32) → (Nat → Nat → Int32) → Int64 → Prop} (h : LwOk Rl) : ∀ n op c m w rd, Rl n op c m w → c 0 0 9 = nI rd → rd ≤ 49 → ∃ O R1 R2, (rd < 49 → okC n c rd O) ∧ (¬ rd = 49 → okClose m (n 0) (n 1) rd R1 R2) ∧ (zClose n c rd O).1 = (sClose m (n 0) (n 1) rd R1 R2).1 ∧ Rl n op (zClose n c rd O).2 (sClose m (n 0) (n 1) rd R1 R2).2 w := h.2.2.2.2.2.2.2.2.2.2.2.2.1
theorem LwOk.about {Rl : (Nat → Nat) → Option Nat → (Nat → Nat → Nat → Int32) → (Nat → Nat → Int32) → Int64 → Prop} (h : LwOk Rl) : ∀ n op c m w x y, Rl n op c m w → zAbout n c x y = sAbout m x y := h.2.2.2.2.2.2.2.2.2.2.2.2.2.1
theorem LwOk.price {Rl : (Nat → Nat) → Option Nat → (Nat → Nat → Nat → Int32) → (Nat → Nat → Int32) → Int64 → Prop} (h : LwOk Rl) : ∀ n op c m w x r, Rl n op c m w → zPrice n c x r = sPrice m x r := h.2.2.2.2.2.2.2.2.2.2.2.2.2.2.1
theorem LwOk.purse {Rl : (Nat → Nat) → Option Nat → (Nat → Nat → Nat → Int32) → (Nat → Nat → Int32) → Int64 → Prop} (h : LwOk Rl) : ∀ n op c m w x y, Rl n op c m w → (okP n x y ↔ okPurse m x y) ∧ (okP n x y → zPurse n c x y = vPurse m x y (n 0)) := h.2.2.2.2.2.2.2.2.2.2.2.2.2.2.2.1
theorem LwOk.holds {Rl : (Nat → Nat) → Option Nat → (Nat → Nat → Nat → Int32) → (Nat → Nat → Int32) → Int64 → Prop} (h : LwOk Rl) : ∀ n op c m w b x r, Rl n op c m w → zHolds n c b x r = sHolds m b x r := h.2.2.2.2.2.2.2.2.2.2.2.2.2.2.2.2.1
theorem LwOk.asks {Rl : (Nat → Nat) → Option Nat → (Nat → Nat → Nat → Int32) → (Nat → Nat → Int32) → Int64 → Prop} (h : LwOk Rl) : ∀ n op c m w b x, Rl n op c m w → zAsks n c b x = sAsks m b x := h.2.2.2.2.2.2.2.2.2.2.2.2.2.2.2.2.2.1
theorem LwOk.owned {Rl : (Nat → Nat) → Option Nat → (Nat → Nat → Nat → Int32) → (Nat → Nat → Int32) → Int64 → Prop} (h : LwOk Rl) : ∀ n op c m w p x r k, Rl n op c m w → (okOc n c p x r k ↔ okOwn m p x r k) ∧ (okOwn m p x r k → okO m (tn p) (tn x) (tn r) (n 2)) ∧ (okOc n c p x r k → zOwned n c p x r k = oVal m (tn p) (tn x) (tn r) (n 2) k) := h.2.2.2.2.2.2.2.2.2.2.2.2.2.2.2.2.2.2.1
theorem LwOk.count {Rl : (Nat → Nat) → Option Nat → (Nat → Nat → Nat → Int32) → (Nat → Nat → Int32) → Int64 → Prop} (h : LwOk Rl) : ∀ n op c m w x, Rl n op c m w → zCount n c x = sCount m x := h.2.2.2.2.2.2.2.2.2.2.2.2.2.2.2.2.2.2.2
theorem nI_L6 {L j : Nat} (hL : L ≤ 3072) (hj : j ≤ 3072) : (nI L - 6 < nI j ↔ L < j + 6) := by
  have h1 : (nI L).toInt = L := nI_toInt (by omega)
  have h2 : (nI j).toInt = j := nI_toInt (by omega)
  rw [Int32.lt_iff_toInt_lt, Int32.toInt_sub, h1, h2]
  have h3 : ((L : Int) - (6 : Int32).toInt).bmod (2 ^ 32) = (L : Int) - 6 := by
    rw [show (6 : Int32).toInt = 6 from rfl]
    exact Int.bmod_eq_of_le (by omega) (by omega)
  rw [h3]
  omega

theorem lw_out {a b : va_W} {e : Nat × va_E} : (a ++ [e] ++ b)[a.length]? = some e := by
  rw [List.append_assoc, List.getElem?_append_right (Nat.le_refl _), Nat.sub_self]
  rfl

theorem mu_self {m : Nat → Nat → Int32} {k j : Nat} {v : Int32} : mu m k j v k j = v := by simp [mu, upd]
theorem updL_self {g : Nat → Int64} {k : Nat} {v : Int64} : vp_updL g k v k = v := by simp [vp_updL]
theorem nI_6 (k : Nat) : nI (6 * k) + 6 = nI (6 * (k + 1)) := nI_add (6 * k) 6
theorem lwp_1 {n : Nat → Nat} {c : Nat → Nat → Nat → Int32} {m : Nat → Nat → Int32} {g : Nat → Int64} {x y : Int32} {nW : Nat} (h : okP n x y ↔ okPurse m x y) : (sPurse m x y nW).2 0 0 = (zLP n c g x y).1 := by
  by_cases hp : okP n x y
  · rw [sPurse, if_pos (h.mp hp), zLP, if_pos hp]
    exact (mu_self : mu m 0 0 0 0 0 = 0)
  · rw [sPurse, if_neg (fun q => hp (h.mpr q)), zLP, if_neg hp]
    exact (mu_self : mu m 0 0 1 0 0 = 1)
theorem lwp_2 {n : Nat → Nat} {c : Nat → Nat → Nat → Int32} {m : Nat → Nat → Int32} {g : Nat → Int64} {x y : Int32} {nW : Nat} (h : (okP n x y ↔ okPurse m x y) ∧ (okP n x y → zPurse n c x y = vPurse m x y nW)) : (zLP n c g x y).1 = 0 → (zLP n c g x y).2 0 = (sPurse m x y nW).1.toInt64 := by
  intro h0
  by_cases hp : okP n x y
  · rw [sPurse, if_pos (h.1.mp hp), zLP, if_pos hp, h.2 hp]
    exact (updL_self : vp_updL g 0 _ 0 = _)
  · rw [zLP, if_neg hp] at h0
    exact absurd (show (1 : Int32) = 0 from h0) (by decide)
theorem lwp_3 {Rl : (Nat → Nat) → Option Nat → (Nat → Nat → Nat → Int32) → (Nat → Nat → Int32) → Int64 → Prop} (hok : LwOk Rl) {n : Nat → Nat} {op : Option Nat} {c : Nat → Nat → Nat → Int32} {m : Nat → Nat → Int32} {w : Int64} {x y : Int32} {nW : Nat} (h : Rl n op c m w) : Rl n op c (sPurse m x y nW).2 w := by
  unfold sPurse
  split <;> exact hok.thr _ _ _ _ _ _ h
theorem lwo_1 {n : Nat → Nat} {c : Nat → Nat → Nat → Int32} {m : Nat → Nat → Int32} {g : Nat → Int64} {p x r y : Int32} {nF : Nat} (h : okOc n c p x r y ↔ okOwn m p x r y) : (sOwned m p x r y nF).2 0 0 = (zLO n c g p x r y).1 := by
  by_cases hp : okOc n c p x r y
  · rw [sOwned, if_pos (h.mp hp), zLO, if_pos hp]
    exact (mu_self : mu m 0 0 0 0 0 = 0)
  · rw [sOwned, if_neg (fun q => hp (h.mpr q)), zLO, if_neg hp]
    exact (mu_self : mu m 0 0 1 0 0 = 1)
theorem lwo_2 {n : Nat → Nat} {c : Nat → Nat → Nat → Int32} {m : Nat → Nat → Int32} {g : Nat → Int64} {p x r y : Int32} {nF : Nat} (h : (okOc n c p x r y ↔ okOwn m p x r y) ∧ (okOc n c p x r y → zOwned n c p x r y = oVal m (tn p) (tn x) (tn r) nF y)) : (zLO n c g p x r y).1 = 0 → (zLO n c g p x r y).2 0 = (sOwned m p x r y nF).1 := by
  intro h0
  by_cases hp : okOc n c p x r y
  · rw [sOwned, if_pos (h.1.mp hp), zLO, if_pos hp, h.2 hp]
    exact (updL_self : vp_updL g 0 _ 0 = _)
  · rw [zLO, if_neg hp] at h0
    exact absurd (show (1 : Int32) = 0 from h0) (by decide)
theorem lwo_3 {Rl : (Nat → Nat) → Option Nat → (Nat → Nat → Nat → Int32) → (Nat → Nat → Int32) → Int64 → Prop} (hok : LwOk Rl) {n : Nat → Nat} {op : Option Nat} {c : Nat → Nat → Nat → Int32} {m : Nat → Nat → Int32} {w : Int64} {p x r y : Int32} {nF : Nat} (h : Rl n op c m w) : Rl n op c (sOwned m p x r y nF).2 w := by
  unfold sOwned
  split <;> exact hok.thr _ _ _ _ _ _ h

set_option maxHeartbeats 4000000 in
set_option maxRecDepth 100000 in
theorem law_0 (l : Launch) (d : jD) (ad adK adV : Nat → Nat) (al : Nat) (Rl : (Nat → Nat) → Option Nat → (Nat → Nat → Nat → Int32) → (Nat → Nat → Int32) → Int64 → Prop) (hok : LwOk Rl) (hls : l.stackTraces = false) {X : jX} {A : Nat → Prop} {b L : Nat} {xs : Nat → Int32} (hL : L ≤ 3072) (C : jC (cEf ad adK adV al) X l d A cL_law 8 wsL_law RL room_1 (some .boolean)) (hSc : jS X A b L xs) (o ob a0 : Nat) (q : Nat → Nat) (k : Nat) (hk : 6 * k + 6 ≤ L) (nx : ∀ (a : Nat → Nat → Nat) (n : Nat → Nat) (op : Option Nat) (c : Nat → Nat → Nat → Int32) (m : Nat → Nat → Int32) (w : Int64) (g : Nat → Int64), a 0 0 = a0 → Rl n op c m w → jJ X l d A 8 (100 + 5 * (k + 1)) (20000 + 1514 * (k + 1)) (WL a d n op ad c ob g o q m w) [(0, .ref b), (1, .ref a0), (2, .ref o), (3, .ref ob), (4, .int (nI (6 * (k + 1))))] 23 []) : ∀ (a : Nat → Nat → Nat) (n : Nat → Nat) (op : Option Nat) (c : Nat → Nat → Nat → Int32) (m : Nat → Nat → Int32) (w : Int64) (g : Nat → Int64), a 0 0 = a0 → Rl n op c m w → jJ X l d A 8 (100 + 5 * k) (20000 + 1514 * k) (WL a d n op ad c ob g o q m w) [(0, .ref b), (1, .ref a0), (2, .ref o), (3, .ref ob), (4, .int (nI (6 * k)))] 128 [] := by
  intro a n op c m w g ha0 hRl
  obtain ⟨hn, ⟨rd, tp, hI, hT, hR9⟩, hs1, hs2⟩ := hok.st _ _ _ _ _ hRl
  obtain ⟨hI1, hI2, hI3, hI4, hI5, hI6, hI7, hrd, hTm, htp⟩ := id hI
  subst ha0
  have hz := hok.feed _ _ _ _ _ tp (xs (6 * k + 1)) (xs (6 * k + 2)) (xs (6 * k + 3)) (xs (6 * k + 4)) (xs (6 * k + 5)) hRl hT htp
  refine j_aload_n C 1 dL_law_128 rfl rfl ?_
  refine j_aload_n C 0 dL_law_129 rfl rfl ?_
  refine j_iload C 4 dL_law_130 rfl ?_
  refine j_iconst C 1 dL_law_132 (by decide) ?_
  refine j_iaddN C (6 * k) 1 dL_law_133 ?_
  refine j_sld C hSc (6 * k + 1) rfl (by omega) (by omega) dL_law_134 ?_
  refine j_aload_n C 0 dL_law_135 rfl rfl ?_
  refine j_iload C 4 dL_law_136 rfl ?_
  refine j_iconst C 2 dL_law_138 (by decide) ?_
  refine j_iaddN C (6 * k) 2 dL_law_139 ?_
  refine j_sld C hSc (6 * k + 2) rfl (by omega) (by omega) dL_law_140 ?_
  refine j_aload_n C 0 dL_law_141 rfl rfl ?_
  refine j_iload C 4 dL_law_142 rfl ?_
  refine j_iconst C 3 dL_law_144 (by decide) ?_
  refine j_iaddN C (6 * k) 3 dL_law_145 ?_
  refine j_sld C hSc (6 * k + 3) rfl (by omega) (by omega) dL_law_146 ?_
  refine j_aload_n C 0 dL_law_147 rfl rfl ?_
  refine j_iload C 4 dL_law_148 rfl ?_
  refine j_iconst C 4 dL_law_150 (by decide) ?_
  refine j_iaddN C (6 * k) 4 dL_law_151 ?_
  refine j_sld C hSc (6 * k + 4) rfl (by omega) (by omega) dL_law_152 ?_
  refine j_aload_n C 0 dL_law_153 rfl rfl ?_
  refine j_iload C 4 dL_law_154 rfl ?_
  refine j_iconst C 5 dL_law_156 (by decide) ?_
  refine j_iaddN C (6 * k) 5 dL_law_157 ?_
  refine j_sld C hSc (6 * k + 5) rfl (by omega) (by omega) dL_law_158 ?_
  refine l_x9 C 5 (cc_X9_feed l d ad adK adV al a n op c hn (xs (6 * k + 1)) (xs (6 * k + 2)) (xs (6 * k + 3)) (xs (6 * k + 4)) (xs (6 * k + 5)) tp hT htp) gL_law_X9_feed rfl rfl rfl (by decide +kernel) ⟨(Nat.le_of_ble_eq_true rfl), (Nat.le_of_ble_eq_true rfl)⟩ ⟨by show _ ≤ 601024; omega, by show _ ≤ 7293034; omega⟩ rfl rfl (Nat.le_of_ble_eq_true rfl) dL_law_159 (fun r159 u159 h159 => ?_)
  obtain ⟨rfl, rfl⟩ := h159
  refine j_aload_n C 2 dL_law_162 rfl rfl ?_
  refine j_aload_n C 0 dL_law_163 rfl rfl ?_
  refine j_iload C 4 dL_law_164 rfl ?_
  refine j_iconst C 1 dL_law_166 (by decide) ?_
  refine j_iaddN C (6 * k) 1 dL_law_167 ?_
  refine j_sld C hSc (6 * k + 1) rfl (by omega) (by omega) dL_law_168 ?_
  refine j_aload_n C 0 dL_law_169 rfl rfl ?_
  refine j_iload C 4 dL_law_170 rfl ?_
  refine j_iconst C 2 dL_law_172 (by decide) ?_
  refine j_iaddN C (6 * k) 2 dL_law_173 ?_
  refine j_sld C hSc (6 * k + 2) rfl (by omega) (by omega) dL_law_174 ?_
  refine j_aload_n C 0 dL_law_175 rfl rfl ?_
  refine j_iload C 4 dL_law_176 rfl ?_
  refine j_iconst C 3 dL_law_178 (by decide) ?_
  refine j_iaddN C (6 * k) 3 dL_law_179 ?_
  refine j_sld C hSc (6 * k + 3) rfl (by omega) (by omega) dL_law_180 ?_
  refine j_aload_n C 0 dL_law_181 rfl rfl ?_
  refine j_iload C 4 dL_law_182 rfl ?_
  refine j_iconst C 4 dL_law_184 (by decide) ?_
  refine j_iaddN C (6 * k) 4 dL_law_185 ?_
  refine j_sld C hSc (6 * k + 4) rfl (by omega) (by omega) dL_law_186 ?_
  refine j_aload_n C 0 dL_law_187 rfl rfl ?_
  refine j_iload C 4 dL_law_188 rfl ?_
  refine j_iconst C 5 dL_law_190 (by decide) ?_
  refine j_iaddN C (6 * k) 5 dL_law_191 ?_
  refine j_sld C hSc (6 * k + 5) rfl (by omega) (by omega) dL_law_192 ?_
  refine l_x10 C 5 (cm_feed l d o q m w (xs (6 * k + 1)) (xs (6 * k + 2)) (xs (6 * k + 3)) (xs (6 * k + 4)) (xs (6 * k + 5)) tp hTm htp) gL_law_X10_feed rfl rfl rfl (by decide +kernel) ⟨(Nat.le_of_ble_eq_true rfl), (Nat.le_of_ble_eq_true rfl)⟩ ⟨by show _ ≤ 601024; omega, by show _ ≤ 7293034; omega⟩ rfl rfl (Nat.le_of_ble_eq_true rfl) dL_law_193 (fun r193 u193 h193 => ?_)
  obtain ⟨rfl, rfl⟩ := h193
  refine j_icmp_eq C 819 dL_law_196 (by decide) (fun c196 => ?_) (fun c196 => absurd hz.1 c196)
  refine j_lv (lv' := [(0, .ref b), (1, .ref (a 0 0)), (2, .ref o), (3, .ref ob), (4, .int (nI (6 * k)))]) [0, 1, 2, 3, 4] rfl ?_
  refine j_widen (k1 := 100 + 5 * (k + 1)) (n1 := 20000 + 1514 * (k + 1)) (by omega) (by omega) ?_
  refine j_iinc C (nI (6 * (k + 1))) [(0, .ref b), (1, .ref (a 0 0)), (2, .ref o), (3, .ref ob), (4, .int (nI (6 * (k + 1))))] 4 [1, 2, 3, 4, 0] dL_law_819 rfl (nI_6 k) (by decide) rfl ?_
  refine j_goto C 23 dL_law_822 (by decide) ?_
  exact nx a n op ((zFeed c (xs (6 * k + 1)) (xs (6 * k + 2)) (xs (6 * k + 3)) (xs (6 * k + 4)) (xs (6 * k + 5)) tp).2) ((sFeed m (xs (6 * k + 1)) (xs (6 * k + 2)) (xs (6 * k + 3)) (xs (6 * k + 4)) (xs (6 * k + 5)) tp).2) w g rfl hz.2

set_option maxHeartbeats 4000000 in
set_option maxRecDepth 100000 in
theorem law_1 (l : Launch) (d : jD) (ad adK adV : Nat → Nat) (al : Nat) (Rl : (Nat → Nat) → Option Nat → (Nat → Nat → Nat → Int32) → (Nat → Nat → Int32) → Int64 → Prop) (hok : LwOk Rl) (hls : l.stackTraces = false) {X : jX} {A : Nat → Prop} {b L : Nat} {xs : Nat → Int32} (hL : L ≤ 3072) (C : jC (cEf ad adK adV al) X l d A cL_law 8 wsL_law RL room_1 (some .boolean)) (hSc : jS X A b L xs) (o ob a0 : Nat) (q : Nat → Nat) (k : Nat) (hk : 6 * k + 6 ≤ L) (nx : ∀ (a : Nat → Nat → Nat) (n : Nat → Nat) (op : Option Nat) (c : Nat → Nat → Nat → Int32) (m : Nat → Nat → Int32) (w : Int64) (g : Nat → Int64), a 0 0 = a0 → Rl n op c m w → jJ X l d A 8 (100 + 5 * (k + 1)) (20000 + 1514 * (k + 1)) (WL a d n op ad c ob g o q m w) [(0, .ref b), (1, .ref a0), (2, .ref o), (3, .ref ob), (4, .int (nI (6 * (k + 1))))] 23 []) : ∀ (a : Nat → Nat → Nat) (n : Nat → Nat) (op : Option Nat) (c : Nat → Nat → Nat → Int32) (m : Nat → Nat → Int32) (w : Int64) (g : Nat → Int64), a 0 0 = a0 → Rl n op c m w → jJ X l d A 8 (100 + 5 * k) (20000 + 1514 * k) (WL a d n op ad c ob g o q m w) [(0, .ref b), (1, .ref a0), (2, .ref o), (3, .ref ob), (4, .int (nI (6 * k)))] 201 [] := by
  intro a n op c m w g ha0 hRl
  obtain ⟨hn, ⟨rd, tp, hI, hT, hR9⟩, hs1, hs2⟩ := hok.st _ _ _ _ _ hRl
  obtain ⟨hI1, hI2, hI3, hI4, hI5, hI6, hI7, hrd, hTm, htp⟩ := id hI
  subst ha0
  have hz := hok.fin _ _ _ _ _ (xs (6 * k + 1)) hRl
  refine j_aload_n C 1 dL_law_201 rfl rfl ?_
  refine j_aload_n C 0 dL_law_202 rfl rfl ?_
  refine j_iload C 4 dL_law_203 rfl ?_
  refine j_iconst C 1 dL_law_205 (by decide) ?_
  refine j_iaddN C (6 * k) 1 dL_law_206 ?_
  refine j_sld C hSc (6 * k + 1) rfl (by omega) (by omega) dL_law_207 ?_
  refine l_x9 C 1 (cc_X9_end l d ad adK adV al a n op c hn (xs (6 * k + 1))) gL_law_X9_end rfl rfl rfl (by decide +kernel) ⟨(Nat.le_of_ble_eq_true rfl), (Nat.le_of_ble_eq_true rfl)⟩ ⟨by show _ ≤ 601024; omega, by show _ ≤ 7293034; omega⟩ rfl rfl (Nat.le_of_ble_eq_true rfl) dL_law_208 (fun r208 u208 h208 => ?_)
  obtain ⟨rfl, rfl⟩ := h208
  refine j_aload_n C 2 dL_law_211 rfl rfl ?_
  refine j_aload_n C 0 dL_law_212 rfl rfl ?_
  refine j_iload C 4 dL_law_213 rfl ?_
  refine j_iconst C 1 dL_law_215 (by decide) ?_
  refine j_iaddN C (6 * k) 1 dL_law_216 ?_
  refine j_sld C hSc (6 * k + 1) rfl (by omega) (by omega) dL_law_217 ?_
  refine l_x10 C 1 (cm_end l d o q m w (xs (6 * k + 1)) tp hTm) gL_law_X10_end rfl rfl rfl (by decide +kernel) ⟨(Nat.le_of_ble_eq_true rfl), (Nat.le_of_ble_eq_true rfl)⟩ ⟨by show _ ≤ 601024; omega, by show _ ≤ 7293034; omega⟩ rfl rfl (Nat.le_of_ble_eq_true rfl) dL_law_218 (fun r218 u218 h218 => ?_)
  obtain ⟨rfl, rfl⟩ := h218
  refine j_icmp_eq C 819 dL_law_221 (by decide) (fun c221 => ?_) (fun c221 => absurd hz.1 c221)
  refine j_lv (lv' := [(0, .ref b), (1, .ref (a 0 0)), (2, .ref o), (3, .ref ob), (4, .int (nI (6 * k)))]) [0, 1, 2, 3, 4] rfl ?_
  refine j_widen (k1 := 100 + 5 * (k + 1)) (n1 := 20000 + 1514 * (k + 1)) (by omega) (by omega) ?_
  refine j_iinc C (nI (6 * (k + 1))) [(0, .ref b), (1, .ref (a 0 0)), (2, .ref o), (3, .ref ob), (4, .int (nI (6 * (k + 1))))] 4 [1, 2, 3, 4, 0] dL_law_819 rfl (nI_6 k) (by decide) rfl ?_
  refine j_goto C 23 dL_law_822 (by decide) ?_
  exact nx a n op (if 0 ≤ (xs (6 * k + 1)) ∧ (xs (6 * k + 1)) ≤ c 1 0 1 then cu c 1 0 1 (xs (6 * k + 1)) else c) ((sEnd m (xs (6 * k + 1))).2) w g rfl hz.2

set_option maxHeartbeats 4000000 in
set_option maxRecDepth 100000 in
theorem law_2 (l : Launch) (d : jD) (ad adK adV : Nat → Nat) (al : Nat) (Rl : (Nat → Nat) → Option Nat → (Nat → Nat → Nat → Int32) → (Nat → Nat → Int32) → Int64 → Prop) (hok : LwOk Rl) (hls : l.stackTraces = false) {X : jX} {A : Nat → Prop} {b L : Nat} {xs : Nat → Int32} (hL : L ≤ 3072) (C : jC (cEf ad adK adV al) X l d A cL_law 8 wsL_law RL room_1 (some .boolean)) (hSc : jS X A b L xs) (o ob a0 : Nat) (q : Nat → Nat) (k : Nat) (hk : 6 * k + 6 ≤ L) (nx : ∀ (a : Nat → Nat → Nat) (n : Nat → Nat) (op : Option Nat) (c : Nat → Nat → Nat → Int32) (m : Nat → Nat → Int32) (w : Int64) (g : Nat → Int64), a 0 0 = a0 → Rl n op c m w → jJ X l d A 8 (100 + 5 * (k + 1)) (20000 + 1514 * (k + 1)) (WL a d n op ad c ob g o q m w) [(0, .ref b), (1, .ref a0), (2, .ref o), (3, .ref ob), (4, .int (nI (6 * (k + 1))))] 23 []) : ∀ (a : Nat → Nat → Nat) (n : Nat → Nat) (op : Option Nat) (c : Nat → Nat → Nat → Int32) (m : Nat → Nat → Int32) (w : Int64) (g : Nat → Int64), a 0 0 = a0 → Rl n op c m w → jJ X l d A 8 (100 + 5 * k) (20000 + 1514 * k) (WL a d n op ad c ob g o q m w) [(0, .ref b), (1, .ref a0), (2, .ref o), (3, .ref ob), (4, .int (nI (6 * k)))] 226 [] := by
  intro a n op c m w g ha0 hRl
  obtain ⟨hn, ⟨rd, tp, hI, hT, hR9⟩, hs1, hs2⟩ := hok.st _ _ _ _ _ hRl
  obtain ⟨hI1, hI2, hI3, hI4, hI5, hI6, hI7, hrd, hTm, htp⟩ := id hI
  subst ha0
  obtain ⟨F, hF, hz⟩ := hok.rules _ _ _ _ _ tp hRl hT htp
  refine j_aload_n C 1 dL_law_226 rfl rfl ?_
  refine l_x9 C 0 (cc_X9_rules l d ad adK adV al a n op c hn tp hT htp) gL_law_X9_rules rfl rfl rfl (by decide +kernel) ⟨(Nat.le_of_ble_eq_true rfl), (Nat.le_of_ble_eq_true rfl)⟩ ⟨by show _ ≤ 601024; omega, by show _ ≤ 7293034; omega⟩ rfl rfl (Nat.le_of_ble_eq_true rfl) dL_law_227 (fun r227 u227 h227 => ?_)
  obtain ⟨rfl, rfl⟩ := h227
  refine j_aload_n C 2 dL_law_230 rfl rfl ?_
  refine l_x10 C 0 (cm_rules l d o q m w tp F hTm htp hF) gL_law_X10_rules rfl rfl rfl (by decide +kernel) ⟨(Nat.le_of_ble_eq_true rfl), (Nat.le_of_ble_eq_true rfl)⟩ ⟨by show _ ≤ 601024; omega, by show _ ≤ 7293034; omega⟩ rfl rfl (Nat.le_of_ble_eq_true rfl) dL_law_231 (fun r231 u231 h231 => ?_)
  obtain ⟨rfl, rfl⟩ := h231
  refine j_icmp_eq C 819 dL_law_234 (by decide) (fun c234 => ?_) (fun c234 => absurd hz.1 c234)
  refine j_lv (lv' := [(0, .ref b), (1, .ref (a 0 0)), (2, .ref o), (3, .ref ob), (4, .int (nI (6 * k)))]) [0, 1, 2, 3, 4] rfl ?_
  refine j_widen (k1 := 100 + 5 * (k + 1)) (n1 := 20000 + 1514 * (k + 1)) (by omega) (by omega) ?_
  refine j_iinc C (nI (6 * (k + 1))) [(0, .ref b), (1, .ref (a 0 0)), (2, .ref o), (3, .ref ob), (4, .int (nI (6 * (k + 1))))] 4 [1, 2, 3, 4, 0] dL_law_819 rfl (nI_6 k) (by decide) rfl ?_
  refine j_goto C 23 dL_law_822 (by decide) ?_
  exact nx a n ((zRules c tp).2.1) ((zRules c tp).2.2) ((sRules m w tp F).2.1) ((sRules m w tp F).2.2) g rfl hz.2

set_option maxHeartbeats 4000000 in
set_option maxRecDepth 100000 in
theorem law_3 (l : Launch) (d : jD) (ad adK adV : Nat → Nat) (al : Nat) (Rl : (Nat → Nat) → Option Nat → (Nat → Nat → Nat → Int32) → (Nat → Nat → Int32) → Int64 → Prop) (hok : LwOk Rl) (hls : l.stackTraces = false) {X : jX} {A : Nat → Prop} {b L : Nat} {xs : Nat → Int32} (hL : L ≤ 3072) (C : jC (cEf ad adK adV al) X l d A cL_law 8 wsL_law RL room_1 (some .boolean)) (hSc : jS X A b L xs) (o ob a0 : Nat) (q : Nat → Nat) (k : Nat) (hk : 6 * k + 6 ≤ L) (nx : ∀ (a : Nat → Nat → Nat) (n : Nat → Nat) (op : Option Nat) (c : Nat → Nat → Nat → Int32) (m : Nat → Nat → Int32) (w : Int64) (g : Nat → Int64), a 0 0 = a0 → Rl n op c m w → jJ X l d A 8 (100 + 5 * (k + 1)) (20000 + 1514 * (k + 1)) (WL a d n op ad c ob g o q m w) [(0, .ref b), (1, .ref a0), (2, .ref o), (3, .ref ob), (4, .int (nI (6 * (k + 1))))] 23 []) : ∀ (a : Nat → Nat → Nat) (n : Nat → Nat) (op : Option Nat) (c : Nat → Nat → Nat → Int32) (m : Nat → Nat → Int32) (w : Int64) (g : Nat → Int64), a 0 0 = a0 → Rl n op c m w → jJ X l d A 8 (100 + 5 * k) (20000 + 1514 * k) (WL a d n op ad c ob g o q m w) [(0, .ref b), (1, .ref a0), (2, .ref o), (3, .ref ob), (4, .int (nI (6 * k)))] 239 [] := by
  intro a n op c m w g ha0 hRl
  obtain ⟨hn, ⟨rd, tp, hI, hT, hR9⟩, hs1, hs2⟩ := hok.st _ _ _ _ _ hRl
  obtain ⟨hI1, hI2, hI3, hI4, hI5, hI6, hI7, hrd, hTm, htp⟩ := id hI
  subst ha0
  refine j_aload_n C 1 dL_law_239 rfl rfl ?_
  refine l_x9 C 0 (cc_X9_fault l d ad adK adV al a n op c hn) gL_law_X9_fault rfl rfl rfl (by decide +kernel) ⟨(Nat.le_of_ble_eq_true rfl), (Nat.le_of_ble_eq_true rfl)⟩ ⟨by show _ ≤ 601024; omega, by show _ ≤ 7293034; omega⟩ rfl rfl (Nat.le_of_ble_eq_true rfl) dL_law_240 (fun r240 u240 h240 => ?_)
  obtain ⟨rfl, rfl⟩ := h240
  refine j_aload_n C 2 dL_law_243 rfl rfl ?_
  refine l_x10 C 0 (cm_fault l d o q m w) gL_law_X10_fault rfl rfl rfl (by decide +kernel) ⟨(Nat.le_of_ble_eq_true rfl), (Nat.le_of_ble_eq_true rfl)⟩ ⟨by show _ ≤ 601024; omega, by show _ ≤ 7293034; omega⟩ rfl rfl (Nat.le_of_ble_eq_true rfl) dL_law_244 (fun r244 u244 h244 => ?_)
  obtain ⟨rfl, rfl⟩ := h244
  refine j_icmp_eq C 819 dL_law_247 (by decide) (fun c247 => ?_) (fun c247 => absurd (hok.fault _ _ _ _ _ hRl) c247)
  refine j_lv (lv' := [(0, .ref b), (1, .ref (a 0 0)), (2, .ref o), (3, .ref ob), (4, .int (nI (6 * k)))]) [0, 1, 2, 3, 4] rfl ?_
  refine j_widen (k1 := 100 + 5 * (k + 1)) (n1 := 20000 + 1514 * (k + 1)) (by omega) (by omega) ?_
  refine j_iinc C (nI (6 * (k + 1))) [(0, .ref b), (1, .ref (a 0 0)), (2, .ref o), (3, .ref ob), (4, .int (nI (6 * (k + 1))))] 4 [1, 2, 3, 4, 0] dL_law_819 rfl (nI_6 k) (by decide) rfl ?_
  refine j_goto C 23 dL_law_822 (by decide) ?_
  exact nx a n op c (mu m 0 0 0) w g rfl (hok.thr _ _ _ _ _ _ hRl)

set_option maxHeartbeats 4000000 in
set_option maxRecDepth 100000 in
theorem law_4 (l : Launch) (d : jD) (ad adK adV : Nat → Nat) (al : Nat) (Rl : (Nat → Nat) → Option Nat → (Nat → Nat → Nat → Int32) → (Nat → Nat → Int32) → Int64 → Prop) (hok : LwOk Rl) (hls : l.stackTraces = false) {X : jX} {A : Nat → Prop} {b L : Nat} {xs : Nat → Int32} (hL : L ≤ 3072) (C : jC (cEf ad adK adV al) X l d A cL_law 8 wsL_law RL room_1 (some .boolean)) (hSc : jS X A b L xs) (o ob a0 : Nat) (q : Nat → Nat) (k : Nat) (hk : 6 * k + 6 ≤ L) (nx : ∀ (a : Nat → Nat → Nat) (n : Nat → Nat) (op : Option Nat) (c : Nat → Nat → Nat → Int32) (m : Nat → Nat → Int32) (w : Int64) (g : Nat → Int64), a 0 0 = a0 → Rl n op c m w → jJ X l d A 8 (100 + 5 * (k + 1)) (20000 + 1514 * (k + 1)) (WL a d n op ad c ob g o q m w) [(0, .ref b), (1, .ref a0), (2, .ref o), (3, .ref ob), (4, .int (nI (6 * (k + 1))))] 23 []) : ∀ (a : Nat → Nat → Nat) (n : Nat → Nat) (op : Option Nat) (c : Nat → Nat → Nat → Int32) (m : Nat → Nat → Int32) (w : Int64) (g : Nat → Int64), a 0 0 = a0 → Rl n op c m w → jJ X l d A 8 (100 + 5 * k) (20000 + 1514 * k) (WL a d n op ad c ob g o q m w) [(0, .ref b), (1, .ref a0), (2, .ref o), (3, .ref ob), (4, .int (nI (6 * k)))] 252 [] := by
  intro a n op c m w g ha0 hRl
  obtain ⟨hn, ⟨rd, tp, hI, hT, hR9⟩, hs1, hs2⟩ := hok.st _ _ _ _ _ hRl
  obtain ⟨hI1, hI2, hI3, hI4, hI5, hI6, hI7, hrd, hTm, htp⟩ := id hI
  subst ha0
  refine j_aload_n C 1 dL_law_252 rfl rfl ?_
  refine j_aload_n C 0 dL_law_253 rfl rfl ?_
  refine j_iload C 4 dL_law_254 rfl ?_
  refine j_iconst C 1 dL_law_256 (by decide) ?_
  refine j_iaddN C (6 * k) 1 dL_law_257 ?_
  refine j_sld C hSc (6 * k + 1) rfl (by omega) (by omega) dL_law_258 ?_
  refine l_x9 C 1 (cc_X9_rule l d ad adK adV al a n op c hn (xs (6 * k + 1))) gL_law_X9_rule rfl rfl rfl (by decide +kernel) ⟨(Nat.le_of_ble_eq_true rfl), (Nat.le_of_ble_eq_true rfl)⟩ ⟨by show _ ≤ 601024; omega, by show _ ≤ 7293034; omega⟩ rfl rfl (Nat.le_of_ble_eq_true rfl) dL_law_259 (fun r259 u259 h259 => ?_)
  obtain ⟨rfl, rfl⟩ := h259
  refine j_aload_n C 2 dL_law_262 rfl rfl ?_
  refine j_aload_n C 0 dL_law_263 rfl rfl ?_
  refine j_iload C 4 dL_law_264 rfl ?_
  refine j_iconst C 1 dL_law_266 (by decide) ?_
  refine j_iaddN C (6 * k) 1 dL_law_267 ?_
  refine j_sld C hSc (6 * k + 1) rfl (by omega) (by omega) dL_law_268 ?_
  refine l_x10 C 1 (cm_rule l d o q m w (xs (6 * k + 1))) gL_law_X10_rule rfl rfl rfl (by decide +kernel) ⟨(Nat.le_of_ble_eq_true rfl), (Nat.le_of_ble_eq_true rfl)⟩ ⟨by show _ ≤ 601024; omega, by show _ ≤ 7293034; omega⟩ rfl rfl (Nat.le_of_ble_eq_true rfl) dL_law_269 (fun r269 u269 h269 => ?_)
  obtain ⟨rfl, rfl⟩ := h269
  refine j_icmp_eq C 819 dL_law_272 (by decide) (fun c272 => ?_) (fun c272 => absurd (hok.rule _ _ _ _ _ _ hRl) c272)
  refine j_lv (lv' := [(0, .ref b), (1, .ref (a 0 0)), (2, .ref o), (3, .ref ob), (4, .int (nI (6 * k)))]) [0, 1, 2, 3, 4] rfl ?_
  refine j_widen (k1 := 100 + 5 * (k + 1)) (n1 := 20000 + 1514 * (k + 1)) (by omega) (by omega) ?_
  refine j_iinc C (nI (6 * (k + 1))) [(0, .ref b), (1, .ref (a 0 0)), (2, .ref o), (3, .ref ob), (4, .int (nI (6 * (k + 1))))] 4 [1, 2, 3, 4, 0] dL_law_819 rfl (nI_6 k) (by decide) rfl ?_
  refine j_goto C 23 dL_law_822 (by decide) ?_
  exact nx a n op c (mu m 0 0 0) w g rfl (hok.thr _ _ _ _ _ _ hRl)

set_option maxHeartbeats 4000000 in
set_option maxRecDepth 100000 in
theorem law_5 (l : Launch) (d : jD) (ad adK adV : Nat → Nat) (al : Nat) (Rl : (Nat → Nat) → Option Nat → (Nat → Nat → Nat → Int32) → (Nat → Nat → Int32) → Int64 → Prop) (hok : LwOk Rl) (hls : l.stackTraces = false) {X : jX} {A : Nat → Prop} {b L : Nat} {xs : Nat → Int32} (hL : L ≤ 3072) (C : jC (cEf ad adK adV al) X l d A cL_law 8 wsL_law RL room_1 (some .boolean)) (hSc : jS X A b L xs) (o ob a0 : Nat) (q : Nat → Nat) (k : Nat) (hk : 6 * k + 6 ≤ L) (nx : ∀ (a : Nat → Nat → Nat) (n : Nat → Nat) (op : Option Nat) (c : Nat → Nat → Nat → Int32) (m : Nat → Nat → Int32) (w : Int64) (g : Nat → Int64), a 0 0 = a0 → Rl n op c m w → jJ X l d A 8 (100 + 5 * (k + 1)) (20000 + 1514 * (k + 1)) (WL a d n op ad c ob g o q m w) [(0, .ref b), (1, .ref a0), (2, .ref o), (3, .ref ob), (4, .int (nI (6 * (k + 1))))] 23 []) : ∀ (a : Nat → Nat → Nat) (n : Nat → Nat) (op : Option Nat) (c : Nat → Nat → Nat → Int32) (m : Nat → Nat → Int32) (w : Int64) (g : Nat → Int64), a 0 0 = a0 → Rl n op c m w → jJ X l d A 8 (100 + 5 * k) (20000 + 1514 * k) (WL a d n op ad c ob g o q m w) [(0, .ref b), (1, .ref a0), (2, .ref o), (3, .ref ob), (4, .int (nI (6 * k)))] 277 [] := by
  intro a n op c m w g ha0 hRl
  obtain ⟨hn, ⟨rd, tp, hI, hT, hR9⟩, hs1, hs2⟩ := hok.st _ _ _ _ _ hRl
  obtain ⟨hI1, hI2, hI3, hI4, hI5, hI6, hI7, hrd, hTm, htp⟩ := id hI
  subst ha0
  have hz := hok.work _ _ _ _ _ rd (xs (6 * k + 1)) (xs (6 * k + 2)) hRl hR9 hrd
  refine j_aload_n C 1 dL_law_277 rfl rfl ?_
  refine j_aload_n C 0 dL_law_278 rfl rfl ?_
  refine j_iload C 4 dL_law_279 rfl ?_
  refine j_iconst C 1 dL_law_281 (by decide) ?_
  refine j_iaddN C (6 * k) 1 dL_law_282 ?_
  refine j_sld C hSc (6 * k + 1) rfl (by omega) (by omega) dL_law_283 ?_
  refine j_aload_n C 0 dL_law_284 rfl rfl ?_
  refine j_iload C 4 dL_law_285 rfl ?_
  refine j_iconst C 2 dL_law_287 (by decide) ?_
  refine j_iaddN C (6 * k) 2 dL_law_288 ?_
  refine j_sld C hSc (6 * k + 2) rfl (by omega) (by omega) dL_law_289 ?_
  refine l_x9 C 2 (cc_X9_work l d ad adK adV al a n op c hn (xs (6 * k + 1)) (xs (6 * k + 2)) rd (by omega) hR9) gL_law_X9_work rfl rfl rfl (by decide +kernel) ⟨(Nat.le_of_ble_eq_true rfl), (Nat.le_of_ble_eq_true rfl)⟩ ⟨by show _ ≤ 601024; omega, by show _ ≤ 7293034; omega⟩ rfl rfl (Nat.le_of_ble_eq_true rfl) dL_law_290 (fun r290 u290 h290 => ?_)
  obtain ⟨a2, ha2, rfl, rfl⟩ := h290
  refine j_aload_n C 2 dL_law_293 rfl rfl ?_
  refine j_aload_n C 0 dL_law_294 rfl rfl ?_
  refine j_iload C 4 dL_law_295 rfl ?_
  refine j_iconst C 1 dL_law_297 (by decide) ?_
  refine j_iaddN C (6 * k) 1 dL_law_298 ?_
  refine j_sld C hSc (6 * k + 1) rfl (by omega) (by omega) dL_law_299 ?_
  refine j_aload_n C 0 dL_law_300 rfl rfl ?_
  refine j_iload C 4 dL_law_301 rfl ?_
  refine j_iconst C 2 dL_law_303 (by decide) ?_
  refine j_iaddN C (6 * k) 2 dL_law_304 ?_
  refine j_sld C hSc (6 * k + 2) rfl (by omega) (by omega) dL_law_305 ?_
  refine l_x10 C 2 (cm_work l d o q m w (xs (6 * k + 1)) (xs (6 * k + 2)) (n 0) (n 1) (n 2) rd tp hI) gL_law_X10_work rfl rfl rfl (by decide +kernel) ⟨(Nat.le_of_ble_eq_true rfl), (Nat.le_of_ble_eq_true rfl)⟩ ⟨by show _ ≤ 601024; omega, by show _ ≤ 7293034; omega⟩ rfl rfl (Nat.le_of_ble_eq_true rfl) dL_law_306 (fun r306 u306 h306 => ?_)
  obtain ⟨rfl, rfl⟩ := h306
  refine j_icmp_eq C 819 dL_law_309 (by decide) (fun c309 => ?_) (fun c309 => absurd hz.1 c309)
  refine j_lv (lv' := [(0, .ref b), (1, .ref (a 0 0)), (2, .ref o), (3, .ref ob), (4, .int (nI (6 * k)))]) [0, 1, 2, 3, 4] rfl ?_
  refine j_widen (k1 := 100 + 5 * (k + 1)) (n1 := 20000 + 1514 * (k + 1)) (by omega) (by omega) ?_
  refine j_iinc C (nI (6 * (k + 1))) [(0, .ref b), (1, .ref (a 0 0)), (2, .ref o), (3, .ref ob), (4, .int (nI (6 * (k + 1))))] 4 [1, 2, 3, 4, 0] dL_law_819 rfl (nI_6 k) (by decide) rfl ?_
  refine j_goto C 23 dL_law_822 (by decide) ?_
  exact nx a2 ((zWork n c rd (xs (6 * k + 1)) (xs (6 * k + 2))).2.1) op ((zWork n c rd (xs (6 * k + 1)) (xs (6 * k + 2))).2.2) ((sWork m (xs (6 * k + 1)) (xs (6 * k + 2)) (n 0) rd).2) w g ha2 hz.2

set_option maxHeartbeats 4000000 in
set_option maxRecDepth 100000 in
theorem law_6 (l : Launch) (d : jD) (ad adK adV : Nat → Nat) (al : Nat) (Rl : (Nat → Nat) → Option Nat → (Nat → Nat → Nat → Int32) → (Nat → Nat → Int32) → Int64 → Prop) (hok : LwOk Rl) (hls : l.stackTraces = false) {X : jX} {A : Nat → Prop} {b L : Nat} {xs : Nat → Int32} (hL : L ≤ 3072) (C : jC (cEf ad adK adV al) X l d A cL_law 8 wsL_law RL room_1 (some .boolean)) (hSc : jS X A b L xs) (o ob a0 : Nat) (q : Nat → Nat) (k : Nat) (hk : 6 * k + 6 ≤ L) (nx : ∀ (a : Nat → Nat → Nat) (n : Nat → Nat) (op : Option Nat) (c : Nat → Nat → Nat → Int32) (m : Nat → Nat → Int32) (w : Int64) (g : Nat → Int64), a 0 0 = a0 → Rl n op c m w → jJ X l d A 8 (100 + 5 * (k + 1)) (20000 + 1514 * (k + 1)) (WL a d n op ad c ob g o q m w) [(0, .ref b), (1, .ref a0), (2, .ref o), (3, .ref ob), (4, .int (nI (6 * (k + 1))))] 23 []) : ∀ (a : Nat → Nat → Nat) (n : Nat → Nat) (op : Option Nat) (c : Nat → Nat → Nat → Int32) (m : Nat → Nat → Int32) (w : Int64) (g : Nat → Int64), a 0 0 = a0 → Rl n op c m w → jJ X l d A 8 (100 + 5 * k) (20000 + 1514 * k) (WL a d n op ad c ob g o q m w) [(0, .ref b), (1, .ref a0), (2, .ref o), (3, .ref ob), (4, .int (nI (6 * k)))] 314 [] := by
  intro a n op c m w g ha0 hRl
  obtain ⟨hn, ⟨rd, tp, hI, hT, hR9⟩, hs1, hs2⟩ := hok.st _ _ _ _ _ hRl
  obtain ⟨hI1, hI2, hI3, hI4, hI5, hI6, hI7, hrd, hTm, htp⟩ := id hI
  subst ha0
  have hz := hok.person _ _ _ _ _ (xs (6 * k + 1)) hRl
  refine j_aload_n C 1 dL_law_314 rfl rfl ?_
  refine j_aload_n C 0 dL_law_315 rfl rfl ?_
  refine j_iload C 4 dL_law_316 rfl ?_
  refine j_iconst C 1 dL_law_318 (by decide) ?_
  refine j_iaddN C (6 * k) 1 dL_law_319 ?_
  refine j_sld C hSc (6 * k + 1) rfl (by omega) (by omega) dL_law_320 ?_
  refine l_x9 C 1 (cc_X9_person l d ad adK adV al a n op c hn (xs (6 * k + 1))) gL_law_X9_person rfl rfl rfl (by decide +kernel) ⟨(Nat.le_of_ble_eq_true rfl), (Nat.le_of_ble_eq_true rfl)⟩ ⟨by show _ ≤ 601024; omega, by show _ ≤ 7293034; omega⟩ rfl rfl (Nat.le_of_ble_eq_true rfl) dL_law_321 (fun r321 u321 h321 => ?_)
  obtain ⟨a2, ha2, rfl, rfl⟩ := h321
  refine j_aload_n C 2 dL_law_324 rfl rfl ?_
  refine j_aload_n C 0 dL_law_325 rfl rfl ?_
  refine j_iload C 4 dL_law_326 rfl ?_
  refine j_iconst C 1 dL_law_328 (by decide) ?_
  refine j_iaddN C (6 * k) 1 dL_law_329 ?_
  refine j_sld C hSc (6 * k + 1) rfl (by omega) (by omega) dL_law_330 ?_
  refine l_x10 C 1 (cm_person l d o q m w (xs (6 * k + 1)) (n 0) (n 1) (n 2) rd tp hI) gL_law_X10_person rfl rfl rfl (by decide +kernel) ⟨(Nat.le_of_ble_eq_true rfl), (Nat.le_of_ble_eq_true rfl)⟩ ⟨by show _ ≤ 601024; omega, by show _ ≤ 7293034; omega⟩ rfl rfl (Nat.le_of_ble_eq_true rfl) dL_law_331 (fun r331 u331 h331 => ?_)
  obtain ⟨rfl, rfl⟩ := h331
  refine j_icmp_eq C 819 dL_law_334 (by decide) (fun c334 => ?_) (fun c334 => absurd hz.1 c334)
  refine j_lv (lv' := [(0, .ref b), (1, .ref (a 0 0)), (2, .ref o), (3, .ref ob), (4, .int (nI (6 * k)))]) [0, 1, 2, 3, 4] rfl ?_
  refine j_widen (k1 := 100 + 5 * (k + 1)) (n1 := 20000 + 1514 * (k + 1)) (by omega) (by omega) ?_
  refine j_iinc C (nI (6 * (k + 1))) [(0, .ref b), (1, .ref (a 0 0)), (2, .ref o), (3, .ref ob), (4, .int (nI (6 * (k + 1))))] 4 [1, 2, 3, 4, 0] dL_law_819 rfl (nI_6 k) (by decide) rfl ?_
  refine j_goto C 23 dL_law_822 (by decide) ?_
  exact nx a2 ((zPerson n c (xs (6 * k + 1))).2.1) op ((zPerson n c (xs (6 * k + 1))).2.2) ((sPerson m (xs (6 * k + 1)) (n 1)).2) w g ha2 hz.2

set_option maxHeartbeats 4000000 in
set_option maxRecDepth 100000 in
theorem law_7 (l : Launch) (d : jD) (ad adK adV : Nat → Nat) (al : Nat) (Rl : (Nat → Nat) → Option Nat → (Nat → Nat → Nat → Int32) → (Nat → Nat → Int32) → Int64 → Prop) (hok : LwOk Rl) (hls : l.stackTraces = false) {X : jX} {A : Nat → Prop} {b L : Nat} {xs : Nat → Int32} (hL : L ≤ 3072) (C : jC (cEf ad adK adV al) X l d A cL_law 8 wsL_law RL room_1 (some .boolean)) (hSc : jS X A b L xs) (o ob a0 : Nat) (q : Nat → Nat) (k : Nat) (hk : 6 * k + 6 ≤ L) (nx : ∀ (a : Nat → Nat → Nat) (n : Nat → Nat) (op : Option Nat) (c : Nat → Nat → Nat → Int32) (m : Nat → Nat → Int32) (w : Int64) (g : Nat → Int64), a 0 0 = a0 → Rl n op c m w → jJ X l d A 8 (100 + 5 * (k + 1)) (20000 + 1514 * (k + 1)) (WL a d n op ad c ob g o q m w) [(0, .ref b), (1, .ref a0), (2, .ref o), (3, .ref ob), (4, .int (nI (6 * (k + 1))))] 23 []) : ∀ (a : Nat → Nat → Nat) (n : Nat → Nat) (op : Option Nat) (c : Nat → Nat → Nat → Int32) (m : Nat → Nat → Int32) (w : Int64) (g : Nat → Int64), a 0 0 = a0 → Rl n op c m w → jJ X l d A 8 (100 + 5 * k) (20000 + 1514 * k) (WL a d n op ad c ob g o q m w) [(0, .ref b), (1, .ref a0), (2, .ref o), (3, .ref ob), (4, .int (nI (6 * k)))] 339 [] := by
  intro a n op c m w g ha0 hRl
  obtain ⟨hn, ⟨rd, tp, hI, hT, hR9⟩, hs1, hs2⟩ := hok.st _ _ _ _ _ hRl
  obtain ⟨hI1, hI2, hI3, hI4, hI5, hI6, hI7, hrd, hTm, htp⟩ := id hI
  subst ha0
  have hz := hok.fund _ _ _ _ _ (xs (6 * k + 1)) hRl
  refine j_aload_n C 1 dL_law_339 rfl rfl ?_
  refine j_aload_n C 0 dL_law_340 rfl rfl ?_
  refine j_iload C 4 dL_law_341 rfl ?_
  refine j_iconst C 1 dL_law_343 (by decide) ?_
  refine j_iaddN C (6 * k) 1 dL_law_344 ?_
  refine j_sld C hSc (6 * k + 1) rfl (by omega) (by omega) dL_law_345 ?_
  refine l_x9 C 1 (cc_X9_fund l d ad adK adV al a n op c hn (xs (6 * k + 1))) gL_law_X9_fund rfl rfl rfl (by decide +kernel) ⟨(Nat.le_of_ble_eq_true rfl), (Nat.le_of_ble_eq_true rfl)⟩ ⟨by show _ ≤ 601024; omega, by show _ ≤ 7293034; omega⟩ rfl rfl (Nat.le_of_ble_eq_true rfl) dL_law_346 (fun r346 u346 h346 => ?_)
  obtain ⟨a2, ha2, rfl, rfl⟩ := h346
  refine j_aload_n C 2 dL_law_349 rfl rfl ?_
  refine j_aload_n C 0 dL_law_350 rfl rfl ?_
  refine j_iload C 4 dL_law_351 rfl ?_
  refine j_iconst C 1 dL_law_353 (by decide) ?_
  refine j_iaddN C (6 * k) 1 dL_law_354 ?_
  refine j_sld C hSc (6 * k + 1) rfl (by omega) (by omega) dL_law_355 ?_
  refine l_x10 C 1 (cm_fund l d o q m w (xs (6 * k + 1)) (n 0) (n 1) (n 2) rd tp hI) gL_law_X10_fund rfl rfl rfl (by decide +kernel) ⟨(Nat.le_of_ble_eq_true rfl), (Nat.le_of_ble_eq_true rfl)⟩ ⟨by show _ ≤ 601024; omega, by show _ ≤ 7293034; omega⟩ rfl rfl (Nat.le_of_ble_eq_true rfl) dL_law_356 (fun r356 u356 h356 => ?_)
  obtain ⟨rfl, rfl⟩ := h356
  refine j_icmp_eq C 819 dL_law_359 (by decide) (fun c359 => ?_) (fun c359 => absurd hz.1 c359)
  refine j_lv (lv' := [(0, .ref b), (1, .ref (a 0 0)), (2, .ref o), (3, .ref ob), (4, .int (nI (6 * k)))]) [0, 1, 2, 3, 4] rfl ?_
  refine j_widen (k1 := 100 + 5 * (k + 1)) (n1 := 20000 + 1514 * (k + 1)) (by omega) (by omega) ?_
  refine j_iinc C (nI (6 * (k + 1))) [(0, .ref b), (1, .ref (a 0 0)), (2, .ref o), (3, .ref ob), (4, .int (nI (6 * (k + 1))))] 4 [1, 2, 3, 4, 0] dL_law_819 rfl (nI_6 k) (by decide) rfl ?_
  refine j_goto C 23 dL_law_822 (by decide) ?_
  exact nx a2 ((zFund n c (xs (6 * k + 1))).2.1) op ((zFund n c (xs (6 * k + 1))).2.2) ((sFund m (xs (6 * k + 1)) (n 2)).2) w g ha2 hz.2

set_option maxHeartbeats 4000000 in
set_option maxRecDepth 100000 in
theorem law_8 (l : Launch) (d : jD) (ad adK adV : Nat → Nat) (al : Nat) (Rl : (Nat → Nat) → Option Nat → (Nat → Nat → Nat → Int32) → (Nat → Nat → Int32) → Int64 → Prop) (hok : LwOk Rl) (hls : l.stackTraces = false) {X : jX} {A : Nat → Prop} {b L : Nat} {xs : Nat → Int32} (hL : L ≤ 3072) (C : jC (cEf ad adK adV al) X l d A cL_law 8 wsL_law RL room_1 (some .boolean)) (hSc : jS X A b L xs) (o ob a0 : Nat) (q : Nat → Nat) (k : Nat) (hk : 6 * k + 6 ≤ L) (nx : ∀ (a : Nat → Nat → Nat) (n : Nat → Nat) (op : Option Nat) (c : Nat → Nat → Nat → Int32) (m : Nat → Nat → Int32) (w : Int64) (g : Nat → Int64), a 0 0 = a0 → Rl n op c m w → jJ X l d A 8 (100 + 5 * (k + 1)) (20000 + 1514 * (k + 1)) (WL a d n op ad c ob g o q m w) [(0, .ref b), (1, .ref a0), (2, .ref o), (3, .ref ob), (4, .int (nI (6 * (k + 1))))] 23 []) : ∀ (a : Nat → Nat → Nat) (n : Nat → Nat) (op : Option Nat) (c : Nat → Nat → Nat → Int32) (m : Nat → Nat → Int32) (w : Int64) (g : Nat → Int64), a 0 0 = a0 → Rl n op c m w → jJ X l d A 8 (100 + 5 * k) (20000 + 1514 * k) (WL a d n op ad c ob g o q m w) [(0, .ref b), (1, .ref a0), (2, .ref o), (3, .ref ob), (4, .int (nI (6 * k)))] 364 [] := by
  intro a n op c m w g ha0 hRl
  obtain ⟨hn, ⟨rd, tp, hI, hT, hR9⟩, hs1, hs2⟩ := hok.st _ _ _ _ _ hRl
  obtain ⟨hI1, hI2, hI3, hI4, hI5, hI6, hI7, hrd, hTm, htp⟩ := id hI
  subst ha0
  have hz := hok.give _ _ _ _ _ (xs (6 * k + 1)) (xs (6 * k + 2)) (xs (6 * k + 3)) hRl
  refine j_aload_n C 1 dL_law_364 rfl rfl ?_
  refine j_aload_n C 0 dL_law_365 rfl rfl ?_
  refine j_iload C 4 dL_law_366 rfl ?_
  refine j_iconst C 1 dL_law_368 (by decide) ?_
  refine j_iaddN C (6 * k) 1 dL_law_369 ?_
  refine j_sld C hSc (6 * k + 1) rfl (by omega) (by omega) dL_law_370 ?_
  refine j_aload_n C 0 dL_law_371 rfl rfl ?_
  refine j_iload C 4 dL_law_372 rfl ?_
  refine j_iconst C 2 dL_law_374 (by decide) ?_
  refine j_iaddN C (6 * k) 2 dL_law_375 ?_
  refine j_sld C hSc (6 * k + 2) rfl (by omega) (by omega) dL_law_376 ?_
  refine j_aload_n C 0 dL_law_377 rfl rfl ?_
  refine j_iload C 4 dL_law_378 rfl ?_
  refine j_iconst C 3 dL_law_380 (by decide) ?_
  refine j_iaddN C (6 * k) 3 dL_law_381 ?_
  refine j_sld C hSc (6 * k + 3) rfl (by omega) (by omega) dL_law_382 ?_
  refine l_x9 C 3 (cc_X9_give l d ad adK adV al a n op c hn (xs (6 * k + 1)) (xs (6 * k + 2)) (xs (6 * k + 3))) gL_law_X9_give rfl rfl rfl (by decide +kernel) ⟨(Nat.le_of_ble_eq_true rfl), (Nat.le_of_ble_eq_true rfl)⟩ ⟨by show _ ≤ 601024; omega, by show _ ≤ 7293034; omega⟩ rfl rfl (Nat.le_of_ble_eq_true rfl) dL_law_383 (fun r383 u383 h383 => ?_)
  obtain ⟨rfl, rfl⟩ := h383
  refine j_aload_n C 2 dL_law_386 rfl rfl ?_
  refine j_aload_n C 0 dL_law_387 rfl rfl ?_
  refine j_iload C 4 dL_law_388 rfl ?_
  refine j_iconst C 1 dL_law_390 (by decide) ?_
  refine j_iaddN C (6 * k) 1 dL_law_391 ?_
  refine j_sld C hSc (6 * k + 1) rfl (by omega) (by omega) dL_law_392 ?_
  refine j_aload_n C 0 dL_law_393 rfl rfl ?_
  refine j_iload C 4 dL_law_394 rfl ?_
  refine j_iconst C 2 dL_law_396 (by decide) ?_
  refine j_iaddN C (6 * k) 2 dL_law_397 ?_
  refine j_sld C hSc (6 * k + 2) rfl (by omega) (by omega) dL_law_398 ?_
  refine j_aload_n C 0 dL_law_399 rfl rfl ?_
  refine j_iload C 4 dL_law_400 rfl ?_
  refine j_iconst C 3 dL_law_402 (by decide) ?_
  refine j_iaddN C (6 * k) 3 dL_law_403 ?_
  refine j_sld C hSc (6 * k + 3) rfl (by omega) (by omega) dL_law_404 ?_
  refine l_x10 C 3 (cm_give l d o q m w (xs (6 * k + 1)) (xs (6 * k + 2)) (xs (6 * k + 3)) (n 0) (n 1) (n 2) rd tp hI) gL_law_X10_give rfl rfl rfl (by decide +kernel) ⟨(Nat.le_of_ble_eq_true rfl), (Nat.le_of_ble_eq_true rfl)⟩ ⟨by show _ ≤ 601024; omega, by show _ ≤ 7293034; omega⟩ rfl rfl (Nat.le_of_ble_eq_true rfl) dL_law_405 (fun r405 u405 h405 => ?_)
  obtain ⟨rfl, rfl⟩ := h405
  refine j_icmp_eq C 819 dL_law_408 (by decide) (fun c408 => ?_) (fun c408 => absurd hz.1 c408)
  refine j_lv (lv' := [(0, .ref b), (1, .ref (a 0 0)), (2, .ref o), (3, .ref ob), (4, .int (nI (6 * k)))]) [0, 1, 2, 3, 4] rfl ?_
  refine j_widen (k1 := 100 + 5 * (k + 1)) (n1 := 20000 + 1514 * (k + 1)) (by omega) (by omega) ?_
  refine j_iinc C (nI (6 * (k + 1))) [(0, .ref b), (1, .ref (a 0 0)), (2, .ref o), (3, .ref ob), (4, .int (nI (6 * (k + 1))))] 4 [1, 2, 3, 4, 0] dL_law_819 rfl (nI_6 k) (by decide) rfl ?_
  refine j_goto C 23 dL_law_822 (by decide) ?_
  exact nx a n op ((zGive n c (xs (6 * k + 1)) (xs (6 * k + 2)) (xs (6 * k + 3))).2) ((sGive m (xs (6 * k + 1)) (xs (6 * k + 2)) (xs (6 * k + 3)) (n 0)).2) w g rfl hz.2

set_option maxHeartbeats 4000000 in
set_option maxRecDepth 100000 in
theorem law_9 (l : Launch) (d : jD) (ad adK adV : Nat → Nat) (al : Nat) (Rl : (Nat → Nat) → Option Nat → (Nat → Nat → Nat → Int32) → (Nat → Nat → Int32) → Int64 → Prop) (hok : LwOk Rl) (hls : l.stackTraces = false) {X : jX} {A : Nat → Prop} {b L : Nat} {xs : Nat → Int32} (hL : L ≤ 3072) (C : jC (cEf ad adK adV al) X l d A cL_law 8 wsL_law RL room_1 (some .boolean)) (hSc : jS X A b L xs) (o ob a0 : Nat) (q : Nat → Nat) (k : Nat) (hk : 6 * k + 6 ≤ L) (nx : ∀ (a : Nat → Nat → Nat) (n : Nat → Nat) (op : Option Nat) (c : Nat → Nat → Nat → Int32) (m : Nat → Nat → Int32) (w : Int64) (g : Nat → Int64), a 0 0 = a0 → Rl n op c m w → jJ X l d A 8 (100 + 5 * (k + 1)) (20000 + 1514 * (k + 1)) (WL a d n op ad c ob g o q m w) [(0, .ref b), (1, .ref a0), (2, .ref o), (3, .ref ob), (4, .int (nI (6 * (k + 1))))] 23 []) : ∀ (a : Nat → Nat → Nat) (n : Nat → Nat) (op : Option Nat) (c : Nat → Nat → Nat → Int32) (m : Nat → Nat → Int32) (w : Int64) (g : Nat → Int64), a 0 0 = a0 → Rl n op c m w → jJ X l d A 8 (100 + 5 * k) (20000 + 1514 * k) (WL a d n op ad c ob g o q m w) [(0, .ref b), (1, .ref a0), (2, .ref o), (3, .ref ob), (4, .int (nI (6 * k)))] 413 [] := by
  intro a n op c m w g ha0 hRl
  obtain ⟨hn, ⟨rd, tp, hI, hT, hR9⟩, hs1, hs2⟩ := hok.st _ _ _ _ _ hRl
  obtain ⟨hI1, hI2, hI3, hI4, hI5, hI6, hI7, hrd, hTm, htp⟩ := id hI
  subst ha0
  have hz := hok.bid _ _ _ _ _ (xs (6 * k + 1)) (xs (6 * k + 2)) (xs (6 * k + 3)) hRl
  refine j_aload_n C 1 dL_law_413 rfl rfl ?_
  refine j_aload_n C 0 dL_law_414 rfl rfl ?_
  refine j_iload C 4 dL_law_415 rfl ?_
  refine j_iconst C 1 dL_law_417 (by decide) ?_
  refine j_iaddN C (6 * k) 1 dL_law_418 ?_
  refine j_sld C hSc (6 * k + 1) rfl (by omega) (by omega) dL_law_419 ?_
  refine j_aload_n C 0 dL_law_420 rfl rfl ?_
  refine j_iload C 4 dL_law_421 rfl ?_
  refine j_iconst C 2 dL_law_423 (by decide) ?_
  refine j_iaddN C (6 * k) 2 dL_law_424 ?_
  refine j_sld C hSc (6 * k + 2) rfl (by omega) (by omega) dL_law_425 ?_
  refine j_aload_n C 0 dL_law_426 rfl rfl ?_
  refine j_iload C 4 dL_law_427 rfl ?_
  refine j_iconst C 3 dL_law_429 (by decide) ?_
  refine j_iaddN C (6 * k) 3 dL_law_430 ?_
  refine j_sld C hSc (6 * k + 3) rfl (by omega) (by omega) dL_law_431 ?_
  refine l_x9 C 3 (cc_X9_bid l d ad adK adV al a n op c hn (xs (6 * k + 1)) (xs (6 * k + 2)) (xs (6 * k + 3))) gL_law_X9_bid rfl rfl rfl (by decide +kernel) ⟨(Nat.le_of_ble_eq_true rfl), (Nat.le_of_ble_eq_true rfl)⟩ ⟨by show _ ≤ 601024; omega, by show _ ≤ 7293034; omega⟩ rfl rfl (Nat.le_of_ble_eq_true rfl) dL_law_432 (fun r432 u432 h432 => ?_)
  obtain ⟨rfl, rfl⟩ := h432
  refine j_aload_n C 2 dL_law_435 rfl rfl ?_
  refine j_aload_n C 0 dL_law_436 rfl rfl ?_
  refine j_iload C 4 dL_law_437 rfl ?_
  refine j_iconst C 1 dL_law_439 (by decide) ?_
  refine j_iaddN C (6 * k) 1 dL_law_440 ?_
  refine j_sld C hSc (6 * k + 1) rfl (by omega) (by omega) dL_law_441 ?_
  refine j_aload_n C 0 dL_law_442 rfl rfl ?_
  refine j_iload C 4 dL_law_443 rfl ?_
  refine j_iconst C 2 dL_law_445 (by decide) ?_
  refine j_iaddN C (6 * k) 2 dL_law_446 ?_
  refine j_sld C hSc (6 * k + 2) rfl (by omega) (by omega) dL_law_447 ?_
  refine j_aload_n C 0 dL_law_448 rfl rfl ?_
  refine j_iload C 4 dL_law_449 rfl ?_
  refine j_iconst C 3 dL_law_451 (by decide) ?_
  refine j_iaddN C (6 * k) 3 dL_law_452 ?_
  refine j_sld C hSc (6 * k + 3) rfl (by omega) (by omega) dL_law_453 ?_
  refine l_x10 C 3 (cm_bid l d o q m w (xs (6 * k + 1)) (xs (6 * k + 2)) (xs (6 * k + 3)) (n 0) (n 1) (n 2) rd tp hI) gL_law_X10_bid rfl rfl rfl (by decide +kernel) ⟨(Nat.le_of_ble_eq_true rfl), (Nat.le_of_ble_eq_true rfl)⟩ ⟨by show _ ≤ 601024; omega, by show _ ≤ 7293034; omega⟩ rfl rfl (Nat.le_of_ble_eq_true rfl) dL_law_454 (fun r454 u454 h454 => ?_)
  obtain ⟨rfl, rfl⟩ := h454
  refine j_icmp_eq C 819 dL_law_457 (by decide) (fun c457 => ?_) (fun c457 => absurd hz.1 c457)
  refine j_lv (lv' := [(0, .ref b), (1, .ref (a 0 0)), (2, .ref o), (3, .ref ob), (4, .int (nI (6 * k)))]) [0, 1, 2, 3, 4] rfl ?_
  refine j_widen (k1 := 100 + 5 * (k + 1)) (n1 := 20000 + 1514 * (k + 1)) (by omega) (by omega) ?_
  refine j_iinc C (nI (6 * (k + 1))) [(0, .ref b), (1, .ref (a 0 0)), (2, .ref o), (3, .ref ob), (4, .int (nI (6 * (k + 1))))] 4 [1, 2, 3, 4, 0] dL_law_819 rfl (nI_6 k) (by decide) rfl ?_
  refine j_goto C 23 dL_law_822 (by decide) ?_
  exact nx a n op ((zBid n c (xs (6 * k + 1)) (xs (6 * k + 2)) (xs (6 * k + 3))).2) ((sBid m (xs (6 * k + 1)) (xs (6 * k + 2)) (xs (6 * k + 3)) (n 0)).2) w g rfl hz.2

set_option maxHeartbeats 4000000 in
set_option maxRecDepth 100000 in
theorem law_10 (l : Launch) (d : jD) (ad adK adV : Nat → Nat) (al : Nat) (Rl : (Nat → Nat) → Option Nat → (Nat → Nat → Nat → Int32) → (Nat → Nat → Int32) → Int64 → Prop) (hok : LwOk Rl) (hls : l.stackTraces = false) {X : jX} {A : Nat → Prop} {b L : Nat} {xs : Nat → Int32} (hL : L ≤ 3072) (C : jC (cEf ad adK adV al) X l d A cL_law 8 wsL_law RL room_1 (some .boolean)) (hSc : jS X A b L xs) (o ob a0 : Nat) (q : Nat → Nat) (k : Nat) (hk : 6 * k + 6 ≤ L) (nx : ∀ (a : Nat → Nat → Nat) (n : Nat → Nat) (op : Option Nat) (c : Nat → Nat → Nat → Int32) (m : Nat → Nat → Int32) (w : Int64) (g : Nat → Int64), a 0 0 = a0 → Rl n op c m w → jJ X l d A 8 (100 + 5 * (k + 1)) (20000 + 1514 * (k + 1)) (WL a d n op ad c ob g o q m w) [(0, .ref b), (1, .ref a0), (2, .ref o), (3, .ref ob), (4, .int (nI (6 * (k + 1))))] 23 []) : ∀ (a : Nat → Nat → Nat) (n : Nat → Nat) (op : Option Nat) (c : Nat → Nat → Nat → Int32) (m : Nat → Nat → Int32) (w : Int64) (g : Nat → Int64), a 0 0 = a0 → Rl n op c m w → jJ X l d A 8 (100 + 5 * k) (20000 + 1514 * k) (WL a d n op ad c ob g o q m w) [(0, .ref b), (1, .ref a0), (2, .ref o), (3, .ref ob), (4, .int (nI (6 * k)))] 462 [] := by
  intro a n op c m w g ha0 hRl
  obtain ⟨hn, ⟨rd, tp, hI, hT, hR9⟩, hs1, hs2⟩ := hok.st _ _ _ _ _ hRl
  obtain ⟨hI1, hI2, hI3, hI4, hI5, hI6, hI7, hrd, hTm, htp⟩ := id hI
  subst ha0
  obtain ⟨O, R1, R2, hO, hR12, hz⟩ := hok.close _ _ _ _ _ rd hRl hR9 hrd
  refine j_aload_n C 1 dL_law_462 rfl rfl ?_
  refine l_x9 C 0 (cc_X9_close l d ad adK adV al a n op c hn rd hR9 hrd O hO) gL_law_X9_close rfl rfl rfl (by decide +kernel) ⟨(Nat.le_of_ble_eq_true rfl), (Nat.le_of_ble_eq_true rfl)⟩ ⟨by show _ ≤ 601024; omega, by show _ ≤ 7293034; omega⟩ rfl rfl (Nat.le_of_ble_eq_true rfl) dL_law_463 (fun r463 u463 h463 => ?_)
  obtain ⟨rfl, rfl⟩ := h463
  refine j_aload_n C 2 dL_law_466 rfl rfl ?_
  refine l_x10 C 0 (cm_close l d o q m w (n 0) (n 1) (n 2) rd tp hI R1 R2 hR12) gL_law_X10_close rfl rfl rfl (by decide +kernel) ⟨(Nat.le_of_ble_eq_true rfl), (Nat.le_of_ble_eq_true rfl)⟩ ⟨by show _ ≤ 601024; omega, by show _ ≤ 7293034; omega⟩ rfl rfl (Nat.le_of_ble_eq_true rfl) dL_law_467 (fun r467 u467 h467 => ?_)
  obtain ⟨rfl, rfl⟩ := h467
  refine j_icmp_eq C 819 dL_law_470 (by decide) (fun c470 => ?_) (fun c470 => absurd hz.1 c470)
  refine j_lv (lv' := [(0, .ref b), (1, .ref (a 0 0)), (2, .ref o), (3, .ref ob), (4, .int (nI (6 * k)))]) [0, 1, 2, 3, 4] rfl ?_
  refine j_widen (k1 := 100 + 5 * (k + 1)) (n1 := 20000 + 1514 * (k + 1)) (by omega) (by omega) ?_
  refine j_iinc C (nI (6 * (k + 1))) [(0, .ref b), (1, .ref (a 0 0)), (2, .ref o), (3, .ref ob), (4, .int (nI (6 * (k + 1))))] 4 [1, 2, 3, 4, 0] dL_law_819 rfl (nI_6 k) (by decide) rfl ?_
  refine j_goto C 23 dL_law_822 (by decide) ?_
  exact nx a n op ((zClose n c rd O).2) ((sClose m (n 0) (n 1) rd R1 R2).2) w g rfl hz.2

set_option maxHeartbeats 4000000 in
set_option maxRecDepth 100000 in
theorem law_11 (l : Launch) (d : jD) (ad adK adV : Nat → Nat) (al : Nat) (Rl : (Nat → Nat) → Option Nat → (Nat → Nat → Nat → Int32) → (Nat → Nat → Int32) → Int64 → Prop) (hok : LwOk Rl) (hls : l.stackTraces = false) {X : jX} {A : Nat → Prop} {b L : Nat} {xs : Nat → Int32} (hL : L ≤ 3072) (C : jC (cEf ad adK adV al) X l d A cL_law 8 wsL_law RL room_1 (some .boolean)) (hSc : jS X A b L xs) (o ob a0 : Nat) (q : Nat → Nat) (k : Nat) (hk : 6 * k + 6 ≤ L) (nx : ∀ (a : Nat → Nat → Nat) (n : Nat → Nat) (op : Option Nat) (c : Nat → Nat → Nat → Int32) (m : Nat → Nat → Int32) (w : Int64) (g : Nat → Int64), a 0 0 = a0 → Rl n op c m w → jJ X l d A 8 (100 + 5 * (k + 1)) (20000 + 1514 * (k + 1)) (WL a d n op ad c ob g o q m w) [(0, .ref b), (1, .ref a0), (2, .ref o), (3, .ref ob), (4, .int (nI (6 * (k + 1))))] 23 []) : ∀ (a : Nat → Nat → Nat) (n : Nat → Nat) (op : Option Nat) (c : Nat → Nat → Nat → Int32) (m : Nat → Nat → Int32) (w : Int64) (g : Nat → Int64), a 0 0 = a0 → Rl n op c m w → jJ X l d A 8 (100 + 5 * k) (20000 + 1514 * k) (WL a d n op ad c ob g o q m w) [(0, .ref b), (1, .ref a0), (2, .ref o), (3, .ref ob), (4, .int (nI (6 * k)))] 475 [] := by
  intro a n op c m w g ha0 hRl
  obtain ⟨hn, ⟨rd, tp, hI, hT, hR9⟩, hs1, hs2⟩ := hok.st _ _ _ _ _ hRl
  obtain ⟨hI1, hI2, hI3, hI4, hI5, hI6, hI7, hrd, hTm, htp⟩ := id hI
  subst ha0
  refine j_aload_n C 1 dL_law_475 rfl rfl ?_
  refine j_aload_n C 0 dL_law_476 rfl rfl ?_
  refine j_iload C 4 dL_law_477 rfl ?_
  refine j_iconst C 1 dL_law_479 (by decide) ?_
  refine j_iaddN C (6 * k) 1 dL_law_480 ?_
  refine j_sld C hSc (6 * k + 1) rfl (by omega) (by omega) dL_law_481 ?_
  refine j_aload_n C 0 dL_law_482 rfl rfl ?_
  refine j_iload C 4 dL_law_483 rfl ?_
  refine j_iconst C 2 dL_law_485 (by decide) ?_
  refine j_iaddN C (6 * k) 2 dL_law_486 ?_
  refine j_sld C hSc (6 * k + 2) rfl (by omega) (by omega) dL_law_487 ?_
  refine l_x9 C 2 (cc_X9_about l d ad adK adV al a n op c hn (xs (6 * k + 1)) (xs (6 * k + 2))) gL_law_X9_about rfl rfl rfl (by decide +kernel) ⟨(Nat.le_of_ble_eq_true rfl), (Nat.le_of_ble_eq_true rfl)⟩ ⟨by show _ ≤ 601024; omega, by show _ ≤ 7293034; omega⟩ rfl rfl (Nat.le_of_ble_eq_true rfl) dL_law_488 (fun r488 u488 h488 => ?_)
  obtain ⟨rfl, rfl⟩ := h488
  refine j_aload_n C 2 dL_law_491 rfl rfl ?_
  refine j_aload_n C 0 dL_law_492 rfl rfl ?_
  refine j_iload C 4 dL_law_493 rfl ?_
  refine j_iconst C 1 dL_law_495 (by decide) ?_
  refine j_iaddN C (6 * k) 1 dL_law_496 ?_
  refine j_sld C hSc (6 * k + 1) rfl (by omega) (by omega) dL_law_497 ?_
  refine j_aload_n C 0 dL_law_498 rfl rfl ?_
  refine j_iload C 4 dL_law_499 rfl ?_
  refine j_iconst C 2 dL_law_501 (by decide) ?_
  refine j_iaddN C (6 * k) 2 dL_law_502 ?_
  refine j_sld C hSc (6 * k + 2) rfl (by omega) (by omega) dL_law_503 ?_
  refine l_x10 C 2 (cm_about l d o q m w (xs (6 * k + 1)) (xs (6 * k + 2)) (n 0) (n 1) (n 2) rd tp hI) gL_law_X10_about rfl rfl rfl (by decide +kernel) ⟨(Nat.le_of_ble_eq_true rfl), (Nat.le_of_ble_eq_true rfl)⟩ ⟨by show _ ≤ 601024; omega, by show _ ≤ 7293034; omega⟩ rfl rfl (Nat.le_of_ble_eq_true rfl) dL_law_504 (fun r504 u504 h504 => ?_)
  obtain ⟨rfl, rfl⟩ := h504
  refine j_icmp_eq C 819 dL_law_507 (by decide) (fun c507 => ?_) (fun c507 => absurd (hok.about _ _ _ _ _ _ _ hRl) c507)
  refine j_lv (lv' := [(0, .ref b), (1, .ref (a 0 0)), (2, .ref o), (3, .ref ob), (4, .int (nI (6 * k)))]) [0, 1, 2, 3, 4] rfl ?_
  refine j_widen (k1 := 100 + 5 * (k + 1)) (n1 := 20000 + 1514 * (k + 1)) (by omega) (by omega) ?_
  refine j_iinc C (nI (6 * (k + 1))) [(0, .ref b), (1, .ref (a 0 0)), (2, .ref o), (3, .ref ob), (4, .int (nI (6 * (k + 1))))] 4 [1, 2, 3, 4, 0] dL_law_819 rfl (nI_6 k) (by decide) rfl ?_
  refine j_goto C 23 dL_law_822 (by decide) ?_
  exact nx a n op c (mu m 0 0 0) w g rfl (hok.thr _ _ _ _ _ _ hRl)

set_option maxHeartbeats 4000000 in
set_option maxRecDepth 100000 in
theorem law_12 (l : Launch) (d : jD) (ad adK adV : Nat → Nat) (al : Nat) (Rl : (Nat → Nat) → Option Nat → (Nat → Nat → Nat → Int32) → (Nat → Nat → Int32) → Int64 → Prop) (hok : LwOk Rl) (hls : l.stackTraces = false) {X : jX} {A : Nat → Prop} {b L : Nat} {xs : Nat → Int32} (hL : L ≤ 3072) (C : jC (cEf ad adK adV al) X l d A cL_law 8 wsL_law RL room_1 (some .boolean)) (hSc : jS X A b L xs) (o ob a0 : Nat) (q : Nat → Nat) (k : Nat) (hk : 6 * k + 6 ≤ L) (nx : ∀ (a : Nat → Nat → Nat) (n : Nat → Nat) (op : Option Nat) (c : Nat → Nat → Nat → Int32) (m : Nat → Nat → Int32) (w : Int64) (g : Nat → Int64), a 0 0 = a0 → Rl n op c m w → jJ X l d A 8 (100 + 5 * (k + 1)) (20000 + 1514 * (k + 1)) (WL a d n op ad c ob g o q m w) [(0, .ref b), (1, .ref a0), (2, .ref o), (3, .ref ob), (4, .int (nI (6 * (k + 1))))] 23 []) : ∀ (a : Nat → Nat → Nat) (n : Nat → Nat) (op : Option Nat) (c : Nat → Nat → Nat → Int32) (m : Nat → Nat → Int32) (w : Int64) (g : Nat → Int64), a 0 0 = a0 → Rl n op c m w → jJ X l d A 8 (100 + 5 * k) (20000 + 1514 * k) (WL a d n op ad c ob g o q m w) [(0, .ref b), (1, .ref a0), (2, .ref o), (3, .ref ob), (4, .int (nI (6 * k)))] 512 [] := by
  intro a n op c m w g ha0 hRl
  obtain ⟨hn, ⟨rd, tp, hI, hT, hR9⟩, hs1, hs2⟩ := hok.st _ _ _ _ _ hRl
  obtain ⟨hI1, hI2, hI3, hI4, hI5, hI6, hI7, hrd, hTm, htp⟩ := id hI
  subst ha0
  refine j_aload_n C 1 dL_law_512 rfl rfl ?_
  refine j_aload_n C 0 dL_law_513 rfl rfl ?_
  refine j_iload C 4 dL_law_514 rfl ?_
  refine j_iconst C 1 dL_law_516 (by decide) ?_
  refine j_iaddN C (6 * k) 1 dL_law_517 ?_
  refine j_sld C hSc (6 * k + 1) rfl (by omega) (by omega) dL_law_518 ?_
  refine j_aload_n C 0 dL_law_519 rfl rfl ?_
  refine j_iload C 4 dL_law_520 rfl ?_
  refine j_iconst C 2 dL_law_522 (by decide) ?_
  refine j_iaddN C (6 * k) 2 dL_law_523 ?_
  refine j_sld C hSc (6 * k + 2) rfl (by omega) (by omega) dL_law_524 ?_
  refine l_x9 C 2 (cc_X9_price l d ad adK adV al a n op c hn (xs (6 * k + 1)) (xs (6 * k + 2)) rd hR9 hrd hs2) gL_law_X9_price rfl rfl rfl (by decide +kernel) ⟨(Nat.le_of_ble_eq_true rfl), (Nat.le_of_ble_eq_true rfl)⟩ ⟨by show _ ≤ 601024; omega, by show _ ≤ 7293034; omega⟩ rfl rfl (Nat.le_of_ble_eq_true rfl) dL_law_525 (fun r525 u525 h525 => ?_)
  obtain ⟨rfl, rfl⟩ := h525
  refine j_aload_n C 2 dL_law_528 rfl rfl ?_
  refine j_aload_n C 0 dL_law_529 rfl rfl ?_
  refine j_iload C 4 dL_law_530 rfl ?_
  refine j_iconst C 1 dL_law_532 (by decide) ?_
  refine j_iaddN C (6 * k) 1 dL_law_533 ?_
  refine j_sld C hSc (6 * k + 1) rfl (by omega) (by omega) dL_law_534 ?_
  refine j_aload_n C 0 dL_law_535 rfl rfl ?_
  refine j_iload C 4 dL_law_536 rfl ?_
  refine j_iconst C 2 dL_law_538 (by decide) ?_
  refine j_iaddN C (6 * k) 2 dL_law_539 ?_
  refine j_sld C hSc (6 * k + 2) rfl (by omega) (by omega) dL_law_540 ?_
  refine l_x10 C 2 (cm_price l d o q m w (xs (6 * k + 1)) (xs (6 * k + 2)) (n 0) (n 1) (n 2) rd tp hI hs1) gL_law_X10_price rfl rfl rfl (by decide +kernel) ⟨(Nat.le_of_ble_eq_true rfl), (Nat.le_of_ble_eq_true rfl)⟩ ⟨by show _ ≤ 601024; omega, by show _ ≤ 7293034; omega⟩ rfl rfl (Nat.le_of_ble_eq_true rfl) dL_law_541 (fun r541 u541 h541 => ?_)
  obtain ⟨rfl, rfl⟩ := h541
  refine j_icmp_eq C 819 dL_law_544 (by decide) (fun c544 => ?_) (fun c544 => absurd (hok.price _ _ _ _ _ _ _ hRl) c544)
  refine j_lv (lv' := [(0, .ref b), (1, .ref (a 0 0)), (2, .ref o), (3, .ref ob), (4, .int (nI (6 * k)))]) [0, 1, 2, 3, 4] rfl ?_
  refine j_widen (k1 := 100 + 5 * (k + 1)) (n1 := 20000 + 1514 * (k + 1)) (by omega) (by omega) ?_
  refine j_iinc C (nI (6 * (k + 1))) [(0, .ref b), (1, .ref (a 0 0)), (2, .ref o), (3, .ref ob), (4, .int (nI (6 * (k + 1))))] 4 [1, 2, 3, 4, 0] dL_law_819 rfl (nI_6 k) (by decide) rfl ?_
  refine j_goto C 23 dL_law_822 (by decide) ?_
  exact nx a n op c (mu m 0 0 0) w g rfl (hok.thr _ _ _ _ _ _ hRl)

set_option maxHeartbeats 4000000 in
set_option maxRecDepth 100000 in
theorem law_13 (l : Launch) (d : jD) (ad adK adV : Nat → Nat) (al : Nat) (Rl : (Nat → Nat) → Option Nat → (Nat → Nat → Nat → Int32) → (Nat → Nat → Int32) → Int64 → Prop) (hok : LwOk Rl) (hls : l.stackTraces = false) {X : jX} {A : Nat → Prop} {b L : Nat} {xs : Nat → Int32} (hL : L ≤ 3072) (C : jC (cEf ad adK adV al) X l d A cL_law 8 wsL_law RL room_1 (some .boolean)) (hSc : jS X A b L xs) (o ob a0 : Nat) (q : Nat → Nat) (k : Nat) (hk : 6 * k + 6 ≤ L) (nx : ∀ (a : Nat → Nat → Nat) (n : Nat → Nat) (op : Option Nat) (c : Nat → Nat → Nat → Int32) (m : Nat → Nat → Int32) (w : Int64) (g : Nat → Int64), a 0 0 = a0 → Rl n op c m w → jJ X l d A 8 (100 + 5 * (k + 1)) (20000 + 1514 * (k + 1)) (WL a d n op ad c ob g o q m w) [(0, .ref b), (1, .ref a0), (2, .ref o), (3, .ref ob), (4, .int (nI (6 * (k + 1))))] 23 []) : ∀ (a : Nat → Nat → Nat) (n : Nat → Nat) (op : Option Nat) (c : Nat → Nat → Nat → Int32) (m : Nat → Nat → Int32) (w : Int64) (g : Nat → Int64), a 0 0 = a0 → Rl n op c m w → jJ X l d A 8 (100 + 5 * k) (20000 + 1514 * k) (WL a d n op ad c ob g o q m w) [(0, .ref b), (1, .ref a0), (2, .ref o), (3, .ref ob), (4, .int (nI (6 * k)))] 549 [] := by
  intro a n op c m w g ha0 hRl
  obtain ⟨hn, ⟨rd, tp, hI, hT, hR9⟩, hs1, hs2⟩ := hok.st _ _ _ _ _ hRl
  obtain ⟨hI1, hI2, hI3, hI4, hI5, hI6, hI7, hrd, hTm, htp⟩ := id hI
  subst ha0
  have hz := hok.purse _ _ _ _ _ (xs (6 * k + 1)) (xs (6 * k + 2)) hRl
  have hz1 : (sPurse m (xs (6 * k + 1)) (xs (6 * k + 2)) (n 0)).2 0 0 = (zLP n c g (xs (6 * k + 1)) (xs (6 * k + 2))).1 := lwp_1 hz.1
  have hz2 : (zLP n c g (xs (6 * k + 1)) (xs (6 * k + 2))).1 = 0 → (zLP n c g (xs (6 * k + 1)) (xs (6 * k + 2))).2 0 = (sPurse m (xs (6 * k + 1)) (xs (6 * k + 2)) (n 0)).1.toInt64 := lwp_2 hz
  have hz3 : Rl n op c (sPurse m (xs (6 * k + 1)) (xs (6 * k + 2)) (n 0)).2 w := lwp_3 hok hRl
  refine j_aload_n C 1 dL_law_549 rfl rfl ?_
  refine j_aload_n C 0 dL_law_550 rfl rfl ?_
  refine j_iload C 4 dL_law_551 rfl ?_
  refine j_iconst C 1 dL_law_553 (by decide) ?_
  refine j_iaddN C (6 * k) 1 dL_law_554 ?_
  refine j_sld C hSc (6 * k + 1) rfl (by omega) (by omega) dL_law_555 ?_
  refine j_aload_n C 0 dL_law_556 rfl rfl ?_
  refine j_iload C 4 dL_law_557 rfl ?_
  refine j_iconst C 2 dL_law_559 (by decide) ?_
  refine j_iaddN C (6 * k) 2 dL_law_560 ?_
  refine j_sld C hSc (6 * k + 2) rfl (by omega) (by omega) dL_law_561 ?_
  refine j_aload_n C 3 dL_law_562 rfl rfl ?_
  refine l_xs C 4 (cl_purse l d ad adK adV al a n op c hn ob g (xs (6 * k + 1)) (xs (6 * k + 2)) hls) gL_law_L_purse rfl rfl rfl (by decide +kernel) ⟨(Nat.le_of_ble_eq_true rfl), (Nat.le_of_ble_eq_true rfl)⟩ ⟨by show _ ≤ 601024; omega, by show _ ≤ 7293034; omega⟩ rfl rfl (Nat.le_of_ble_eq_true rfl) dL_law_563 (fun r563 u563 h563 => ?_)
  obtain ⟨rfl, rfl⟩ := h563
  refine j_istore C [(0, .ref b), (1, .ref (a 0 0)), (2, .ref o), (3, .ref ob), (4, .int (nI (6 * k))), (5, .int ((zLP n c g (xs (6 * k + 1)) (xs (6 * k + 2))).1))] [1, 2, 3, 4, 5, 0] dL_law_566 (by decide) rfl ?_
  refine j_aload_n C 2 dL_law_568 rfl rfl ?_
  refine j_aload_n C 0 dL_law_569 rfl rfl ?_
  refine j_iload C 4 dL_law_570 rfl ?_
  refine j_iconst C 1 dL_law_572 (by decide) ?_
  refine j_iaddN C (6 * k) 1 dL_law_573 ?_
  refine j_sld C hSc (6 * k + 1) rfl (by omega) (by omega) dL_law_574 ?_
  refine j_aload_n C 0 dL_law_575 rfl rfl ?_
  refine j_iload C 4 dL_law_576 rfl ?_
  refine j_iconst C 2 dL_law_578 (by decide) ?_
  refine j_iaddN C (6 * k) 2 dL_law_579 ?_
  refine j_sld C hSc (6 * k + 2) rfl (by omega) (by omega) dL_law_580 ?_
  refine l_x10 C 2 (cm_purse l d o q m w (xs (6 * k + 1)) (xs (6 * k + 2)) (n 0) (n 1) (n 2) rd tp hI) gL_law_X10_purse rfl rfl rfl (by decide +kernel) ⟨(Nat.le_of_ble_eq_true rfl), (Nat.le_of_ble_eq_true rfl)⟩ ⟨by show _ ≤ 601024; omega, by show _ ≤ 7293034; omega⟩ rfl rfl (Nat.le_of_ble_eq_true rfl) dL_law_581 (fun r581 u581 h581 => ?_)
  obtain ⟨rfl, rfl⟩ := h581
  refine j_istore C [(0, .ref b), (1, .ref (a 0 0)), (2, .ref o), (3, .ref ob), (4, .int (nI (6 * k))), (5, .int ((zLP n c g (xs (6 * k + 1)) (xs (6 * k + 2))).1)), (6, .int ((sPurse m (xs (6 * k + 1)) (xs (6 * k + 2)) (n 0)).1))] [1, 2, 3, 4, 5, 6, 0] dL_law_584 (by decide) rfl ?_
  refine j_aload_n C 2 dL_law_586 rfl rfl ?_
  refine l_x10 C 0 (cm_thrown l d o q ((sPurse m (xs (6 * k + 1)) (xs (6 * k + 2)) (n 0)).2) w) gL_law_X10_thrown rfl rfl rfl (by decide +kernel) ⟨(Nat.le_of_ble_eq_true rfl), (Nat.le_of_ble_eq_true rfl)⟩ ⟨by show _ ≤ 601024; omega, by show _ ≤ 7293034; omega⟩ rfl rfl (Nat.le_of_ble_eq_true rfl) dL_law_587 (fun r587 u587 h587 => ?_)
  obtain ⟨rfl, rfl⟩ := h587
  refine j_iload C 5 dL_law_590 rfl ?_
  refine j_icmp_eq C 597 dL_law_592 (by decide) (fun c592 => ?_) (fun c592 => absurd hz1 c592)
  refine j_iload C 5 dL_law_597 rfl ?_
  refine j_if_ne C 614 dL_law_599 (by decide) (fun c599 => ?_) (fun c599 => ?_)
  · refine j_goto C 819 dL_law_614 (by decide) ?_
    refine j_lv (lv' := [(0, .ref b), (1, .ref (a 0 0)), (2, .ref o), (3, .ref ob), (4, .int (nI (6 * k)))]) [0, 1, 2, 3, 4] rfl ?_
    refine j_widen (k1 := 100 + 5 * (k + 1)) (n1 := 20000 + 1514 * (k + 1)) (by omega) (by omega) ?_
    refine j_iinc C (nI (6 * (k + 1))) [(0, .ref b), (1, .ref (a 0 0)), (2, .ref o), (3, .ref ob), (4, .int (nI (6 * (k + 1))))] 4 [1, 2, 3, 4, 0] dL_law_819 rfl (nI_6 k) (by decide) rfl ?_
    refine j_goto C 23 dL_law_822 (by decide) ?_
    exact nx a n op c ((sPurse m (xs (6 * k + 1)) (xs (6 * k + 2)) (n 0)).2) w ((zLP n c g (xs (6 * k + 1)) (xs (6 * k + 2))).2) rfl hz3
  · refine j_aload_n C 3 dL_law_602 rfl rfl ?_
    refine j_iconst C 0 dL_law_603 (by decide) ?_
    refine j_lald C (cW a d n op ad c).length 0 lw_out rfl (by decide) (by decide) dL_law_604 ?_
    refine j_iload C 6 dL_law_605 rfl ?_
    refine j_i2l C dL_law_607 ?_
    refine j_lcmp C dL_law_608 ?_
    refine j_if_eq C 614 dL_law_609 (by decide) (fun c609 => ?_) (fun c609 => absurd (lcmpE.mpr (hz2 c599)) c609)
    refine j_goto C 819 dL_law_614 (by decide) ?_
    refine j_lv (lv' := [(0, .ref b), (1, .ref (a 0 0)), (2, .ref o), (3, .ref ob), (4, .int (nI (6 * k)))]) [0, 1, 2, 3, 4] rfl ?_
    refine j_widen (k1 := 100 + 5 * (k + 1)) (n1 := 20000 + 1514 * (k + 1)) (by omega) (by omega) ?_
    refine j_iinc C (nI (6 * (k + 1))) [(0, .ref b), (1, .ref (a 0 0)), (2, .ref o), (3, .ref ob), (4, .int (nI (6 * (k + 1))))] 4 [1, 2, 3, 4, 0] dL_law_819 rfl (nI_6 k) (by decide) rfl ?_
    refine j_goto C 23 dL_law_822 (by decide) ?_
    exact nx a n op c ((sPurse m (xs (6 * k + 1)) (xs (6 * k + 2)) (n 0)).2) w ((zLP n c g (xs (6 * k + 1)) (xs (6 * k + 2))).2) rfl hz3

set_option maxHeartbeats 4000000 in
set_option maxRecDepth 100000 in
theorem law_14 (l : Launch) (d : jD) (ad adK adV : Nat → Nat) (al : Nat) (Rl : (Nat → Nat) → Option Nat → (Nat → Nat → Nat → Int32) → (Nat → Nat → Int32) → Int64 → Prop) (hok : LwOk Rl) (hls : l.stackTraces = false) {X : jX} {A : Nat → Prop} {b L : Nat} {xs : Nat → Int32} (hL : L ≤ 3072) (C : jC (cEf ad adK adV al) X l d A cL_law 8 wsL_law RL room_1 (some .boolean)) (hSc : jS X A b L xs) (o ob a0 : Nat) (q : Nat → Nat) (k : Nat) (hk : 6 * k + 6 ≤ L) (nx : ∀ (a : Nat → Nat → Nat) (n : Nat → Nat) (op : Option Nat) (c : Nat → Nat → Nat → Int32) (m : Nat → Nat → Int32) (w : Int64) (g : Nat → Int64), a 0 0 = a0 → Rl n op c m w → jJ X l d A 8 (100 + 5 * (k + 1)) (20000 + 1514 * (k + 1)) (WL a d n op ad c ob g o q m w) [(0, .ref b), (1, .ref a0), (2, .ref o), (3, .ref ob), (4, .int (nI (6 * (k + 1))))] 23 []) : ∀ (a : Nat → Nat → Nat) (n : Nat → Nat) (op : Option Nat) (c : Nat → Nat → Nat → Int32) (m : Nat → Nat → Int32) (w : Int64) (g : Nat → Int64), a 0 0 = a0 → Rl n op c m w → jJ X l d A 8 (100 + 5 * k) (20000 + 1514 * k) (WL a d n op ad c ob g o q m w) [(0, .ref b), (1, .ref a0), (2, .ref o), (3, .ref ob), (4, .int (nI (6 * k)))] 617 [] := by
  intro a n op c m w g ha0 hRl
  obtain ⟨hn, ⟨rd, tp, hI, hT, hR9⟩, hs1, hs2⟩ := hok.st _ _ _ _ _ hRl
  obtain ⟨hI1, hI2, hI3, hI4, hI5, hI6, hI7, hrd, hTm, htp⟩ := id hI
  subst ha0
  refine j_aload_n C 1 dL_law_617 rfl rfl ?_
  refine j_aload_n C 0 dL_law_618 rfl rfl ?_
  refine j_iload C 4 dL_law_619 rfl ?_
  refine j_iconst C 1 dL_law_621 (by decide) ?_
  refine j_iaddN C (6 * k) 1 dL_law_622 ?_
  refine j_sld C hSc (6 * k + 1) rfl (by omega) (by omega) dL_law_623 ?_
  refine j_aload_n C 0 dL_law_624 rfl rfl ?_
  refine j_iload C 4 dL_law_625 rfl ?_
  refine j_iconst C 2 dL_law_627 (by decide) ?_
  refine j_iaddN C (6 * k) 2 dL_law_628 ?_
  refine j_sld C hSc (6 * k + 2) rfl (by omega) (by omega) dL_law_629 ?_
  refine j_aload_n C 0 dL_law_630 rfl rfl ?_
  refine j_iload C 4 dL_law_631 rfl ?_
  refine j_iconst C 3 dL_law_633 (by decide) ?_
  refine j_iaddN C (6 * k) 3 dL_law_634 ?_
  refine j_sld C hSc (6 * k + 3) rfl (by omega) (by omega) dL_law_635 ?_
  refine l_x9 C 3 (cc_X9_holds l d ad adK adV al a n op c hn (xs (6 * k + 1)) (xs (6 * k + 2)) (xs (6 * k + 3)) rd hR9 hrd) gL_law_X9_holds rfl rfl rfl (by decide +kernel) ⟨(Nat.le_of_ble_eq_true rfl), (Nat.le_of_ble_eq_true rfl)⟩ ⟨by show _ ≤ 601024; omega, by show _ ≤ 7293034; omega⟩ rfl rfl (Nat.le_of_ble_eq_true rfl) dL_law_636 (fun r636 u636 h636 => ?_)
  obtain ⟨rfl, rfl⟩ := h636
  refine j_aload_n C 2 dL_law_639 rfl rfl ?_
  refine j_aload_n C 0 dL_law_640 rfl rfl ?_
  refine j_iload C 4 dL_law_641 rfl ?_
  refine j_iconst C 1 dL_law_643 (by decide) ?_
  refine j_iaddN C (6 * k) 1 dL_law_644 ?_
  refine j_sld C hSc (6 * k + 1) rfl (by omega) (by omega) dL_law_645 ?_
  refine j_aload_n C 0 dL_law_646 rfl rfl ?_
  refine j_iload C 4 dL_law_647 rfl ?_
  refine j_iconst C 2 dL_law_649 (by decide) ?_
  refine j_iaddN C (6 * k) 2 dL_law_650 ?_
  refine j_sld C hSc (6 * k + 2) rfl (by omega) (by omega) dL_law_651 ?_
  refine j_aload_n C 0 dL_law_652 rfl rfl ?_
  refine j_iload C 4 dL_law_653 rfl ?_
  refine j_iconst C 3 dL_law_655 (by decide) ?_
  refine j_iaddN C (6 * k) 3 dL_law_656 ?_
  refine j_sld C hSc (6 * k + 3) rfl (by omega) (by omega) dL_law_657 ?_
  refine l_x10 C 3 (cm_holds l d o q m w (xs (6 * k + 1)) (xs (6 * k + 2)) (xs (6 * k + 3)) (n 0) (n 1) (n 2) rd tp hI) gL_law_X10_holds rfl rfl rfl (by decide +kernel) ⟨(Nat.le_of_ble_eq_true rfl), (Nat.le_of_ble_eq_true rfl)⟩ ⟨by show _ ≤ 601024; omega, by show _ ≤ 7293034; omega⟩ rfl rfl (Nat.le_of_ble_eq_true rfl) dL_law_658 (fun r658 u658 h658 => ?_)
  obtain ⟨rfl, rfl⟩ := h658
  refine j_icmp_eq C 819 dL_law_661 (by decide) (fun c661 => ?_) (fun c661 => absurd (hok.holds _ _ _ _ _ _ _ _ hRl) c661)
  refine j_lv (lv' := [(0, .ref b), (1, .ref (a 0 0)), (2, .ref o), (3, .ref ob), (4, .int (nI (6 * k)))]) [0, 1, 2, 3, 4] rfl ?_
  refine j_widen (k1 := 100 + 5 * (k + 1)) (n1 := 20000 + 1514 * (k + 1)) (by omega) (by omega) ?_
  refine j_iinc C (nI (6 * (k + 1))) [(0, .ref b), (1, .ref (a 0 0)), (2, .ref o), (3, .ref ob), (4, .int (nI (6 * (k + 1))))] 4 [1, 2, 3, 4, 0] dL_law_819 rfl (nI_6 k) (by decide) rfl ?_
  refine j_goto C 23 dL_law_822 (by decide) ?_
  exact nx a n op c (mu m 0 0 0) w g rfl (hok.thr _ _ _ _ _ _ hRl)

set_option maxHeartbeats 4000000 in
set_option maxRecDepth 100000 in
theorem law_15 (l : Launch) (d : jD) (ad adK adV : Nat → Nat) (al : Nat) (Rl : (Nat → Nat) → Option Nat → (Nat → Nat → Nat → Int32) → (Nat → Nat → Int32) → Int64 → Prop) (hok : LwOk Rl) (hls : l.stackTraces = false) {X : jX} {A : Nat → Prop} {b L : Nat} {xs : Nat → Int32} (hL : L ≤ 3072) (C : jC (cEf ad adK adV al) X l d A cL_law 8 wsL_law RL room_1 (some .boolean)) (hSc : jS X A b L xs) (o ob a0 : Nat) (q : Nat → Nat) (k : Nat) (hk : 6 * k + 6 ≤ L) (nx : ∀ (a : Nat → Nat → Nat) (n : Nat → Nat) (op : Option Nat) (c : Nat → Nat → Nat → Int32) (m : Nat → Nat → Int32) (w : Int64) (g : Nat → Int64), a 0 0 = a0 → Rl n op c m w → jJ X l d A 8 (100 + 5 * (k + 1)) (20000 + 1514 * (k + 1)) (WL a d n op ad c ob g o q m w) [(0, .ref b), (1, .ref a0), (2, .ref o), (3, .ref ob), (4, .int (nI (6 * (k + 1))))] 23 []) : ∀ (a : Nat → Nat → Nat) (n : Nat → Nat) (op : Option Nat) (c : Nat → Nat → Nat → Int32) (m : Nat → Nat → Int32) (w : Int64) (g : Nat → Int64), a 0 0 = a0 → Rl n op c m w → jJ X l d A 8 (100 + 5 * k) (20000 + 1514 * k) (WL a d n op ad c ob g o q m w) [(0, .ref b), (1, .ref a0), (2, .ref o), (3, .ref ob), (4, .int (nI (6 * k)))] 666 [] := by
  intro a n op c m w g ha0 hRl
  obtain ⟨hn, ⟨rd, tp, hI, hT, hR9⟩, hs1, hs2⟩ := hok.st _ _ _ _ _ hRl
  obtain ⟨hI1, hI2, hI3, hI4, hI5, hI6, hI7, hrd, hTm, htp⟩ := id hI
  subst ha0
  refine j_aload_n C 1 dL_law_666 rfl rfl ?_
  refine j_aload_n C 0 dL_law_667 rfl rfl ?_
  refine j_iload C 4 dL_law_668 rfl ?_
  refine j_iconst C 1 dL_law_670 (by decide) ?_
  refine j_iaddN C (6 * k) 1 dL_law_671 ?_
  refine j_sld C hSc (6 * k + 1) rfl (by omega) (by omega) dL_law_672 ?_
  refine j_aload_n C 0 dL_law_673 rfl rfl ?_
  refine j_iload C 4 dL_law_674 rfl ?_
  refine j_iconst C 2 dL_law_676 (by decide) ?_
  refine j_iaddN C (6 * k) 2 dL_law_677 ?_
  refine j_sld C hSc (6 * k + 2) rfl (by omega) (by omega) dL_law_678 ?_
  refine l_x9 C 2 (cc_X9_asks l d ad adK adV al a n op c hn (xs (6 * k + 1)) (xs (6 * k + 2))) gL_law_X9_asks rfl rfl rfl (by decide +kernel) ⟨(Nat.le_of_ble_eq_true rfl), (Nat.le_of_ble_eq_true rfl)⟩ ⟨by show _ ≤ 601024; omega, by show _ ≤ 7293034; omega⟩ rfl rfl (Nat.le_of_ble_eq_true rfl) dL_law_679 (fun r679 u679 h679 => ?_)
  obtain ⟨rfl, rfl⟩ := h679
  refine j_aload_n C 2 dL_law_682 rfl rfl ?_
  refine j_aload_n C 0 dL_law_683 rfl rfl ?_
  refine j_iload C 4 dL_law_684 rfl ?_
  refine j_iconst C 1 dL_law_686 (by decide) ?_
  refine j_iaddN C (6 * k) 1 dL_law_687 ?_
  refine j_sld C hSc (6 * k + 1) rfl (by omega) (by omega) dL_law_688 ?_
  refine j_aload_n C 0 dL_law_689 rfl rfl ?_
  refine j_iload C 4 dL_law_690 rfl ?_
  refine j_iconst C 2 dL_law_692 (by decide) ?_
  refine j_iaddN C (6 * k) 2 dL_law_693 ?_
  refine j_sld C hSc (6 * k + 2) rfl (by omega) (by omega) dL_law_694 ?_
  refine l_x10 C 2 (cm_asks l d o q m w (xs (6 * k + 1)) (xs (6 * k + 2)) (n 0) (n 1) (n 2) rd tp hI) gL_law_X10_asks rfl rfl rfl (by decide +kernel) ⟨(Nat.le_of_ble_eq_true rfl), (Nat.le_of_ble_eq_true rfl)⟩ ⟨by show _ ≤ 601024; omega, by show _ ≤ 7293034; omega⟩ rfl rfl (Nat.le_of_ble_eq_true rfl) dL_law_695 (fun r695 u695 h695 => ?_)
  obtain ⟨rfl, rfl⟩ := h695
  refine j_icmp_eq C 819 dL_law_698 (by decide) (fun c698 => ?_) (fun c698 => absurd (hok.asks _ _ _ _ _ _ _ hRl) c698)
  refine j_lv (lv' := [(0, .ref b), (1, .ref (a 0 0)), (2, .ref o), (3, .ref ob), (4, .int (nI (6 * k)))]) [0, 1, 2, 3, 4] rfl ?_
  refine j_widen (k1 := 100 + 5 * (k + 1)) (n1 := 20000 + 1514 * (k + 1)) (by omega) (by omega) ?_
  refine j_iinc C (nI (6 * (k + 1))) [(0, .ref b), (1, .ref (a 0 0)), (2, .ref o), (3, .ref ob), (4, .int (nI (6 * (k + 1))))] 4 [1, 2, 3, 4, 0] dL_law_819 rfl (nI_6 k) (by decide) rfl ?_
  refine j_goto C 23 dL_law_822 (by decide) ?_
  exact nx a n op c (mu m 0 0 0) w g rfl (hok.thr _ _ _ _ _ _ hRl)

set_option maxHeartbeats 4000000 in
set_option maxRecDepth 100000 in
theorem law_16 (l : Launch) (d : jD) (ad adK adV : Nat → Nat) (al : Nat) (Rl : (Nat → Nat) → Option Nat → (Nat → Nat → Nat → Int32) → (Nat → Nat → Int32) → Int64 → Prop) (hok : LwOk Rl) (hls : l.stackTraces = false) {X : jX} {A : Nat → Prop} {b L : Nat} {xs : Nat → Int32} (hL : L ≤ 3072) (C : jC (cEf ad adK adV al) X l d A cL_law 8 wsL_law RL room_1 (some .boolean)) (hSc : jS X A b L xs) (o ob a0 : Nat) (q : Nat → Nat) (k : Nat) (hk : 6 * k + 6 ≤ L) (nx : ∀ (a : Nat → Nat → Nat) (n : Nat → Nat) (op : Option Nat) (c : Nat → Nat → Nat → Int32) (m : Nat → Nat → Int32) (w : Int64) (g : Nat → Int64), a 0 0 = a0 → Rl n op c m w → jJ X l d A 8 (100 + 5 * (k + 1)) (20000 + 1514 * (k + 1)) (WL a d n op ad c ob g o q m w) [(0, .ref b), (1, .ref a0), (2, .ref o), (3, .ref ob), (4, .int (nI (6 * (k + 1))))] 23 []) : ∀ (a : Nat → Nat → Nat) (n : Nat → Nat) (op : Option Nat) (c : Nat → Nat → Nat → Int32) (m : Nat → Nat → Int32) (w : Int64) (g : Nat → Int64), a 0 0 = a0 → Rl n op c m w → jJ X l d A 8 (100 + 5 * k) (20000 + 1514 * k) (WL a d n op ad c ob g o q m w) [(0, .ref b), (1, .ref a0), (2, .ref o), (3, .ref ob), (4, .int (nI (6 * k)))] 703 [] := by
  intro a n op c m w g ha0 hRl
  obtain ⟨hn, ⟨rd, tp, hI, hT, hR9⟩, hs1, hs2⟩ := hok.st _ _ _ _ _ hRl
  obtain ⟨hI1, hI2, hI3, hI4, hI5, hI6, hI7, hrd, hTm, htp⟩ := id hI
  subst ha0
  have h50 : c 0 0 9 < 50 := by rw [hR9]; exact nI_lt (b := 50) (by omega) (by decide)
  have hz := hok.owned _ _ _ _ _ (xs (6 * k + 1)) (xs (6 * k + 2)) (xs (6 * k + 3)) (xs (6 * k + 4)) hRl
  have hz1 : (sOwned m (xs (6 * k + 1)) (xs (6 * k + 2)) (xs (6 * k + 3)) (xs (6 * k + 4)) (n 2)).2 0 0 = (zLO n c g (xs (6 * k + 1)) (xs (6 * k + 2)) (xs (6 * k + 3)) (xs (6 * k + 4))).1 := lwo_1 hz.1
  have hz2 : (zLO n c g (xs (6 * k + 1)) (xs (6 * k + 2)) (xs (6 * k + 3)) (xs (6 * k + 4))).1 = 0 → (zLO n c g (xs (6 * k + 1)) (xs (6 * k + 2)) (xs (6 * k + 3)) (xs (6 * k + 4))).2 0 = (sOwned m (xs (6 * k + 1)) (xs (6 * k + 2)) (xs (6 * k + 3)) (xs (6 * k + 4)) (n 2)).1 := lwo_2 ⟨hz.1, hz.2.2⟩
  have hz3 : Rl n op c (sOwned m (xs (6 * k + 1)) (xs (6 * k + 2)) (xs (6 * k + 3)) (xs (6 * k + 4)) (n 2)).2 w := lwo_3 hok hRl
  refine j_aload_n C 1 dL_law_703 rfl rfl ?_
  refine j_aload_n C 0 dL_law_704 rfl rfl ?_
  refine j_iload C 4 dL_law_705 rfl ?_
  refine j_iconst C 1 dL_law_707 (by decide) ?_
  refine j_iaddN C (6 * k) 1 dL_law_708 ?_
  refine j_sld C hSc (6 * k + 1) rfl (by omega) (by omega) dL_law_709 ?_
  refine j_aload_n C 0 dL_law_710 rfl rfl ?_
  refine j_iload C 4 dL_law_711 rfl ?_
  refine j_iconst C 2 dL_law_713 (by decide) ?_
  refine j_iaddN C (6 * k) 2 dL_law_714 ?_
  refine j_sld C hSc (6 * k + 2) rfl (by omega) (by omega) dL_law_715 ?_
  refine j_aload_n C 0 dL_law_716 rfl rfl ?_
  refine j_iload C 4 dL_law_717 rfl ?_
  refine j_iconst C 3 dL_law_719 (by decide) ?_
  refine j_iaddN C (6 * k) 3 dL_law_720 ?_
  refine j_sld C hSc (6 * k + 3) rfl (by omega) (by omega) dL_law_721 ?_
  refine j_aload_n C 0 dL_law_722 rfl rfl ?_
  refine j_iload C 4 dL_law_723 rfl ?_
  refine j_iconst C 4 dL_law_725 (by decide) ?_
  refine j_iaddN C (6 * k) 4 dL_law_726 ?_
  refine j_sld C hSc (6 * k + 4) rfl (by omega) (by omega) dL_law_727 ?_
  refine j_aload_n C 3 dL_law_728 rfl rfl ?_
  refine l_xs C 6 (cl_owned l d ad adK adV al a n op c hn ob g h50 (xs (6 * k + 1)) (xs (6 * k + 2)) (xs (6 * k + 3)) (xs (6 * k + 4)) hls) gL_law_L_owned rfl rfl rfl (by decide +kernel) ⟨(Nat.le_of_ble_eq_true rfl), (Nat.le_of_ble_eq_true rfl)⟩ ⟨by show _ ≤ 601024; omega, by show _ ≤ 7293034; omega⟩ rfl rfl (Nat.le_of_ble_eq_true rfl) dL_law_729 (fun r729 u729 h729 => ?_)
  obtain ⟨rfl, rfl⟩ := h729
  refine j_istore C [(0, .ref b), (1, .ref (a 0 0)), (2, .ref o), (3, .ref ob), (4, .int (nI (6 * k))), (5, .int ((zLO n c g (xs (6 * k + 1)) (xs (6 * k + 2)) (xs (6 * k + 3)) (xs (6 * k + 4))).1))] [1, 2, 3, 4, 5, 0] dL_law_732 (by decide) rfl ?_
  refine j_aload_n C 2 dL_law_734 rfl rfl ?_
  refine j_aload_n C 0 dL_law_735 rfl rfl ?_
  refine j_iload C 4 dL_law_736 rfl ?_
  refine j_iconst C 1 dL_law_738 (by decide) ?_
  refine j_iaddN C (6 * k) 1 dL_law_739 ?_
  refine j_sld C hSc (6 * k + 1) rfl (by omega) (by omega) dL_law_740 ?_
  refine j_aload_n C 0 dL_law_741 rfl rfl ?_
  refine j_iload C 4 dL_law_742 rfl ?_
  refine j_iconst C 2 dL_law_744 (by decide) ?_
  refine j_iaddN C (6 * k) 2 dL_law_745 ?_
  refine j_sld C hSc (6 * k + 2) rfl (by omega) (by omega) dL_law_746 ?_
  refine j_aload_n C 0 dL_law_747 rfl rfl ?_
  refine j_iload C 4 dL_law_748 rfl ?_
  refine j_iconst C 3 dL_law_750 (by decide) ?_
  refine j_iaddN C (6 * k) 3 dL_law_751 ?_
  refine j_sld C hSc (6 * k + 3) rfl (by omega) (by omega) dL_law_752 ?_
  refine j_aload_n C 0 dL_law_753 rfl rfl ?_
  refine j_iload C 4 dL_law_754 rfl ?_
  refine j_iconst C 4 dL_law_756 (by decide) ?_
  refine j_iaddN C (6 * k) 4 dL_law_757 ?_
  refine j_sld C hSc (6 * k + 4) rfl (by omega) (by omega) dL_law_758 ?_
  refine l_x10l C 4 (cm_owned l d o q m w (xs (6 * k + 1)) (xs (6 * k + 2)) (xs (6 * k + 3)) (xs (6 * k + 4)) (n 0) (n 1) (n 2) rd tp hI hz.2.1) gL_law_X10_owned rfl rfl rfl (by decide +kernel) ⟨(Nat.le_of_ble_eq_true rfl), (Nat.le_of_ble_eq_true rfl)⟩ ⟨by show _ ≤ 601024; omega, by show _ ≤ 7293034; omega⟩ rfl rfl (Nat.le_of_ble_eq_true rfl) dL_law_759 (fun r759 u759 h759 => ?_)
  obtain ⟨rfl, rfl⟩ := h759
  refine j_lstore C [(0, .ref b), (1, .ref (a 0 0)), (2, .ref o), (3, .ref ob), (4, .int (nI (6 * k))), (5, .int ((zLO n c g (xs (6 * k + 1)) (xs (6 * k + 2)) (xs (6 * k + 3)) (xs (6 * k + 4))).1)), (6, .long ((sOwned m (xs (6 * k + 1)) (xs (6 * k + 2)) (xs (6 * k + 3)) (xs (6 * k + 4)) (n 2)).1))] [1, 2, 3, 4, 5, 6, 0] dL_law_762 (by decide) rfl ?_
  refine j_aload_n C 2 dL_law_764 rfl rfl ?_
  refine l_x10 C 0 (cm_thrown l d o q ((sOwned m (xs (6 * k + 1)) (xs (6 * k + 2)) (xs (6 * k + 3)) (xs (6 * k + 4)) (n 2)).2) w) gL_law_X10_thrown rfl rfl rfl (by decide +kernel) ⟨(Nat.le_of_ble_eq_true rfl), (Nat.le_of_ble_eq_true rfl)⟩ ⟨by show _ ≤ 601024; omega, by show _ ≤ 7293034; omega⟩ rfl rfl (Nat.le_of_ble_eq_true rfl) dL_law_765 (fun r765 u765 h765 => ?_)
  obtain ⟨rfl, rfl⟩ := h765
  refine j_iload C 5 dL_law_768 rfl ?_
  refine j_icmp_eq C 775 dL_law_770 (by decide) (fun c770 => ?_) (fun c770 => absurd hz1 c770)
  refine j_iload C 5 dL_law_775 rfl ?_
  refine j_if_ne C 791 dL_law_777 (by decide) (fun c777 => ?_) (fun c777 => ?_)
  · refine j_goto C 819 dL_law_791 (by decide) ?_
    refine j_lv (lv' := [(0, .ref b), (1, .ref (a 0 0)), (2, .ref o), (3, .ref ob), (4, .int (nI (6 * k)))]) [0, 1, 2, 3, 4] rfl ?_
    refine j_widen (k1 := 100 + 5 * (k + 1)) (n1 := 20000 + 1514 * (k + 1)) (by omega) (by omega) ?_
    refine j_iinc C (nI (6 * (k + 1))) [(0, .ref b), (1, .ref (a 0 0)), (2, .ref o), (3, .ref ob), (4, .int (nI (6 * (k + 1))))] 4 [1, 2, 3, 4, 0] dL_law_819 rfl (nI_6 k) (by decide) rfl ?_
    refine j_goto C 23 dL_law_822 (by decide) ?_
    exact nx a n op c ((sOwned m (xs (6 * k + 1)) (xs (6 * k + 2)) (xs (6 * k + 3)) (xs (6 * k + 4)) (n 2)).2) w ((zLO n c g (xs (6 * k + 1)) (xs (6 * k + 2)) (xs (6 * k + 3)) (xs (6 * k + 4))).2) rfl hz3
  · refine j_aload_n C 3 dL_law_780 rfl rfl ?_
    refine j_iconst C 0 dL_law_781 (by decide) ?_
    refine j_lald C (cW a d n op ad c).length 0 lw_out rfl (by decide) (by decide) dL_law_782 ?_
    refine j_lload C 6 dL_law_783 rfl ?_
    refine j_lcmp C dL_law_785 ?_
    refine j_if_eq C 791 dL_law_786 (by decide) (fun c786 => ?_) (fun c786 => absurd (lcmpE.mpr (hz2 c777)) c786)
    refine j_goto C 819 dL_law_791 (by decide) ?_
    refine j_lv (lv' := [(0, .ref b), (1, .ref (a 0 0)), (2, .ref o), (3, .ref ob), (4, .int (nI (6 * k)))]) [0, 1, 2, 3, 4] rfl ?_
    refine j_widen (k1 := 100 + 5 * (k + 1)) (n1 := 20000 + 1514 * (k + 1)) (by omega) (by omega) ?_
    refine j_iinc C (nI (6 * (k + 1))) [(0, .ref b), (1, .ref (a 0 0)), (2, .ref o), (3, .ref ob), (4, .int (nI (6 * (k + 1))))] 4 [1, 2, 3, 4, 0] dL_law_819 rfl (nI_6 k) (by decide) rfl ?_
    refine j_goto C 23 dL_law_822 (by decide) ?_
    exact nx a n op c ((sOwned m (xs (6 * k + 1)) (xs (6 * k + 2)) (xs (6 * k + 3)) (xs (6 * k + 4)) (n 2)).2) w ((zLO n c g (xs (6 * k + 1)) (xs (6 * k + 2)) (xs (6 * k + 3)) (xs (6 * k + 4))).2) rfl hz3

set_option maxHeartbeats 4000000 in
set_option maxRecDepth 100000 in
theorem law_17 (l : Launch) (d : jD) (ad adK adV : Nat → Nat) (al : Nat) (Rl : (Nat → Nat) → Option Nat → (Nat → Nat → Nat → Int32) → (Nat → Nat → Int32) → Int64 → Prop) (hok : LwOk Rl) (hls : l.stackTraces = false) {X : jX} {A : Nat → Prop} {b L : Nat} {xs : Nat → Int32} (hL : L ≤ 3072) (C : jC (cEf ad adK adV al) X l d A cL_law 8 wsL_law RL room_1 (some .boolean)) (hSc : jS X A b L xs) (o ob a0 : Nat) (q : Nat → Nat) (k : Nat) (hk : 6 * k + 6 ≤ L) (nx : ∀ (a : Nat → Nat → Nat) (n : Nat → Nat) (op : Option Nat) (c : Nat → Nat → Nat → Int32) (m : Nat → Nat → Int32) (w : Int64) (g : Nat → Int64), a 0 0 = a0 → Rl n op c m w → jJ X l d A 8 (100 + 5 * (k + 1)) (20000 + 1514 * (k + 1)) (WL a d n op ad c ob g o q m w) [(0, .ref b), (1, .ref a0), (2, .ref o), (3, .ref ob), (4, .int (nI (6 * (k + 1))))] 23 []) : ∀ (a : Nat → Nat → Nat) (n : Nat → Nat) (op : Option Nat) (c : Nat → Nat → Nat → Int32) (m : Nat → Nat → Int32) (w : Int64) (g : Nat → Int64), a 0 0 = a0 → Rl n op c m w → jJ X l d A 8 (100 + 5 * k) (20000 + 1514 * k) (WL a d n op ad c ob g o q m w) [(0, .ref b), (1, .ref a0), (2, .ref o), (3, .ref ob), (4, .int (nI (6 * k)))] 794 [] := by
  intro a n op c m w g ha0 hRl
  obtain ⟨hn, ⟨rd, tp, hI, hT, hR9⟩, hs1, hs2⟩ := hok.st _ _ _ _ _ hRl
  obtain ⟨hI1, hI2, hI3, hI4, hI5, hI6, hI7, hrd, hTm, htp⟩ := id hI
  subst ha0
  refine j_aload_n C 1 dL_law_794 rfl rfl ?_
  refine j_aload_n C 0 dL_law_795 rfl rfl ?_
  refine j_iload C 4 dL_law_796 rfl ?_
  refine j_iconst C 1 dL_law_798 (by decide) ?_
  refine j_iaddN C (6 * k) 1 dL_law_799 ?_
  refine j_sld C hSc (6 * k + 1) rfl (by omega) (by omega) dL_law_800 ?_
  refine l_x9 C 1 (cc_X9_count l d ad adK adV al a n op c hn (xs (6 * k + 1))) gL_law_X9_count rfl rfl rfl (by decide +kernel) ⟨(Nat.le_of_ble_eq_true rfl), (Nat.le_of_ble_eq_true rfl)⟩ ⟨by show _ ≤ 601024; omega, by show _ ≤ 7293034; omega⟩ rfl rfl (Nat.le_of_ble_eq_true rfl) dL_law_801 (fun r801 u801 h801 => ?_)
  obtain ⟨rfl, rfl⟩ := h801
  refine j_aload_n C 2 dL_law_804 rfl rfl ?_
  refine j_aload_n C 0 dL_law_805 rfl rfl ?_
  refine j_iload C 4 dL_law_806 rfl ?_
  refine j_iconst C 1 dL_law_808 (by decide) ?_
  refine j_iaddN C (6 * k) 1 dL_law_809 ?_
  refine j_sld C hSc (6 * k + 1) rfl (by omega) (by omega) dL_law_810 ?_
  refine l_x10 C 1 (cm_count l d o q m w (xs (6 * k + 1))) gL_law_X10_count rfl rfl rfl (by decide +kernel) ⟨(Nat.le_of_ble_eq_true rfl), (Nat.le_of_ble_eq_true rfl)⟩ ⟨by show _ ≤ 601024; omega, by show _ ≤ 7293034; omega⟩ rfl rfl (Nat.le_of_ble_eq_true rfl) dL_law_811 (fun r811 u811 h811 => ?_)
  obtain ⟨rfl, rfl⟩ := h811
  refine j_icmp_eq C 819 dL_law_814 (by decide) (fun c814 => ?_) (fun c814 => absurd (hok.count _ _ _ _ _ _ hRl) c814)
  refine j_lv (lv' := [(0, .ref b), (1, .ref (a 0 0)), (2, .ref o), (3, .ref ob), (4, .int (nI (6 * k)))]) [0, 1, 2, 3, 4] rfl ?_
  refine j_widen (k1 := 100 + 5 * (k + 1)) (n1 := 20000 + 1514 * (k + 1)) (by omega) (by omega) ?_
  refine j_iinc C (nI (6 * (k + 1))) [(0, .ref b), (1, .ref (a 0 0)), (2, .ref o), (3, .ref ob), (4, .int (nI (6 * (k + 1))))] 4 [1, 2, 3, 4, 0] dL_law_819 rfl (nI_6 k) (by decide) rfl ?_
  refine j_goto C 23 dL_law_822 (by decide) ?_
  exact nx a n op c (mu m 0 0 0) w g rfl (hok.thr _ _ _ _ _ _ hRl)

set_option maxHeartbeats 4000000 in
set_option maxRecDepth 100000 in
theorem law_loop (l : Launch) (d : jD) (ad adK adV : Nat → Nat) (al : Nat) (Rl : (Nat → Nat) → Option Nat → (Nat → Nat → Nat → Int32) → (Nat → Nat → Int32) → Int64 → Prop) (hok : LwOk Rl) (hls : l.stackTraces = false) {X : jX} {A : Nat → Prop} {b L : Nat} {xs : Nat → Int32} (hL : L ≤ 3072) (C : jC (cEf ad adK adV al) X l d A cL_law 8 wsL_law RL room_1 (some .boolean)) (hSc : jS X A b L xs) (o ob a0 : Nat) (q : Nat → Nat) (hend : ∀ (cells slots : Nat) (ws : va_W) (lv : List (Nat × Value)), cells ≤ 601024 → slots ≤ 7293034 → jJ X l d A 8 cells slots ws lv 826 [.int 1]) : ∀ (f k : Nat), 6 * k ≤ L + 6 → k ≤ 512 → L < 6 * k + 6 * f → ∀ (a : Nat → Nat → Nat) (n : Nat → Nat) (op : Option Nat) (c : Nat → Nat → Nat → Int32) (m : Nat → Nat → Int32) (w : Int64) (g : Nat → Int64), a 0 0 = a0 → Rl n op c m w → jJ X l d A 8 (100 + 5 * k) (20000 + 1514 * k) (WL a d n op ad c ob g o q m w) [(0, .ref b), (1, .ref a0), (2, .ref o), (3, .ref ob), (4, .int (nI (6 * k)))] 23 [] := by
  intro f
  induction f with
  | zero =>
    intro k hk hk5 hf a n op c m w g ha0 hRl
    refine j_iload C 4 dL_law_23 rfl ?_
    refine j_aload_n C 0 dL_law_25 rfl rfl ?_
    refine j_slen C hSc dL_law_26 ?_
    refine j_bipush C 6 dL_law_27 (by decide) ?_
    refine j_isub C dL_law_29 ?_
    refine j_icmp_gt C 825 dL_law_30 (by decide) (fun _ => ?_) (fun h => absurd ((nI_L6 (j := 6 * k) hL (by omega)).mpr (by omega)) h)
    refine j_iconst C 1 dL_law_825 (by decide) ?_
    exact hend _ _ _ _ (by omega) (by omega)
  | succ f ih =>
    intro k hk hk5 hf a n op c m w g ha0 hRl
    refine j_iload C 4 dL_law_23 rfl ?_
    refine j_aload_n C 0 dL_law_25 rfl rfl ?_
    refine j_slen C hSc dL_law_26 ?_
    refine j_bipush C 6 dL_law_27 (by decide) ?_
    refine j_isub C dL_law_29 ?_
    refine j_icmp_gt C 825 dL_law_30 (by decide) (fun _ => ?_) (fun h => ?_)
    · refine j_iconst C 1 dL_law_825 (by decide) ?_
      exact hend _ _ _ _ (by omega) (by omega)
    · have hkL : 6 * k + 6 ≤ L := by
        have : ¬ L < 6 * k + 6 := fun q => h ((nI_L6 (j := 6 * k) hL (by omega)).mpr q)
        omega
      refine j_aload_n C 0 dL_law_33 rfl rfl ?_
      refine j_iload C 4 dL_law_34 rfl ?_
      refine j_sld C hSc (6 * k) rfl (by omega) (by omega) dL_law_36 ?_
      refine j_bipush C 31 dL_law_37 (by decide) ?_
      refine j_iand C dL_law_39 ?_
      have nx : ∀ (a : Nat → Nat → Nat) (n : Nat → Nat) (op : Option Nat) (c : Nat → Nat → Nat → Int32) (m : Nat → Nat → Int32) (w : Int64) (g : Nat → Int64), a 0 0 = a0 → Rl n op c m w → jJ X l d A 8 (100 + 5 * (k + 1)) (20000 + 1514 * (k + 1)) (WL a d n op ad c ob g o q m w) [(0, .ref b), (1, .ref a0), (2, .ref o), (3, .ref ob), (4, .int (nI (6 * (k + 1))))] 23 [] := ih (k + 1) (by omega) (by omega) (by omega)
      rcases sw18 (xs (6 * k) &&& 31) with h9 | h9 | h9 | h9 | h9 | h9 | h9 | h9 | h9 | h9 | h9 | h9 | h9 | h9 | h9 | h9 | h9 | h9 | h9
      · rw [h9]
        refine j_tableIn C 128 dL_law_40 (by decide) (by decide) rfl (by decide) ?_
        exact law_0 l d ad adK adV al Rl hok hls hL C hSc o ob a0 q k hkL nx a n op c m w g ha0 hRl
      · rw [h9]
        refine j_tableIn C 201 dL_law_40 (by decide) (by decide) rfl (by decide) ?_
        exact law_1 l d ad adK adV al Rl hok hls hL C hSc o ob a0 q k hkL nx a n op c m w g ha0 hRl
      · rw [h9]
        refine j_tableIn C 226 dL_law_40 (by decide) (by decide) rfl (by decide) ?_
        exact law_2 l d ad adK adV al Rl hok hls hL C hSc o ob a0 q k hkL nx a n op c m w g ha0 hRl
      · rw [h9]
        refine j_tableIn C 239 dL_law_40 (by decide) (by decide) rfl (by decide) ?_
        exact law_3 l d ad adK adV al Rl hok hls hL C hSc o ob a0 q k hkL nx a n op c m w g ha0 hRl
      · rw [h9]
        refine j_tableIn C 252 dL_law_40 (by decide) (by decide) rfl (by decide) ?_
        exact law_4 l d ad adK adV al Rl hok hls hL C hSc o ob a0 q k hkL nx a n op c m w g ha0 hRl
      · rw [h9]
        refine j_tableIn C 277 dL_law_40 (by decide) (by decide) rfl (by decide) ?_
        exact law_5 l d ad adK adV al Rl hok hls hL C hSc o ob a0 q k hkL nx a n op c m w g ha0 hRl
      · rw [h9]
        refine j_tableIn C 314 dL_law_40 (by decide) (by decide) rfl (by decide) ?_
        exact law_6 l d ad adK adV al Rl hok hls hL C hSc o ob a0 q k hkL nx a n op c m w g ha0 hRl
      · rw [h9]
        refine j_tableIn C 339 dL_law_40 (by decide) (by decide) rfl (by decide) ?_
        exact law_7 l d ad adK adV al Rl hok hls hL C hSc o ob a0 q k hkL nx a n op c m w g ha0 hRl
      · rw [h9]
        refine j_tableIn C 364 dL_law_40 (by decide) (by decide) rfl (by decide) ?_
        exact law_8 l d ad adK adV al Rl hok hls hL C hSc o ob a0 q k hkL nx a n op c m w g ha0 hRl
      · rw [h9]
        refine j_tableIn C 413 dL_law_40 (by decide) (by decide) rfl (by decide) ?_
        exact law_9 l d ad adK adV al Rl hok hls hL C hSc o ob a0 q k hkL nx a n op c m w g ha0 hRl
      · rw [h9]
        refine j_tableIn C 462 dL_law_40 (by decide) (by decide) rfl (by decide) ?_
        exact law_10 l d ad adK adV al Rl hok hls hL C hSc o ob a0 q k hkL nx a n op c m w g ha0 hRl
      · rw [h9]
        refine j_tableIn C 475 dL_law_40 (by decide) (by decide) rfl (by decide) ?_
        exact law_11 l d ad adK adV al Rl hok hls hL C hSc o ob a0 q k hkL nx a n op c m w g ha0 hRl
      · rw [h9]
        refine j_tableIn C 512 dL_law_40 (by decide) (by decide) rfl (by decide) ?_
        exact law_12 l d ad adK adV al Rl hok hls hL C hSc o ob a0 q k hkL nx a n op c m w g ha0 hRl
      · rw [h9]
        refine j_tableIn C 549 dL_law_40 (by decide) (by decide) rfl (by decide) ?_
        exact law_13 l d ad adK adV al Rl hok hls hL C hSc o ob a0 q k hkL nx a n op c m w g ha0 hRl
      · rw [h9]
        refine j_tableIn C 617 dL_law_40 (by decide) (by decide) rfl (by decide) ?_
        exact law_14 l d ad adK adV al Rl hok hls hL C hSc o ob a0 q k hkL nx a n op c m w g ha0 hRl
      · rw [h9]
        refine j_tableIn C 666 dL_law_40 (by decide) (by decide) rfl (by decide) ?_
        exact law_15 l d ad adK adV al Rl hok hls hL C hSc o ob a0 q k hkL nx a n op c m w g ha0 hRl
      · rw [h9]
        refine j_tableIn C 703 dL_law_40 (by decide) (by decide) rfl (by decide) ?_
        exact law_16 l d ad adK adV al Rl hok hls hL C hSc o ob a0 q k hkL nx a n op c m w g ha0 hRl
      · rw [h9]
        refine j_tableIn C 794 dL_law_40 (by decide) (by decide) rfl (by decide) ?_
        exact law_17 l d ad adK adV al Rl hok hls hL C hSc o ob a0 q k hkL nx a n op c m w g ha0 hRl
      · refine j_tableOut C 819 dL_law_40 h9 (by decide) ?_
        refine j_widen (k1 := 100 + 5 * (k + 1)) (n1 := 20000 + 1514 * (k + 1)) (by omega) (by omega) ?_
        refine j_iinc C (nI (6 * (k + 1))) [(0, .ref b), (1, .ref a0), (2, .ref o), (3, .ref ob), (4, .int (nI (6 * (k + 1))))] 4 [1, 2, 3, 4, 0] dL_law_819 rfl (nI_6 k) (by decide) rfl ?_
        refine j_goto C 23 dL_law_822 (by decide) ?_
        exact nx a n op c m w g ha0 hRl


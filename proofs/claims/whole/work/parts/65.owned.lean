section OWN2
variable {n : Nat → Nat} {op : Option Nat} {c : Nat → Nat → Nat → Int32} {m : Nat → Nat → Int32} {w : Int64} {rd tp : Nat}
theorem sumZ_add {f g : Nat → Int} : ∀ k, sumZ f k + sumZ g k = sumZ (fun i => f i + g i) k
  | 0 => rfl
  | k + 1 => by
    rw [sumZ, sumZ, sumZ, ← sumZ_add k]
    omega
theorem div_le_K {x y g K : Nat} (hg : 0 < g) (h1 : g ∣ x) (h2 : g ∣ y) (h : x ≤ K * y) : x / g ≤ K * (y / g) := by
  have e1 : x / g * g = x := Nat.div_mul_cancel h1
  have e2 : y / g * g = y := Nat.div_mul_cancel h2
  refine Nat.le_of_mul_le_mul_right (c := g) ?_ hg
  rw [e1, Nat.mul_assoc, e2]
  exact h
theorem cross_div {x y g A B : Nat} (hg : 0 < g) (h1 : g ∣ x) (h2 : g ∣ y) (h : x * B = A * y) : x / g * B = A * (y / g) := by
  have e1 : x / g * g = x := Nat.div_mul_cancel h1
  have e2 : y / g * g = y := Nat.div_mul_cancel h2
  refine Nat.eq_of_mul_eq_mul_right hg ?_
  calc x / g * B * g = (x / g * g) * B := by ac_rfl
    _ = A * (y / g * g) := by rw [e1, h, e2]
    _ = A * (y / g) * g := by ac_rfl
/-- what both ways of counting the parts have in common, behind f FUNDS -/
def oInv (c : Nat → Nat → Nat → Int32) (m : Nat → Nat → Int32) (p x r : Nat) (G : Nat → Nat) (f : Nat) : Prop :=
  ∃ U V A B : Nat, Lg (zO c p x r f).1 U ∧ Lg (zO c p x r f).2 V ∧ Lg (oS m p x r f).1 A ∧ Lg (oS m p x r f).2 B ∧ 0 < V ∧ 0 < B ∧ U * B = A * V ∧ V ∣ pG G f ∧ B ∣ pG G f ∧ U ≤ 1000 * (f + 1) * V ∧ A ≤ 1000 * (f + 1) * B
theorem o_step {p x r f : Nat} {G : Nat → Nat} (hf : f < 4) (hG : G 0 + G 1 + G 2 + G 3 ≤ 24000) {hq gf gv : Nat} (h1 : Lg (mHeldAt m (24 + f) x r).toInt64 hq) (h2 : Lg (m 26 (4 * p + f)).toInt64 gf) (h3 : Lg (m 25 f).toInt64 gv) (hc1 : c 17 x (r * 28 + (24 + f)) = mHeldAt m (24 + f) x r) (hc2 : c 20 f p = m 26 (4 * p + f)) (hc3 : c 19 f 3 = m 25 f) (hh : hq ≤ 1000) (hgg : gf ≤ gv) (hgv : G f + 1 = max 1 gv) (hI : oInv c m p x r G f) : oInv c m p x r G (f + 1) ∧ (¬ oPt m p x r f = 0 → lgcdE 100 (oPt m p x r f) (m 25 f).toInt64 ∧ ¬ oBy m p x r f = 0 ∧ lgcdE 100 (oOv m p x r f) (oS m p x r f).2 ∧ ¬ lgcd 100 (oOv m p x r f) (oS m p x r f).2 = 0) := by
  obtain ⟨U, V, A, B, i1, i2, i3, i4, i5, i6, i7, i8, i9, i10, i11⟩ := hI
  have hP := pG_le hG (f + 1) (by omega)
  have hgvle : gv ≤ 24001 := by
    have : G f ≤ 24000 := by
      have : f = 0 ∨ f = 1 ∨ f = 2 ∨ f = 3 := by omega
      rcases this with q | q | q | q <;> subst q <;> omega
    omega
  have hpt : Lg (oPt m p x r f) (hq * gf) := h1.mul h2 (by
    have := Nat.mul_le_mul hh (Nat.le_trans hgg hgvle)
    omega)
  have hptz : zPt c p x r f = oPt m p x r f := by
    unfold zPt oPt
    rw [hc1, hc2]
  have hpg : pG G (f + 1) = pG G f * (G f + 1) := rfl
  have hle3 : m 25 f ≤ 0 ↔ gv = 0 := by
    rw [T_le]
    have t0 : (0 : Int32).toInt = 0 := rfl
    have : (m 25 f).toInt = (gv : Int) := by
      have := h3
      unfold Lg at this
      rw [Int32.toInt_toInt64] at this
      exact this
    omega
  by_cases g0 : gv = 0
  · have hpt0 : oPt m p x r f = 0 := (hpt.ne0).mpr (by
      have : gf = 0 := by omega
      rw [this, Nat.mul_zero])
    have e1 : zO c p x r (f + 1) = zO c p x r f := by
      rw [zO, hc3, if_pos (hle3.mpr g0)]
    have e2 : oS m p x r (f + 1) = oS m p x r f := by
      rw [oS, if_pos hpt0]
    have e3 : pG G (f + 1) = pG G f := by
      rw [hpg, hgv, g0]
      exact Nat.mul_one _
    refine ⟨⟨U, V, A, B, by rw [e1]; exact i1, by rw [e1]; exact i2, by rw [e2]; exact i3, by rw [e2]; exact i4, i5, i6, i7, by rw [e3]; exact i8, by rw [e3]; exact i9, ?_, ?_⟩, fun q => absurd hpt0 q⟩
    · exact Nat.le_trans i10 (Nat.mul_le_mul_right _ (by omega))
    · exact Nat.le_trans i11 (Nat.mul_le_mul_right _ (by omega))
  · have hgp : 0 < gv := by omega
    have hG1 : G f + 1 = gv := by omega
    rw [hG1] at hpg
    have hyd : V * gv ∣ pG G (f + 1) := by rw [hpg]; exact Nat.mul_dvd_mul i8 (Nat.dvd_refl _)
    have hyle : V * gv ≤ 1296864216024001 := Nat.le_trans (Nat.le_of_dvd (pG_pos G _) hyd) hP
    have hptle : hq * gf ≤ 1000 * gv := Nat.mul_le_mul hh hgg
    have hxle : U * gv + hq * gf * V ≤ 1000 * (f + 2) * (V * gv) := by
      have a1 : U * gv ≤ 1000 * (f + 1) * V * gv := Nat.mul_le_mul_right _ i10
      have a2 : hq * gf * V ≤ 1000 * gv * V := Nat.mul_le_mul_right _ hptle
      have a3 : 1000 * (f + 2) * (V * gv) = 1000 * (f + 1) * V * gv + 1000 * gv * V := by
        rw [show 1000 * (f + 2) = 1000 * (f + 1) + 1000 by omega, Nat.add_mul]
        have b1 : 1000 * (f + 1) * (V * gv) = 1000 * (f + 1) * V * gv := by ac_rfl
        have b2 : 1000 * (V * gv) = 1000 * gv * V := by ac_rfl
        rw [b1, b2]
      omega
    have hxb : 1000 * (f + 2) * (V * gv) ≤ 5000 * 1296864216024001 := Nat.mul_le_mul (by omega) hyle
    have L1 : Lg ((zO c p x r f).1 * (c 19 f 3).toInt64) (U * gv) := by
      rw [hc3]
      exact i1.mul h3 (by omega)
    have L2 : Lg (zPt c p x r f * (zO c p x r f).2) (hq * gf * V) := by
      rw [hptz]
      exact hpt.mul i2 (by omega)
    have L3 := L1.add L2 (by omega)
    have L4 : Lg ((zO c p x r f).2 * (c 19 f 3).toInt64) (V * gv) := by
      rw [hc3]
      exact i2.mul h3 (by omega)
    have hy0 : 0 < V * gv := Nat.mul_pos i5 hgp
    obtain ⟨F1, F2⟩ := frS_L L3 L4 hy0
    have e1 : zO c p x r (f + 1) = frS ((zO c p x r f).1 * (c 19 f 3).toInt64 + zPt c p x r f * (zO c p x r f).2) ((zO c p x r f).2 * (c 19 f 3).toInt64) := by
      rw [zO, if_neg (by rw [hc3]; exact fun q => g0 (hle3.mp q))]
    rw [← e1] at F1 F2
    have hgc : 0 < Nat.gcd (U * gv + hq * gf * V) (V * gv) := Nat.gcd_pos_of_pos_right _ hy0
    have d1 := Nat.gcd_dvd_left (U * gv + hq * gf * V) (V * gv)
    have d2 := Nat.gcd_dvd_right (U * gv + hq * gf * V) (V * gv)
    have hV' : 0 < V * gv / Nat.gcd (U * gv + hq * gf * V) (V * gv) := Nat.div_pos (Nat.le_of_dvd hy0 d2) hgc
    have hVd : V * gv / Nat.gcd (U * gv + hq * gf * V) (V * gv) ∣ pG G (f + 1) := Nat.dvd_trans (Nat.div_dvd_of_dvd d2) hyd
    have hUle := div_le_K hgc d1 d2 hxle
    by_cases p0 : hq * gf = 0
    · have hpt0 : oPt m p x r f = 0 := (hpt.ne0).mpr p0
      have e2 : oS m p x r (f + 1) = oS m p x r f := by
        rw [oS, if_pos hpt0]
      refine ⟨⟨_, _, A, B, F1, F2, by rw [e2]; exact i3, by rw [e2]; exact i4, hV', i6, ?_, hVd, ?_, hUle, ?_⟩, fun q => absurd hpt0 q⟩
      · refine cross_div hgc d1 d2 ?_
        rw [p0, Nat.zero_mul, Nat.add_zero]
        calc U * gv * B = U * B * gv := by ac_rfl
          _ = A * V * gv := by rw [i7]
          _ = A * (V * gv) := by ac_rfl
      · rw [hpg]
        exact Nat.dvd_trans i9 (Nat.dvd_mul_right _ _)
      · exact Nat.le_trans i11 (Nat.mul_le_mul_right _ (by omega))
    · have hptn : ¬ oPt m p x r f = 0 := fun q => p0 ((hpt.ne0).mp q)
      obtain ⟨q1, q2⟩ := lgcd_L hpt h3
      have hby : 0 < Nat.gcd (hq * gf) gv := Nat.gcd_pos_of_pos_right _ hgp
      have hov : Lg (oOv m p x r f) (gv / Nat.gcd (hq * gf) gv) := h3.div q2
      obtain ⟨q3, q4⟩ := lgcd_L hov i4
      have hbo : 0 < Nat.gcd (gv / Nat.gcd (hq * gf) gv) B := Nat.gcd_pos_of_pos_right _ i6
      have hst := fr_step (pt := hq * gf) i5 i6 hgp i7
      have hO := hov.div q4
      have hB' := i4.div q4
      have hQ := hpt.div q2
      have hod : gv / Nat.gcd (hq * gf) gv / Nat.gcd (gv / Nat.gcd (hq * gf) gv) B ∣ gv := Nat.dvd_trans (Nat.div_dvd_of_dvd (Nat.gcd_dvd_left _ _)) (Nat.div_dvd_of_dvd (Nat.gcd_dvd_right _ _))
      have hBd : B * (gv / Nat.gcd (hq * gf) gv / Nat.gcd (gv / Nat.gcd (hq * gf) gv) B) ∣ pG G (f + 1) := by
        rw [hpg]
        exact Nat.mul_dvd_mul i9 hod
      have hBle : B * (gv / Nat.gcd (hq * gf) gv / Nat.gcd (gv / Nat.gcd (hq * gf) gv) B) ≤ 1296864216024001 := Nat.le_trans (Nat.le_of_dvd (pG_pos G _) hBd) hP
      have hBp : 0 < B * (gv / Nat.gcd (hq * gf) gv / Nat.gcd (gv / Nat.gcd (hq * gf) gv) B) := by
        refine Nat.mul_pos i6 (Nat.div_pos (Nat.le_of_dvd ?_ (Nat.gcd_dvd_left _ _)) hbo)
        exact Nat.div_pos (Nat.le_of_dvd hgp (Nat.gcd_dvd_right _ _)) hby
      have e2 : oS m p x r (f + 1) = ((oS m p x r f).1 * (oOv m p x r f / lgcd 100 (oOv m p x r f) (oS m p x r f).2) + oPt m p x r f / oBy m p x r f * ((oS m p x r f).2 / lgcd 100 (oOv m p x r f) (oS m p x r f).2), (oS m p x r f).2 * (oOv m p x r f / lgcd 100 (oOv m p x r f) (oS m p x r f).2)) := by
        rw [oS, if_neg hptn]
      generalize hO' : gv / Nat.gcd (hq * gf) gv / Nat.gcd (gv / Nat.gcd (hq * gf) gv) B = O' at *
      generalize hb' : B / Nat.gcd (gv / Nat.gcd (hq * gf) gv) B = b' at *
      generalize hq' : hq * gf / Nat.gcd (hq * gf) gv = q' at *
      have hAle : A * O' + q' * b' ≤ 1000 * (f + 2) * (B * O') := by
        refine Nat.le_of_mul_le_mul_right (c := V * gv) ?_ hy0
        rw [← hst]
        calc (U * gv + hq * gf * V) * (B * O') ≤ 1000 * (f + 2) * (V * gv) * (B * O') := Nat.mul_le_mul_right _ hxle
          _ = 1000 * (f + 2) * (B * O') * (V * gv) := by ac_rfl
      have hAb : 1000 * (f + 2) * (B * O') ≤ 5000 * 1296864216024001 := Nat.mul_le_mul (by omega) hBle
      have M1 := i3.mul hO (by omega)
      have M2 := hQ.mul hB' (by omega)
      have M3 := M1.add M2 (by omega)
      have M4 := i4.mul hO (by omega)
      refine ⟨⟨_, _, A * O' + q' * b', B * O', F1, F2, by rw [e2]; exact M3, by rw [e2]; exact M4, hV', hBp, cross_div hgc d1 d2 hst, hVd, hBd, hUle, hAle⟩, fun _ => ⟨q1, ?_, q3, ?_⟩⟩
      · exact fun z => by
          have := (q2.ne0).mp z
          omega
      · exact fun z => by
          have := (q4.ne0).mp z
          omega
theorem R_owned {p x r k : Int32} (h : Rel n op c m w) : (okOc n c p x r k ↔ okOwn m p x r k) ∧ (okOwn m p x r k → okO m (tn p) (tn x) (tn r) (n 2)) ∧ (okOc n c p x r k → zOwned n c p x r k = oVal m (tn p) (tn x) (tn r) (n 2) k) := by
  obtain ⟨hn, rd, tp, hI, hE, hJ⟩ := id h
  have hrd : rd ≤ 49 := hI.2.2.2.2.2.2.2.1
  have h33 : m 33 0 = nI rd := hI.2.2.2.2.2.2.1
  have hn0 := hn.1
  have hn1 := hn.2.1
  have hn2 := hn.2.2
  have hiff : okOc n c p x r k ↔ okOwn m p x r k := by
    unfold okOc okOwn isR
    rw [hE.1.2.1, kP_is hI, kW_is hI]
  have main : okOc n c p x r k → okO m (tn p) (tn x) (tn r) (n 2) ∧ zOwned n c p x r k = oVal m (tn p) (tn x) (tn r) (n 2) k := by
    intro hok
    obtain ⟨hp, hx, ⟨hr0, hr1⟩, hk⟩ := hok
    obtain ⟨jp, hjp, rfl⟩ := kP_nI hn hp
    obtain ⟨jx, hjx, rfl⟩ := kW_nI hn hx
    rw [hE.1.2.1, h33] at hr1
    obtain ⟨jr, hjr, rfl⟩ := nI_in2 (n := rd + 1) hr0 (Int32.lt_of_le_of_lt hr1 (nI_lt (by omega) (by omega))) (by omega)
    unfold zOwned
    rw [tn_nI (show jp < 20000 by omega), tn_nI (show jx < 20000 by omega), tn_nI (show jr < 20000 by omega)]
    obtain ⟨hJ1, hJ2, hJ3, hJ4, hJ5, hJ6, hJ7, hJ8⟩ := id hJ
    -- holdings
    have hat : ∀ b, b < 28 → c 17 jx (jr * 28 + b) = mHeldAt m b jx jr := fun b hb => by
      rw [hE.2.2.2.2.2.2.2.1 jx hjx jr (by omega) b hb, mHeldAt, h33]
      by_cases e : jr = rd
      · rw [if_pos e, if_pos (by rw [e])]
      · rw [if_neg e, if_neg (fun q => e ((nI_eq (by omega) (by omega)).mp q))]
    have hbd : ∀ b, b < 28 → 0 ≤ (mHeldAt m b jx jr).toInt ∧ (mHeldAt m b jx jr).toInt ≤ 1000 := fun b hb => by
      unfold mHeldAt
      rw [h33]
      by_cases e : jr = rd
      · rw [if_pos (by rw [e])]
        exact held_bd hn hJ hb hjx
      · rw [if_neg (fun q => e ((nI_eq (by omega) (by omega)).mp q))]
        exact ⟨(hJ5 jr (by omega) b hb jx (by omega)).1, (hJ5 jr (by omega) b hb jx (by omega)).2.1⟩
    -- gifts
    have g0 : ∀ q f, q < 24 → f < 4 → 0 ≤ (m 26 (4 * q + f)).toInt := fun q f hq hf => ((hJ7.1 q hq).1 f hf).1
    have gle : ∀ f, f < 4 → (m 26 (4 * jp + f)).toInt ≤ (m 25 f).toInt := fun f hf => by
      rw [hJ7.2 f hf]
      exact sumZ_get (f := fun q => (m 26 (4 * q + f)).toInt) (k := 24) (j := jp) (by omega) (fun i hi => g0 i f hi hf)
    have gnn : ∀ f, f < 4 → 0 ≤ (m 25 f).toInt := fun f hf => Int.le_trans (g0 jp f (by omega) hf) (gle f hf)
    have gsum : (m 25 0).toInt + (m 25 1).toInt + (m 25 2).toInt + (m 25 3).toInt ≤ 24000 := by
      rw [hJ7.2 0 (by decide), hJ7.2 1 (by decide), hJ7.2 2 (by decide), hJ7.2 3 (by decide), sumZ_add, sumZ_add, sumZ_add]
      refine Int.le_trans (sumZ_le (B := 1000) (fun q hq => ?_)) (by decide)
      have a := (hJ7.1 q hq).2
      have e : sumZ (fun f => (m 26 (4 * q + f)).toInt) 4 = (m 26 (4 * q + 0)).toInt + (m 26 (4 * q + 1)).toInt + (m 26 (4 * q + 2)).toInt + (m 26 (4 * q + 3)).toInt := by
        simp only [sumZ]
        omega
      rw [e] at a
      exact a
    have hGs : (fun f => (m 25 f).toInt.toNat - 1) 0 + (fun f => (m 25 f).toInt.toNat - 1) 1 + (fun f => (m 25 f).toInt.toNat - 1) 2 + (fun f => (m 25 f).toInt.toNat - 1) 3 ≤ 24000 := by
      show (m 25 0).toInt.toNat - 1 + ((m 25 1).toInt.toNat - 1) + ((m 25 2).toInt.toNat - 1) + ((m 25 3).toInt.toNat - 1) ≤ 24000
      have := gnn 0 (by decide)
      have := gnn 1 (by decide)
      have := gnn 2 (by decide)
      have := gnn 3 (by decide)
      omega
    have hstep : ∀ f, f ≤ n 2 → oInv c m jp jx jr (fun f => (m 25 f).toInt.toNat - 1) f ∧ ∀ f', f' < f → ¬ oPt m jp jx jr f' = 0 → lgcdE 100 (oPt m jp jx jr f') (m 25 f').toInt64 ∧ ¬ oBy m jp jx jr f' = 0 ∧ lgcdE 100 (oOv m jp jx jr f') (oS m jp jx jr f').2 ∧ ¬ lgcd 100 (oOv m jp jx jr f') (oS m jp jx jr f').2 = 0 := by
      intro f
      induction f with
      | zero =>
        intro _
        have hb := hbd jp (by omega)
        refine ⟨⟨(mHeldAt m jp jx jr).toInt.toNat, 1, (mHeldAt m jp jx jr).toInt.toNat, 1, ?_, rfl, Lg.ofT hb.1, rfl, by decide, by decide, rfl, Nat.dvd_refl _, Nat.dvd_refl _, by omega, by omega⟩, fun f' hf' => by omega⟩
        show Lg (c 17 jx (jr * 28 + jp)).toInt64 _
        rw [hat jp (by omega)]
        exact Lg.ofT hb.1
      | succ f ih =>
        intro hf
        obtain ⟨i1, i2⟩ := ih (by omega)
        have hb := hbd (24 + f) (by omega)
        have gl := gle f (by omega)
        have gn := g0 jp f (by omega) (by omega)
        obtain ⟨s1, s2⟩ := o_step (by omega) hGs (Lg.ofT hb.1) (Lg.ofT gn) (Lg.ofT (gnn f (by omega))) (hat (24 + f) (by omega)) (hE.2.2.2.2.2.2.2.2.2.2 f (by omega) jp (by omega)) (hE.2.2.2.2.2.2.2.2.2.1 f (by omega)).2.2 (by omega) (by omega) (by show (m 25 f).toInt.toNat - 1 + 1 = max 1 (m 25 f).toInt.toNat; omega) i1
        refine ⟨s1, fun f' hf' => ?_⟩
        by_cases e : f' = f
        · rw [e]; exact s2
        · exact i2 f' (by omega)
    obtain ⟨⟨U, V, A, B, i1, i2, i3, i4, i5, i6, i7, i8, i9, i10, i11⟩, hoks⟩ := hstep (n 2) (Nat.le_refl _)
    have hPb := pG_le (G := fun f => (m 25 f).toInt.toNat - 1) hGs (n 2) (by omega)
    have hVle : V ≤ 1296864216024001 := Nat.le_trans (Nat.le_of_dvd (pG_pos _ _) i8) hPb
    have hBle : B ≤ 1296864216024001 := Nat.le_trans (Nat.le_of_dvd (pG_pos _ _) i9) hPb
    have hs := hJ2 jx hjx
    have hsh : Lg (m 17 jx).toInt64 (m 17 jx).toInt.toNat := Lg.ofT (by omega)
    generalize hSH : (m 17 jx).toInt.toNat = SH at *
    have hSb : SH ≤ 1000 ∧ 1 ≤ SH := by omega
    have hVs : V * SH ≤ 1296864216024001 * 1000 := Nat.mul_le_mul hVle hSb.1
    have hBs : B * SH ≤ 1296864216024001 * 1000 := Nat.mul_le_mul hBle hSb.1
    have hLo : Lg (oLo m jp jx jr (n 2)) (B * SH) := i4.mul hsh (by omega)
    have hLc : Lg ((zO c jp jx jr (n 2)).2 * (c 13 jx 0).toInt64) (V * SH) := by
      rw [(hE.2.2.2.1 jx hjx).1]
      exact i2.mul hsh (by omega)
    obtain ⟨z1, z2⟩ := lgcd_L i3 hLo
    have hBp : 0 < B * SH := Nat.mul_pos i6 (by omega)
    have hVp : 0 < V * SH := Nat.mul_pos i5 (by omega)
    have hgp : 0 < Nat.gcd A (B * SH) := Nat.gcd_pos_of_pos_right _ hBp
    obtain ⟨F1, F2⟩ := frS_L i1 hLc hVp
    have hcr : U * (B * SH) = A * (V * SH) := by
      calc U * (B * SH) = U * B * SH := by ac_rfl
        _ = A * V * SH := by rw [i7]
        _ = A * (V * SH) := by ac_rfl
    obtain ⟨s1, s2⟩ := fr_same hVp hBp hcr
    refine ⟨⟨hoks, z1, fun q => by have := (z2.ne0).mp q; omega⟩, ?_⟩
    unfold zPart oVal
    by_cases hk0 : k = 0
    · rw [if_pos hk0, if_pos hk0]
      refine Lg.eq F1 ?_
      rw [s1]
      exact i3.div z2
    · rw [if_neg hk0, if_neg hk0]
      refine Lg.eq F2 ?_
      rw [s2]
      exact hLo.div z2
  exact ⟨hiff, fun q => (main (hiff.mpr q)).1, fun q => (main q).2⟩
end OWN2

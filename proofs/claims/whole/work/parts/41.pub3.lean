def comD (D : Dk) (x : Int) : Int := sumI (fun i => if D 9 i = x then D 8 i else 0) (D 0 9)
theorem L_comes {d : Nat} {h : zH} {D : Dk} {x : Int} (V : DV D) (R : DC h 15 D) : ∀ (n : Nat) (e : Int), 0 ≤ e → e + n = D 0 9 → zS mX0_incomeOn_ (zr d) 5 [zA 15, zI x, zI (zShl 1 (D 0 9) - 1), zI (sumI (fun i => if D 9 i = x then D 8 i else 0) e), zI e] [] TT h (zOne (comD D x) h) := by
  intro n
  induction n with
  | zero =>
    intro e a1 a2
    have nl := V.nl
    refine zS_iload (zdec eX0_incomeOn_ 4 rfl) rfl ?_
    refine zS_aload_n (zdec eX0_incomeOn_ 5 rfl) rfl rfl ?_
    refine zS_getfieldE (x := 9) (v := (D 0 9)) (zdec eX0_incomeOn_ 6 rfl) kF_X0_57 ⟨by decide, rfl⟩ rfl rfl rfl (R.s (by decide) (by decide)) ?_
    refine zS_icmp_ge (tgt := 51) (zdec eX0_incomeOn_ 7 rfl) rfl (fun cz => ?_) (fun cz => absurd (by omega) cz)
    refine zS_iload_n (zdec eX0_incomeOn_ 30 rfl) rfl ?_
    exact zlI (zdec eX0_incomeOn_ 31 rfl) rfl (by unfold comD; rw [show e = D 0 9 by omega])
  | succ n ih =>
    intro e a1 a2
    have nl := V.nl
    have am := V.ln (show 0 ≤ e by omega) (show e < D 0 9 by omega)
    have s0 := sumI_nn (f := (fun i => if D 9 i = x then D 8 i else 0)) (k := e) (fun j j0 j1 => by have := V.ln j0 (show j < D 0 9 by omega); split <;> omega)
    have s1 := sumI_le (f := (fun i => if D 9 i = x then D 8 i else 0)) (k := e) (B := 3000) a1 (fun j j0 j1 => by have := V.ln j0 (show j < D 0 9 by omega); split <;> omega)
    refine zS_iload (zdec eX0_incomeOn_ 4 rfl) rfl ?_
    refine zS_aload_n (zdec eX0_incomeOn_ 5 rfl) rfl rfl ?_
    refine zS_getfieldE (x := 9) (v := (D 0 9)) (zdec eX0_incomeOn_ 6 rfl) kF_X0_57 ⟨by decide, rfl⟩ rfl rfl rfl (R.s (by decide) (by decide)) ?_
    refine zS_icmp_ge (tgt := 51) (zdec eX0_incomeOn_ 7 rfl) rfl (fun cz => absurd cz (by omega)) (fun cz => ?_)
    refine zS_aload_n (zdec eX0_incomeOn_ 8 rfl) rfl rfl ?_
    refine zS_getref (i := 28) (zdec eX0_incomeOn_ 9 rfl) kF_X0_23 ⟨by decide, rfl⟩ rfl rfl rfl rfl rfl ?_
    refine zS_iload (zdec eX0_incomeOn_ 10 rfl) rfl ?_
    refine zS_ialoadE (v := (D 9 e)) (zdec eX0_incomeOn_ 11 rfl) ⟨by decide, rfl⟩ (by omega) (by omega) (R.on' (by omega) (by omega) (by omega)) ?_
    refine zS_iload_n (zdec eX0_incomeOn_ 12 rfl) rfl ?_
    refine zS_icmp_ne (tgt := 45) (zdec eX0_incomeOn_ 13 rfl) rfl (fun c1 => ?_) (fun c1 => ?_)
    · refine zS_iinc (zdec eX0_incomeOn_ 28 rfl) rfl rfl ⟨by omega, by omega⟩ ?_
      refine zS_goto (tgt := 5) (zdec eX0_incomeOn_ 29 rfl) rfl ?_
      have k := ih (e + 1) (by omega) (by omega)
      rw [sumI_s _ (by omega)] at k
      rw [if_neg c1, Int.add_zero] at k
      exact k
    · refine zS_iload_n (zdec eX0_incomeOn_ 14 rfl) rfl ?_
      refine zS_iload (zdec eX0_incomeOn_ 15 rfl) rfl ?_
      refine zS_ishr (zdec eX0_incomeOn_ 16 rfl) ?_
      refine zS_iconst (zdec eX0_incomeOn_ 17 rfl) rfl ?_
      refine zS_iand (zdec eX0_incomeOn_ 18 rfl) ?_
      refine zS_iconst (zdec eX0_incomeOn_ 19 rfl) rfl ?_
      refine zS_icmp_ne (tgt := 45) (zdec eX0_incomeOn_ 20 rfl) rfl (fun c2 => ?_) (fun c2 => ?_)
      · refine zS_iinc (zdec eX0_incomeOn_ 28 rfl) rfl rfl ⟨by omega, by omega⟩ ?_
        refine zS_goto (tgt := 5) (zdec eX0_incomeOn_ 29 rfl) rfl ?_
        exact absurd (bitB_t.mp (all_bit nl.1 nl.2 a1 (show e < D 0 9 by omega))) c2
      · refine zS_iload_n (zdec eX0_incomeOn_ 21 rfl) rfl ?_
        refine zS_aload_n (zdec eX0_incomeOn_ 22 rfl) rfl rfl ?_
        refine zS_getref (i := 27) (zdec eX0_incomeOn_ 23 rfl) kF_X0_20 ⟨by decide, rfl⟩ rfl rfl rfl rfl rfl ?_
        refine zS_iload (zdec eX0_incomeOn_ 24 rfl) rfl ?_
        refine zS_ialoadE (v := (D 8 e)) (zdec eX0_incomeOn_ 25 rfl) ⟨by decide, rfl⟩ (by omega) (by omega) (R.amt (by omega) (by omega) (by omega)) ?_
        refine zS_iadd (zdec eX0_incomeOn_ 26 rfl) ⟨by omega, by omega⟩ ?_
        refine zS_istore_n (zdec eX0_incomeOn_ 27 rfl) rfl ?_
        refine zS_iinc (zdec eX0_incomeOn_ 28 rfl) rfl rfl ⟨by omega, by omega⟩ ?_
        refine zS_goto (tgt := 5) (zdec eX0_incomeOn_ 29 rfl) rfl ?_
        have k := ih (e + 1) (by omega) (by omega)
        rw [sumI_s _ (by omega)] at k
        rw [if_pos (by omega)] at k
        exact k
theorem c_comes2 {d : Nat} {h : zH} {D : Dk} {x : Int} (V : DV D) (R : DC h 15 D) : zPI d mX0_incomeOn_ [zA 15, zI x, zI (zShl 1 (D 0 9) - 1)] h (comD D x) := by
  have nl := V.nl
  refine zmet rfl rfl rfl ?_
  refine zS_iconst (zdec eX0_incomeOn_ 0 rfl) rfl ?_
  refine zS_istore_n (zdec eX0_incomeOn_ 1 rfl) rfl ?_
  refine zS_iconst (zdec eX0_incomeOn_ 2 rfl) rfl ?_
  refine zS_istore (zdec eX0_incomeOn_ 3 rfl) rfl ?_
  exact L_comes V R (D 0 9).toNat 0 (by omega) (by omega)
theorem c_comes1 {d : Nat} {h : zH} {D : Dk} {x : Int} (hd : 1 ≤ d) (V : DV D) (R : DC h 15 D) : zPI d mX0_incomeOn [zA 15, zI x] h (comD D x) := by
  have nl := V.nl
  have ar := all_rng (k := D 0 9) nl.1 nl.2
  refine zmet rfl rfl rfl ?_
  refine zS_aload_n (zdec eX0_incomeOn 0 rfl) rfl rfl ?_
  refine zS_iload_n (zdec eX0_incomeOn 1 rfl) rfl ?_
  refine zS_iconst (zdec eX0_incomeOn 2 rfl) rfl ?_
  refine zS_aload_n (zdec eX0_incomeOn 3 rfl) rfl rfl ?_
  refine zS_getfieldE (x := 9) (v := (D 0 9)) (zdec eX0_incomeOn 4 rfl) kF_X0_57 ⟨by decide, rfl⟩ rfl rfl rfl (R.s (by decide) (by decide)) ?_
  refine zS_ishl (zdec eX0_incomeOn 5 rfl) ?_
  refine zS_iconst (zdec eX0_incomeOn 6 rfl) rfl ?_
  refine zS_isub (zdec eX0_incomeOn 7 rfl) ⟨by omega, by omega⟩ ?_
  refine zvI (M' := mX0_incomeOn_) (As := [zI x, zI ((zShl 1 (D 0 9)) - 1)]) (st := []) (zdec eX0_incomeOn 8 rfl) kM_X0_73 kV_X0_incomeOn_ ⟨by decide, rfl⟩ rfl rfl rfl rfl rfl (by omega) (c_comes2 V R) ?_
  exact zlI (zdec eX0_incomeOn 9 rfl) rfl rfl
noncomputable def a_comes (D : Dk) (x : Int) : Int := if 0 ≤ x ∧ x < D 0 1 then comD D x else -2
theorem p_comes {d : Nat} {h : zH} {D : Dk} {x : Int} (hd : 20 ≤ d) (VD : DV D) (RD : DC h 15 D) : zMI d mX9_comes [zA 0, zI x] h (fun r h' => r = a_comes D x ∧ Fr sQ h h') := by
  obtain ⟨p, hp⟩ : ∃ p, pb0 D = p := ⟨_, rfl⟩
  obtain ⟨q, hq⟩ : ∃ q, planP p = q := ⟨_, rfl⟩
  have pd : pDays p = D 0 1 := by rw [← hp]; rfl
  have pn : pNb p = D 0 8 := by rw [← hp]; rfl
  have dy := VD.days
  have nb := VD.nb
  have ns := VD.ns
  have nl := VD.nl
  have na := VD.na
  have vfl := VD.fl
  have vfe := VD.fee
  refine zmet rfl rfl rfl ?_
  refine zS_aload_n (zdec eX9_comes 0 rfl) rfl rfl ?_
  refine zS_iload_n (zdec eX9_comes 1 rfl) rfl ?_
  refine zvI (M' := mX9_isDay) (As := [zI x]) (st := []) (zdec eX9_comes 2 rfl) kM_X9_137 kV_X9_isDay ⟨by decide, rfl⟩ rfl rfl rfl rfl rfl (by omega) (c_isDay RD) ?_
  refine zS_if_eq (tgt := 19) (zdec eX9_comes 3 rfl) rfl (fun c1 => ?_) (fun c1 => ?_)
  · have z1 := d2i_0.mp c1
    refine zS_bipush (zdec eX9_comes 9 rfl) rfl rfl ?_
    exact zlMI (zdec eX9_comes 10 rfl) rfl ⟨by unfold a_comes; (try rw [hp]); (try rw [hq]); first | rw [if_pos (by omega)] | rw [if_neg (by omega)], Fr.rf⟩
  · have z1 := d2i_n.mp c1
    refine zS_aload_n (zdec eX9_comes 4 rfl) rfl rfl ?_
    refine zS_getref (i := 2) (zdec eX9_comes 5 rfl) kF_X9_27 ⟨by decide, rfl⟩ rfl rfl rfl rfl rfl ?_
    refine zS_iload_n (zdec eX9_comes 6 rfl) rfl ?_
    refine zvI (M' := mX0_incomeOn) (As := [zI x]) (st := []) (zdec eX9_comes 7 rfl) kM_X9_140 kV_X0_incomeOn ⟨by decide, rfl⟩ rfl rfl rfl rfl rfl (by omega) (c_comes1 (by omega) VD RD) ?_
    refine zS_goto (tgt := 21) (zdec eX9_comes 8 rfl) rfl ?_
    exact zlMI (zdec eX9_comes 10 rfl) rfl ⟨by unfold a_comes; (try rw [hp]); (try rw [hq]); first | rw [if_pos (by omega)] | rw [if_neg (by omega)], Fr.rf⟩
def partP (a b w : Int) : Int := (if w = 0 then a else b).tdiv (Int.gcd a b)
theorem zCmp0 {a : Int} : zCmp a 0 = 0 ↔ a = 0 := by unfold zCmp; split <;> (try split) <;> omega
def gcC (n x y : Nat) : Prop := (y ≤ x ∧ x * y < 2 ^ n) ∨ (x < y ∧ 1 ≤ n ∧ 2 * (x * y) < 2 ^ n)
theorem gcC_s {n x y : Nat} (h : gcC (n + 1) x y) (hy : y ≠ 0) : gcC n y (x % y) := by
  have hr := Nat.mod_lt x (show 0 < y by omega)
  rcases h with ⟨h1, h2⟩ | ⟨h1, _, h2⟩
  · refine Or.inl ⟨by omega, ?_⟩
    have e := Nat.div_add_mod x y
    have q : 1 ≤ x / y := (Nat.le_div_iff_mul_le (by omega)).mpr (by omega)
    have m1 : y * 1 ≤ y * (x / y) := Nat.mul_le_mul_left y q
    have m2 : 2 * (x % y) < x := by omega
    have m3 : y * (2 * (x % y)) < y * x := Nat.mul_lt_mul_of_pos_left m2 (by omega)
    rw [Nat.pow_succ, Nat.mul_comm x] at h2
    have m4 : y * (2 * (x % y)) = 2 * (y * (x % y)) := by rw [Nat.mul_left_comm]
    omega
  · refine Or.inl ⟨by omega, ?_⟩
    rw [Nat.mod_eq_of_lt h1, Nat.mul_comm]
    rw [Nat.pow_succ] at h2
    omega
theorem gcC_0 {x y : Nat} (h : gcC 0 x y) : y = 0 := by
  rcases h with ⟨h1, h2⟩ | ⟨h1, h3, h2⟩
  · rw [Nat.pow_zero] at h2
    rcases Nat.eq_zero_or_pos y with z | z
    · exact z
    · have := Nat.mul_pos (show 0 < x by omega) z
      omega
  · omega
theorem gcd_step {x y : Nat} : Nat.gcd y (x % y) = Nat.gcd x y := by rw [Nat.gcd_comm y, ← Nat.gcd_rec, Nat.gcd_comm]

theorem L_gcd {d : Nat} {h : zH} {a b : Int} {g : Nat} (hd : 1 ≤ d) (g0 : 1 ≤ g) : ∀ (n : Nat) (e : Int) (x y : Nat), 0 ≤ e → e + n = 200 → gcC (200 - e.toNat) x y → Nat.gcd x y = g → (x : Int) < 2 ^ 50 → (y : Int) < 2 ^ 50 → zS mX9_commonDivisor (zr d) 9 [zJ a, zN, zJ b, zN, zJ (x : Int), zN, zJ (y : Int), zN, zI e, zN, zN] [] TT h (zOnJ (g : Int) h) := by
  intro n
  induction n with
  | zero =>
    intro e x y a1 a2 ic ig xb yb
    rw [show 200 - e.toNat = 0 by omega] at ic
    refine zS_iload (zdec eX9_commonDivisor 6 rfl) rfl ?_
    refine zS_sipush (zdec eX9_commonDivisor 7 rfl) rfl rfl ?_
    refine zS_icmp_ge (tgt := 45) (zdec eX9_commonDivisor 8 rfl) rfl (fun cz => ?_) (fun cz => absurd (by omega) cz)
    refine zS_lconst (zdec eX9_commonDivisor 23 rfl) ?_
    refine zS_lload (zdec eX9_commonDivisor 24 rfl) rfl ?_
    refine zS_maxJ (zdec eX9_commonDivisor 25 rfl) kM_X9_446 rfl (by omega) ?_
    have y0 : y = 0 := by first | (have := zCmp0.mp c1; omega) | exact gcC_0 ic
    subst y0
    rw [Nat.gcd_zero_right] at ig
    exact zlJ (zdec eX9_commonDivisor 26 rfl) rfl (by omega)
  | succ n ih =>
    intro e x y a1 a2 ic ig xb yb
    refine zS_iload (zdec eX9_commonDivisor 6 rfl) rfl ?_
    refine zS_sipush (zdec eX9_commonDivisor 7 rfl) rfl rfl ?_
    refine zS_icmp_ge (tgt := 45) (zdec eX9_commonDivisor 8 rfl) rfl (fun cz => absurd cz (by omega)) (fun cz => ?_)
    refine zS_lload (zdec eX9_commonDivisor 9 rfl) rfl ?_
    refine zS_lconst (zdec eX9_commonDivisor 10 rfl) ?_
    refine zS_lcmp (zdec eX9_commonDivisor 11 rfl) ?_
    refine zS_if_eq (tgt := 45) (zdec eX9_commonDivisor 12 rfl) rfl (fun c1 => ?_) (fun c1 => ?_)
    · refine zS_lconst (zdec eX9_commonDivisor 23 rfl) ?_
      refine zS_lload (zdec eX9_commonDivisor 24 rfl) rfl ?_
      refine zS_maxJ (zdec eX9_commonDivisor 25 rfl) kM_X9_446 rfl (by omega) ?_
      have y0 : y = 0 := by first | (have := zCmp0.mp c1; omega) | exact gcC_0 ic
      subst y0
      rw [Nat.gcd_zero_right] at ig
      exact zlJ (zdec eX9_commonDivisor 26 rfl) rfl (by omega)
    · refine zS_lload (zdec eX9_commonDivisor 13 rfl) rfl ?_
      refine zS_lload (zdec eX9_commonDivisor 14 rfl) rfl ?_
      refine zS_lrem (zdec eX9_commonDivisor 15 rfl) (fun w => c1 (zCmp0.mpr w)) (fun q => by omega) ?_
      refine zS_lstore (zdec eX9_commonDivisor 16 rfl) rfl ?_
      refine zS_lload (zdec eX9_commonDivisor 17 rfl) rfl ?_
      refine zS_lstore (zdec eX9_commonDivisor 18 rfl) rfl ?_
      refine zS_lload (zdec eX9_commonDivisor 19 rfl) rfl ?_
      refine zS_lstore (zdec eX9_commonDivisor 20 rfl) rfl ?_
      refine zS_iinc (zdec eX9_commonDivisor 21 rfl) rfl rfl ⟨by omega, by omega⟩ ?_
      refine zS_goto (tgt := 9) (zdec eX9_commonDivisor 22 rfl) rfl ?_
      refine zS_forget (i := 9) ?_
      have yn : y ≠ 0 := fun w => c1 (zCmp0.mpr (by omega))
      exact ih (e + 1) y (x % y) (by omega) (by omega) (gcC_s (by rw [show 200 - e.toNat = 200 - (e + 1).toNat + 1 by omega] at ic; exact ic) yn) (by rw [gcd_step]; exact ig) (by omega) (by have := Nat.mod_lt x (show 0 < y by omega); omega)
theorem c_gcd {d : Nat} {h : zH} {x y : Nat} (hd : 1 ≤ d) (x1 : x < 2 ^ 45) (y0 : 1 ≤ y) (y1 : y < 2 ^ 40) : zPJ d mX9_commonDivisor [zJ (x : Int), zJ (y : Int)] h ((Nat.gcd x y : Nat) : Int) := by
  have gp : 1 ≤ Nat.gcd x y := Nat.gcd_pos_of_pos_right x (by omega)
  have m1 : x * y ≤ 2 ^ 45 * 2 ^ 40 := Nat.mul_le_mul (by omega) (by omega)
  have t2 : (2 : Nat) ^ 45 * 2 ^ 40 * 2 < 2 ^ 200 := by decide
  have cc : gcC 200 x y := by unfold gcC; rcases Nat.lt_or_ge x y with z | z <;> omega
  refine zmet rfl rfl rfl ?_
  refine zS_lload_n (zdec eX9_commonDivisor 0 rfl) rfl ?_
  refine zS_lstore (zdec eX9_commonDivisor 1 rfl) rfl ?_
  refine zS_lload_n (zdec eX9_commonDivisor 2 rfl) rfl ?_
  refine zS_lstore (zdec eX9_commonDivisor 3 rfl) rfl ?_
  refine zS_iconst (zdec eX9_commonDivisor 4 rfl) rfl ?_
  refine zS_istore (zdec eX9_commonDivisor 5 rfl) rfl ?_
  exact L_gcd (by omega) gp 200 0 x y (by omega) (by omega) cc rfl (by omega) (by omega)

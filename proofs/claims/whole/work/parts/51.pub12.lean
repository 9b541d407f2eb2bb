theorem L_gainOf {d : Nat} {h : zH} {D : Dk} {p : Pb} {q : Int → Int} {s : Int} (hd : 3 ≤ d) (V : PV p) (R : WC h p) (S : PlC h p q) (q0 : ∀ b, 0 ≤ q b) (q1 : ∀ b, q b ≤ pDays p) (pn : pNb p = D 0 8) (RD : DC h 15 D) : ∀ (n : Nat) (e : Int), 0 ≤ e → e + n = D 0 8 → zS mX1_gainOf (zr d) 9 [zA 104, zA 14, zI s, zI (toP p q s - sumI (fun c => if D (3 + c) 0 = s then 10 * q c else 0) e), zI e] [] TT h (zOne (gnL D p q s) h) := by
  intro n
  induction n with
  | zero =>
    intro e a1 a2
    have nb := V.nb
    have dy := V.days
    refine zS_iload (zdec eX1_gainOf 6 rfl) rfl ?_
    refine zS_aload_n (zdec eX1_gainOf 7 rfl) rfl rfl ?_
    refine zS_getref (i := 18) (zdec eX1_gainOf 8 rfl) kF_X1_23 ⟨by decide, rfl⟩ rfl rfl rfl rfl rfl ?_
    refine zS_getfieldE (x := 8) (v := (D 0 8)) (zdec eX1_gainOf 9 rfl) kF_X1_27 ⟨by decide, rfl⟩ rfl rfl rfl (RD.s (by decide) (by decide)) ?_
    refine zS_icmp_ge (tgt := 59) (zdec eX1_gainOf 10 rfl) rfl (fun cz => ?_) (fun cz => absurd (by omega) cz)
    refine zS_iload_n (zdec eX1_gainOf 32 rfl) rfl ?_
    exact zlI (zdec eX1_gainOf 33 rfl) rfl (by unfold gnL; rw [show D 0 8 = e by omega])
  | succ n ih =>
    intro e a1 a2
    have nb := V.nb
    have dy := V.days
    have qe0 := q0 e
    have qe1 := q1 e
    have s0 := sumI_nn (f := (fun c => if D (3 + c) 0 = s then 10 * q c else 0)) (k := e) (fun j j0 j1 => by have := q0 j; split <;> omega)
    have s1 := sumI_le (f := (fun c => if D (3 + c) 0 = s then 10 * q c else 0)) (k := e) (B := 70) a1 (fun j j0 j1 => by have := q0 j; have := q1 j; split <;> omega)
    have tb := toB V (q := q) (fun b => by have := q1 b; omega) s (k := pNb p) nb.1 (by omega)
    have td : toP p q s = sumI (fun b => if pOf p b = s ∧ q b < pDays p then priceP p b (q b) else 0) (pNb p) := rfl
    refine zS_iload (zdec eX1_gainOf 6 rfl) rfl ?_
    refine zS_aload_n (zdec eX1_gainOf 7 rfl) rfl rfl ?_
    refine zS_getref (i := 18) (zdec eX1_gainOf 8 rfl) kF_X1_23 ⟨by decide, rfl⟩ rfl rfl rfl rfl rfl ?_
    refine zS_getfieldE (x := 8) (v := (D 0 8)) (zdec eX1_gainOf 9 rfl) kF_X1_27 ⟨by decide, rfl⟩ rfl rfl rfl (RD.s (by decide) (by decide)) ?_
    refine zS_icmp_ge (tgt := 59) (zdec eX1_gainOf 10 rfl) rfl (fun cz => absurd cz (by omega)) (fun cz => ?_)
    refine zS_iload_n (zdec eX1_gainOf 11 rfl) rfl ?_
    refine zS_aload_n (zdec eX1_gainOf 12 rfl) rfl rfl ?_
    refine zS_getref (i := 18) (zdec eX1_gainOf 13 rfl) kF_X1_23 ⟨by decide, rfl⟩ rfl rfl rfl rfl rfl ?_
    refine zS_getref (i := 26) (zdec eX1_gainOf 14 rfl) kF_X1_33 ⟨by decide, rfl⟩ rfl rfl rfl rfl rfl ?_
    refine zS_iload (zdec eX1_gainOf 15 rfl) rfl ?_
    refine zS_aaload1 (i := 1) (zdec eX1_gainOf 16 rfl) (Or.inr (Or.inl rfl)) ⟨by decide, rfl⟩ rfl rfl rfl (by omega) (by omega) ?_
    refine zS_iconst (zdec eX1_gainOf 17 rfl) rfl ?_
    refine zS_ialoadE (v := (D (3 + e) 0)) (zdec eX1_gainOf 18 rfl) (zrow_18 (by omega) (by omega)) (by decide) (by decide) (RD.row (by omega) (by omega) (by omega) (by decide) (by decide)) ?_
    refine zS_iload_n (zdec eX1_gainOf 19 rfl) rfl ?_
    refine zS_icmp_ne (tgt := 50) (zdec eX1_gainOf 20 rfl) rfl (fun c1 => ?_) (fun c1 => ?_)
    · refine zS_iconst (zdec eX1_gainOf 27 rfl) rfl ?_
      refine zS_isub (zdec eX1_gainOf 28 rfl) ⟨by omega, by omega⟩ ?_
      refine zS_istore_n (zdec eX1_gainOf 29 rfl) rfl ?_
      refine zS_iinc (zdec eX1_gainOf 30 rfl) rfl rfl ⟨by omega, by omega⟩ ?_
      refine zS_goto (tgt := 9) (zdec eX1_gainOf 31 rfl) rfl ?_
      have k := ih (e + 1) (by omega) (by omega)
      rw [sumI_s _ (by omega)] at k
      rw [if_neg c1, Int.add_zero] at k
      rw [Int.sub_zero]
      exact k
    · refine zS_bipush (zdec eX1_gainOf 21 rfl) rfl rfl ?_
      refine zS_aload_n (zdec eX1_gainOf 22 rfl) rfl rfl ?_
      refine zS_iload (zdec eX1_gainOf 23 rfl) rfl ?_
      refine zvI (M' := mX8_dayOrLast) (As := [zI e]) (st := [zI 10, zI (toP p q s - sumI (fun c => if D (3 + c) 0 = s then 10 * q c else 0) e)]) (zdec eX1_gainOf 24 rfl) kM_X1_47 kV_X8_dayOrLast ⟨by decide, rfl⟩ rfl rfl rfl rfl rfl (by omega) (c_dayOrLast (by omega) V R (by omega) (by omega) S q0 q1) ?_
      refine zS_imul (zdec eX1_gainOf 25 rfl) ⟨by omega, by omega⟩ ?_
      refine zS_goto (tgt := 51) (zdec eX1_gainOf 26 rfl) rfl ?_
      refine zS_isub (zdec eX1_gainOf 28 rfl) ⟨by omega, by omega⟩ ?_
      refine zS_istore_n (zdec eX1_gainOf 29 rfl) rfl ?_
      refine zS_iinc (zdec eX1_gainOf 30 rfl) rfl rfl ⟨by omega, by omega⟩ ?_
      refine zS_goto (tgt := 9) (zdec eX1_gainOf 31 rfl) rfl ?_
      have k := ih (e + 1) (by omega) (by omega)
      rw [sumI_s _ (by omega)] at k
      rw [if_pos (by omega)] at k
      rw [show toP p q s - sumI (fun c => if D (3 + c) 0 = s then 10 * q c else 0) e - 10 * q e = toP p q s - (sumI (fun c => if D (3 + c) 0 = s then 10 * q c else 0) e + 10 * q e) by omega]
      exact k
theorem c_gainOf {d : Nat} {h : zH} {D : Dk} {p : Pb} {q : Int → Int} {s : Int} (hd : 3 ≤ d) (V : PV p) (R : WC h p) (S : PlC h p q) (q0 : ∀ b, 0 ≤ q b) (q1 : ∀ b, q b ≤ pDays p) (pn : pNb p = D 0 8) (RD : DC h 15 D) : zPI d mX1_gainOf [zA 104, zA 14, zI s] h (gnL D p q s) := by
  have nb := V.nb
  refine zmet rfl rfl rfl ?_
  refine zS_aload_n (zdec eX1_gainOf 0 rfl) rfl rfl ?_
  refine zS_iload_n (zdec eX1_gainOf 1 rfl) rfl ?_
  refine zvI (M' := mX8_paidTo) (As := [zI s]) (st := []) (zdec eX1_gainOf 2 rfl) kM_X1_43 kV_X8_paidTo ⟨by decide, rfl⟩ rfl rfl rfl rfl rfl (by omega) (c_paidTo (by omega) V R S q0 q1) ?_
  refine zS_istore_n (zdec eX1_gainOf 3 rfl) rfl ?_
  refine zS_iconst (zdec eX1_gainOf 4 rfl) rfl ?_
  refine zS_istore (zdec eX1_gainOf 5 rfl) rfl ?_
  have k := L_gainOf (s := s) hd V R S q0 q1 pn RD (D 0 8).toNat 0 (by omega) (by omega)
  rw [sumI_0 _ (by omega), Int.sub_zero] at k
  exact k
noncomputable def gnG (D : Dk) (a b x y s : Int) : Int := gnL D (gmX D a b x y) (planP (gmX D a b x y)) s
theorem c_gainL {d : Nat} {h : zH} {D : Dk} {a b x y s : Int} (hd : 3 ≤ d) (V : PV (gmX D a b x y)) (L : Ln h (gmX D a b x y)) (RD : DC h 15 D) : zPI d mX1_gainOf [zA 104, zA 14, zI s] h (gnG D a b x y s) := c_gainOf hd V L.1 L.2.1 (fun c => (planP_rng V c).1) (fun c => (planP_rng V c).2) rfl RD
theorem prA {x y : Int} (hx : x = 0 ∨ x = 1) (hy : y = 0 ∨ y = 1) : (zAnd (x + 2 * y) 1 ≠ 0 ↔ x = 1) ∧ (zAnd (x + 2 * y) 2 ≠ 0 ↔ y = 1) := by
  rcases hx with rfl | rfl <;> rcases hy with rfl | rfl <;> decide
theorem prK {k : Int} (h0 : 0 ≤ k) (h1 : k < 4) : (zAnd k 1 ≠ 0 ↔ k % 2 = 1) ∧ (zAnd k 2 ≠ 0 ↔ k / 2 = 1) ∧ (0 ≤ zXor k 1 ∧ zXor k 1 < 4) ∧ (0 ≤ zXor k 2 ∧ zXor k 2 < 4) := by
  rcases (show k = 0 ∨ k = 1 ∨ k = 2 ∨ k = 3 by omega) with rfl | rfl | rfl | rfl <;> decide
noncomputable def a_has (D : Dk) (a b x y : Int) : Int := if ((0 ≤ a ∧ a < D 0 7) ∧ (0 ≤ b ∧ b < D 0 7) ∧ a ≠ b) ∧ (x = 0 ∨ x = 1) ∧ (y = 0 ∨ y = 1) then gnG D a b x y a else -100000
theorem p_has {d : Nat} {h : zH} {D : Dk} {a b x y : Int} (hd : 20 ≤ d) (VD : DV D) (RD : DC h 15 D) : zMI d mX9_has [zA 0, zI a, zI b, zI x, zI y] h (fun r h' => r = a_has D a b x y ∧ Fr sQ h h') := by
  obtain ⟨p, hp⟩ : ∃ p, pb0 D = p := ⟨_, rfl⟩
  obtain ⟨q, hq⟩ : ∃ q, planP p = q := ⟨_, rfl⟩
  have pd : pDays p = D 0 1 := by rw [← hp]; rfl
  have pn : pNb p = D 0 8 := by rw [← hp]; rfl
  have dy := VD.days
  have nb := VD.nb
  have ns := VD.ns
  have nl := VD.nl
  have na := VD.na
  have vfl := VD.fl
  have vfe := VD.fee
  refine zmet rfl rfl rfl ?_
  refine zS_aload_n (zdec eX9_has 0 rfl) rfl rfl ?_
  refine zS_iload_n (zdec eX9_has 1 rfl) rfl ?_
  refine zS_iload_n (zdec eX9_has 2 rfl) rfl ?_
  refine zvI (M' := mX9_arePlayers) (As := [zI a, zI b]) (st := []) (zdec eX9_has 3 rfl) kM_X9_328 kV_X9_arePlayers ⟨by decide, rfl⟩ rfl rfl rfl rfl rfl (by omega) (c_arePl (by omega) RD) ?_
  refine zS_if_eq (tgt := 24) (zdec eX9_has 4 rfl) rfl (fun c1 => ?_) (fun c1 => ?_)
  · have z1 := d2i_0.mp c1
    refine zS_ldc (zdec eX9_has 11 rfl) kc_X9_189 rfl ?_
    exact zlMI (zdec eX9_has 12 rfl) rfl ⟨by unfold a_has; rw [if_neg (by omega)], Fr.rf⟩
  · have z1 := d2i_n.mp c1
    refine zS_iload_n (zdec eX9_has 5 rfl) rfl ?_
    refine zsI (M' := mX9_isChoice) (As := [zI x]) (st := []) (zdec eX9_has 6 rfl) kM_X9_336 kS_X9_isChoice rfl rfl rfl (by omega) (c_isChoice) ?_
    refine zS_if_eq (tgt := 24) (zdec eX9_has 7 rfl) rfl (fun c2 => ?_) (fun c2 => ?_)
    · have z2 := d2i_0.mp c2
      refine zS_ldc (zdec eX9_has 11 rfl) kc_X9_189 rfl ?_
      exact zlMI (zdec eX9_has 12 rfl) rfl ⟨by unfold a_has; rw [if_neg (by omega)], Fr.rf⟩
    · have z2 := d2i_n.mp c2
      refine zS_iload (zdec eX9_has 8 rfl) rfl ?_
      refine zsI (M' := mX9_isChoice) (As := [zI y]) (st := []) (zdec eX9_has 9 rfl) kM_X9_336 kS_X9_isChoice rfl rfl rfl (by omega) (c_isChoice) ?_
      refine zS_if_ne (tgt := 27) (zdec eX9_has 10 rfl) rfl (fun c3 => ?_) (fun c3 => ?_)
      · have z3 := d2i_n.mp c3
        refine zS_aload_n (zdec eX9_has 13 rfl) rfl rfl ?_
        refine zS_getref (i := 9) (zdec eX9_has 14 rfl) kF_X9_70 ⟨by decide, rfl⟩ rfl rfl rfl rfl rfl ?_
        refine zS_aload_n (zdec eX9_has 15 rfl) rfl rfl ?_
        refine zS_getref (i := 1) (zdec eX9_has 16 rfl) kF_X9_19 ⟨by decide, rfl⟩ rfl rfl rfl rfl rfl ?_
        refine zS_iload_n (zdec eX9_has 17 rfl) rfl ?_
        refine zS_iload_n (zdec eX9_has 18 rfl) rfl ?_
        refine zS_iload_n (zdec eX9_has 19 rfl) rfl ?_
        refine zS_iconst (zdec eX9_has 20 rfl) rfl ?_
        refine zS_iload (zdec eX9_has 21 rfl) rfl ?_
        refine zS_imul (zdec eX9_has 22 rfl) ⟨by omega, by omega⟩ ?_
        refine zS_iadd (zdec eX9_has 23 rfl) ⟨by omega, by omega⟩ ?_
        have hd0 : 0 < D 0 0 := by first | omega | exact VD.bill (show 0 ≤ a by omega) (show a < D 0 8 by omega) | exact VD.day (show 0 ≤ a by omega) (show a < D 0 1 by omega) | exact VD.sup (show 0 ≤ a by omega) (show a < D 0 7 by omega)
        have pk := prA (x := x) (y := y) (by omega) (by omega)
        refine zvMV (M' := mX1_play) (As := [zA 14, zI a, zI b, zI (x + (2 * y))]) (st := []) (zdec eX9_has 24 rfl) kM_X9_339 kV_X1_play ⟨by decide, rfl⟩ rfl rfl rfl rfl rfl (by omega) (c_play (x := x) (y := y) (by omega) VD hd0 RD (by omega) (by omega) (by omega) (by omega) (by omega) pk.1 pk.2) (fun h3 ⟨L3, g3⟩ => ?_)
        have f3 : Fr sQ h h3 := g3.mono (fun k j z => by omega)
        have V3 : PV (gmX D a b x y) := gmV VD hd0 (by omega) (by omega) (by omega) (by omega) (by omega)
        have RD3 : DC h3 15 D := RD.fr f3 (fun k j z => by omega)
        refine zS_aload_n (zdec eX9_has 25 rfl) rfl rfl ?_
        refine zS_getref (i := 9) (zdec eX9_has 26 rfl) kF_X9_70 ⟨by decide, rfl⟩ rfl rfl rfl rfl rfl ?_
        refine zS_aload_n (zdec eX9_has 27 rfl) rfl rfl ?_
        refine zS_getref (i := 1) (zdec eX9_has 28 rfl) kF_X9_19 ⟨by decide, rfl⟩ rfl rfl rfl rfl rfl ?_
        refine zS_iload_n (zdec eX9_has 29 rfl) rfl ?_
        refine zvI (M' := mX1_gainOf) (As := [zA 14, zI a]) (st := []) (zdec eX9_has 30 rfl) kM_X9_343 kV_X1_gainOf ⟨by decide, rfl⟩ rfl rfl rfl rfl rfl (by omega) (c_gainL (by omega) V3 L3 RD3) ?_
        exact zlMI (zdec eX9_has 31 rfl) rfl ⟨by unfold a_has; rw [if_pos (by omega)], f3⟩
      · have z3 := d2i_0.mp c3
        refine zS_ldc (zdec eX9_has 11 rfl) kc_X9_189 rfl ?_
        exact zlMI (zdec eX9_has 12 rfl) rfl ⟨by unfold a_has; rw [if_neg (by omega)], Fr.rf⟩
noncomputable def rsL (D : Dk) (a b : Int) : Int := bitsI (fun k => decide (gnG D a b (zXor k 1 % 2) (zXor k 1 / 2) a ≤ gnG D a b (k % 2) (k / 2) a) && decide (gnG D a b (zXor k 2 % 2) (zXor k 2 / 2) b ≤ gnG D a b (k % 2) (k / 2) b)) 4
theorem L_rest {d : Nat} {h h1 : zH} {D : Dk} {a b : Int} (i1 : Fr sQ h h1) (i2 : ∀ k, 0 ≤ k → k < 4 → h1 105 k = gnG D a b (k % 2) (k / 2) a ∧ h1 106 k = gnG D a b (k % 2) (k / 2) b) : ∀ (n : Nat) (e : Int), 0 ≤ e → e + n = 4 → zS mX1_atRest (zr d) 56 [zA 104, zA 14, zI a, zI b, zI (bitsI (fun k => decide (gnG D a b (zXor k 1 % 2) (zXor k 1 / 2) a ≤ gnG D a b (k % 2) (k / 2) a) && decide (gnG D a b (zXor k 2 % 2) (zXor k 2 / 2) b ≤ gnG D a b (k % 2) (k / 2) b)) e), zI e] [] TT h1 (zAnI (fun r h' => r = rsL D a b ∧ Fr sQ h h')) := by
  intro n
  induction n with
  | zero =>
    intro e a1 a2
    refine zS_iload (zdec eX1_atRest 33 rfl) rfl ?_
    refine zS_iconst (zdec eX1_atRest 34 rfl) rfl ?_
    refine zS_icmp_ge (tgt := 115) (zdec eX1_atRest 35 rfl) rfl (fun cz => ?_) (fun cz => absurd (by omega) cz)
    refine zS_iload (zdec eX1_atRest 66 rfl) rfl ?_
    exact zlMI (zdec eX1_atRest 67 rfl) rfl ⟨by unfold rsL; rw [show e = 4 by omega], i1⟩
  | succ n ih =>
    intro e a1 a2
    have pk := prK a1 (show e < 4 by omega)
    refine zS_iload (zdec eX1_atRest 33 rfl) rfl ?_
    refine zS_iconst (zdec eX1_atRest 34 rfl) rfl ?_
    refine zS_icmp_ge (tgt := 115) (zdec eX1_atRest 35 rfl) rfl (fun cz => absurd cz (by omega)) (fun cz => ?_)
    refine zS_aload_n (zdec eX1_atRest 36 rfl) rfl rfl ?_
    refine zS_getref (i := 53) (zdec eX1_atRest 37 rfl) kF_X1_11 ⟨by decide, rfl⟩ rfl rfl rfl rfl rfl ?_
    refine zS_iload (zdec eX1_atRest 38 rfl) rfl ?_
    refine zS_ialoadE (v := (gnG D a b (e % 2) (e / 2) a)) (zdec eX1_atRest 39 rfl) ⟨by decide, rfl⟩ (by omega) (by omega) (i2 _ (by omega) (by omega)).1 ?_
    refine zS_aload_n (zdec eX1_atRest 40 rfl) rfl rfl ?_
    refine zS_getref (i := 53) (zdec eX1_atRest 41 rfl) kF_X1_11 ⟨by decide, rfl⟩ rfl rfl rfl rfl rfl ?_
    refine zS_iload (zdec eX1_atRest 42 rfl) rfl ?_
    refine zS_iconst (zdec eX1_atRest 43 rfl) rfl ?_
    refine zS_ixor (zdec eX1_atRest 44 rfl) ?_
    refine zS_ialoadE (v := (gnG D a b ((zXor e 1) % 2) ((zXor e 1) / 2) a)) (zdec eX1_atRest 45 rfl) ⟨by decide, rfl⟩ (by omega) (by omega) (i2 _ (by omega) (by omega)).1 ?_
    refine zS_icmp_lt (tgt := 109) (zdec eX1_atRest 46 rfl) rfl (fun c1 => ?_) (fun c1 => ?_)
    · refine zS_iinc (zdec eX1_atRest 64 rfl) rfl rfl ⟨by omega, by omega⟩ ?_
      refine zS_goto (tgt := 56) (zdec eX1_atRest 65 rfl) rfl ?_
      have k := ih (e + 1) (by omega) (by omega)
      rw [bitsI_s _ (by omega)] at k
      rw [if_neg (by rw [decide_eq_false (by omega), Bool.false_and]; decide)] at k
      exact k
    · refine zS_aload_n (zdec eX1_atRest 47 rfl) rfl rfl ?_
      refine zS_getref (i := 54) (zdec eX1_atRest 48 rfl) kF_X1_15 ⟨by decide, rfl⟩ rfl rfl rfl rfl rfl ?_
      refine zS_iload (zdec eX1_atRest 49 rfl) rfl ?_
      refine zS_ialoadE (v := (gnG D a b (e % 2) (e / 2) b)) (zdec eX1_atRest 50 rfl) ⟨by decide, rfl⟩ (by omega) (by omega) (i2 _ (by omega) (by omega)).2 ?_
      refine zS_aload_n (zdec eX1_atRest 51 rfl) rfl rfl ?_
      refine zS_getref (i := 54) (zdec eX1_atRest 52 rfl) kF_X1_15 ⟨by decide, rfl⟩ rfl rfl rfl rfl rfl ?_
      refine zS_iload (zdec eX1_atRest 53 rfl) rfl ?_
      refine zS_iconst (zdec eX1_atRest 54 rfl) rfl ?_
      refine zS_ixor (zdec eX1_atRest 55 rfl) ?_
      refine zS_ialoadE (v := (gnG D a b ((zXor e 2) % 2) ((zXor e 2) / 2) b)) (zdec eX1_atRest 56 rfl) ⟨by decide, rfl⟩ (by omega) (by omega) (i2 _ (by omega) (by omega)).2 ?_
      refine zS_icmp_lt (tgt := 109) (zdec eX1_atRest 57 rfl) rfl (fun c2 => ?_) (fun c2 => ?_)
      · refine zS_iinc (zdec eX1_atRest 64 rfl) rfl rfl ⟨by omega, by omega⟩ ?_
        refine zS_goto (tgt := 56) (zdec eX1_atRest 65 rfl) rfl ?_
        have k := ih (e + 1) (by omega) (by omega)
        rw [bitsI_s _ (by omega)] at k
        rw [if_neg (fun w => by have := of_decide_eq_true (Bool.and_eq_true_iff.mp w).2; omega)] at k
        exact k
      · refine zS_iload (zdec eX1_atRest 58 rfl) rfl ?_
        refine zS_iconst (zdec eX1_atRest 59 rfl) rfl ?_
        refine zS_iload (zdec eX1_atRest 60 rfl) rfl ?_
        refine zS_ishl (zdec eX1_atRest 61 rfl) ?_
        refine zS_ior (zdec eX1_atRest 62 rfl) ?_
        refine zS_istore (zdec eX1_atRest 63 rfl) rfl ?_
        refine zS_iinc (zdec eX1_atRest 64 rfl) rfl rfl ⟨by omega, by omega⟩ ?_
        refine zS_goto (tgt := 56) (zdec eX1_atRest 65 rfl) rfl ?_
        have k := ih (e + 1) (by omega) (by omega)
        rw [bitsI_s _ (by omega)] at k
        rw [if_pos (by rw [decide_eq_true (by omega), decide_eq_true (by omega)]; rfl)] at k
        exact k
theorem L_rest0 {d : Nat} {h : zH} {D : Dk} {a b : Int} (hd : 10 ≤ d) (VD : DV D) (hd0 : 0 < D 0 0) (RD : DC h 15 D) (hab : a ≠ b) : ∀ (n : Nat) (e : Int) (h1 : zH), 0 ≤ e → e + n = 4 → Fr sQ h h1 → (∀ k, 0 ≤ k → k < e → h1 105 k = gnG D a b (k % 2) (k / 2) a ∧ h1 106 k = gnG D a b (k % 2) (k / 2) b) → zS mX1_atRest (zr d) 3 [zA 104, zA 14, zI a, zI b, zI e, zN] [] TT h1 (zAnI (fun r h' => r = rsL D a b ∧ Fr sQ h h')) := by
  intro n
  induction n with
  | zero =>
    intro e h1 a1 a2 i1 i2
    refine zS_iload (zdec eX1_atRest 2 rfl) rfl ?_
    refine zS_iconst (zdec eX1_atRest 3 rfl) rfl ?_
    refine zS_icmp_ge (tgt := 50) (zdec eX1_atRest 4 rfl) rfl (fun cz => ?_) (fun cz => absurd (by omega) cz)
    refine zS_iconst (zdec eX1_atRest 29 rfl) rfl ?_
    refine zS_istore (zdec eX1_atRest 30 rfl) rfl ?_
    refine zS_iconst (zdec eX1_atRest 31 rfl) rfl ?_
    refine zS_istore (zdec eX1_atRest 32 rfl) rfl ?_
    exact L_rest i1 (fun k k0 k1 => i2 k k0 (by omega)) 4 0 (by omega) (by omega)
  | succ n ih =>
    intro e h1 a1 a2 i1 i2
    have RD1 : DC h1 15 D := RD.fr i1 (fun k j z => by omega)
    have pk := prK a1 (show e < 4 by omega)
    refine zS_iload (zdec eX1_atRest 2 rfl) rfl ?_
    refine zS_iconst (zdec eX1_atRest 3 rfl) rfl ?_
    refine zS_icmp_ge (tgt := 50) (zdec eX1_atRest 4 rfl) rfl (fun cz => absurd cz (by omega)) (fun cz => ?_)
    refine zS_aload_n (zdec eX1_atRest 5 rfl) rfl rfl ?_
    refine zS_aload_n (zdec eX1_atRest 6 rfl) rfl rfl ?_
    refine zS_iload_n (zdec eX1_atRest 7 rfl) rfl ?_
    refine zS_iload_n (zdec eX1_atRest 8 rfl) rfl ?_
    refine zS_iload (zdec eX1_atRest 9 rfl) rfl ?_
    refine zvMV (M' := mX1_play) (As := [zA 14, zI a, zI b, zI e]) (st := []) (zdec eX1_atRest 10 rfl) kM_X1_50 kV_X1_play ⟨by decide, rfl⟩ rfl rfl rfl rfl rfl (by omega) (c_play (x := (e % 2)) (y := (e / 2)) (by omega) VD hd0 RD1 (by omega) (by omega) (by omega) (by omega) (by omega) pk.1 pk.2.1) (fun h3 ⟨L3, g3⟩ => ?_)
    have f3 : Fr sQ h h3 := i1.tr g3 (fun k j z => z) (fun k j z => by omega)
    have V3 : PV (gmX D a b (e % 2) (e / 2)) := gmV VD hd0 (by omega) (by omega) (by omega) (by omega) (by omega)
    have RD3 : DC h3 15 D := RD.fr f3 (fun k j z => by omega)
    refine zS_aload_n (zdec eX1_atRest 11 rfl) rfl rfl ?_
    refine zS_getref (i := 53) (zdec eX1_atRest 12 rfl) kF_X1_11 ⟨by decide, rfl⟩ rfl rfl rfl rfl rfl ?_
    refine zS_iload (zdec eX1_atRest 13 rfl) rfl ?_
    refine zS_aload_n (zdec eX1_atRest 14 rfl) rfl rfl ?_
    refine zS_aload_n (zdec eX1_atRest 15 rfl) rfl rfl ?_
    refine zS_iload_n (zdec eX1_atRest 16 rfl) rfl ?_
    refine zvI (M' := mX1_gainOf) (As := [zA 14, zI a]) (st := [zI e, zA 105]) (zdec eX1_atRest 17 rfl) kM_X1_54 kV_X1_gainOf ⟨by decide, rfl⟩ rfl rfl rfl rfl rfl (by omega) (c_gainL (by omega) V3 L3 RD3) ?_
    refine zS_iastore (zdec eX1_atRest 18 rfl) ⟨by decide, rfl⟩ (by omega) (by omega) ?_
    refine zS_aload_n (zdec eX1_atRest 19 rfl) rfl rfl ?_
    refine zS_getref (i := 54) (zdec eX1_atRest 20 rfl) kF_X1_15 ⟨by decide, rfl⟩ rfl rfl rfl rfl rfl ?_
    refine zS_iload (zdec eX1_atRest 21 rfl) rfl ?_
    refine zS_aload_n (zdec eX1_atRest 22 rfl) rfl rfl ?_
    refine zS_aload_n (zdec eX1_atRest 23 rfl) rfl rfl ?_
    refine zS_iload_n (zdec eX1_atRest 24 rfl) rfl ?_
    have L4 : Ln (zset h3 105 e (gnG D a b (e % 2) (e / 2) a)) (gmX D a b (e % 2) (e / 2)) := ⟨L3.1.set V3 (by unfold wcP; omega), L3.2.1.set (by decide) (by decide) (by decide), L3.2.2.1.of (congrFun (zset_k (by decide)) _) (fun j => congrFun (zset_k (by decide)) _), (congrFun (zset_k (by decide)) _).trans L3.2.2.2⟩
    have RD4 : DC (zset h3 105 e (gnG D a b (e % 2) (e / 2) a)) 15 D := RD3.of (fun k j a b => congrFun (zset_k (by omega)) _)
    refine zvI (M' := mX1_gainOf) (As := [zA 14, zI b]) (st := [zI e, zA 106]) (zdec eX1_atRest 25 rfl) kM_X1_54 kV_X1_gainOf ⟨by decide, rfl⟩ rfl rfl rfl rfl rfl (by omega) (c_gainL (by omega) V3 L4 RD4) ?_
    refine zS_iastore (zdec eX1_atRest 26 rfl) ⟨by decide, rfl⟩ (by omega) (by omega) ?_
    refine zS_iinc (zdec eX1_atRest 27 rfl) rfl rfl ⟨by omega, by omega⟩ ?_
    refine zS_goto (tgt := 3) (zdec eX1_atRest 28 rfl) rfl ?_
    exact ih (e + 1) _ (by omega) (by omega) ((f3.set (by omega)).set (by omega)) (fun k k0 k1 => by
        by_cases w : k = e
        · rw [w]; exact ⟨(congrFun (zset_k (by decide)) _).trans (zset_s _ _ _ _), zset_s _ _ _ _⟩
        · rw [zset_k (by decide), zset_j w, zset_j w, zset_k (by decide), g3 105 k (by omega), g3 106 k (by omega)]; exact i2 k k0 (by omega))
theorem c_atRest {d : Nat} {h : zH} {D : Dk} {a b : Int} (hd : 10 ≤ d) (VD : DV D) (hd0 : 0 < D 0 0) (RD : DC h 15 D) (hab : a ≠ b) : zMI d mX1_atRest [zA 104, zA 14, zI a, zI b] h (fun r h' => r = rsL D a b ∧ Fr sQ h h') := by
  refine zmet rfl rfl rfl ?_
  refine zS_iconst (zdec eX1_atRest 0 rfl) rfl ?_
  refine zS_istore (zdec eX1_atRest 1 rfl) rfl ?_
  exact L_rest0 hd VD hd0 RD hab 4 0 h (by omega) (by omega) Fr.rf (fun k k0 k1 => by omega)
noncomputable def a_rests (D : Dk) (a b : Int) : Int := if (0 ≤ a ∧ a < D 0 7) ∧ (0 ≤ b ∧ b < D 0 7) ∧ a ≠ b then rsL D a b else -2
theorem p_rests {d : Nat} {h : zH} {D : Dk} {a b : Int} (hd : 20 ≤ d) (VD : DV D) (RD : DC h 15 D) : zMI d mX9_rests [zA 0, zI a, zI b] h (fun r h' => r = a_rests D a b ∧ Fr sQ h h') := by
  obtain ⟨p, hp⟩ : ∃ p, pb0 D = p := ⟨_, rfl⟩
  obtain ⟨q, hq⟩ : ∃ q, planP p = q := ⟨_, rfl⟩
  have pd : pDays p = D 0 1 := by rw [← hp]; rfl
  have pn : pNb p = D 0 8 := by rw [← hp]; rfl
  have dy := VD.days
  have nb := VD.nb
  have ns := VD.ns
  have nl := VD.nl
  have na := VD.na
  have vfl := VD.fl
  have vfe := VD.fee
  refine zmet rfl rfl rfl ?_
  refine zS_aload_n (zdec eX9_rests 0 rfl) rfl rfl ?_
  refine zS_iload_n (zdec eX9_rests 1 rfl) rfl ?_
  refine zS_iload_n (zdec eX9_rests 2 rfl) rfl ?_
  refine zvI (M' := mX9_arePlayers) (As := [zI a, zI b]) (st := []) (zdec eX9_rests 3 rfl) kM_X9_328 kV_X9_arePlayers ⟨by decide, rfl⟩ rfl rfl rfl rfl rfl (by omega) (c_arePl (by omega) RD) ?_
  refine zS_if_eq (tgt := 25) (zdec eX9_rests 4 rfl) rfl (fun c1 => ?_) (fun c1 => ?_)
  · have z1 := d2i_0.mp c1
    refine zS_bipush (zdec eX9_rests 13 rfl) rfl rfl ?_
    exact zlMI (zdec eX9_rests 14 rfl) rfl ⟨by unfold a_rests; rw [if_neg (by omega)], Fr.rf⟩
  · have z1 := d2i_n.mp c1
    refine zS_aload_n (zdec eX9_rests 5 rfl) rfl rfl ?_
    refine zS_getref (i := 9) (zdec eX9_rests 6 rfl) kF_X9_70 ⟨by decide, rfl⟩ rfl rfl rfl rfl rfl ?_
    refine zS_aload_n (zdec eX9_rests 7 rfl) rfl rfl ?_
    refine zS_getref (i := 1) (zdec eX9_rests 8 rfl) kF_X9_19 ⟨by decide, rfl⟩ rfl rfl rfl rfl rfl ?_
    refine zS_iload_n (zdec eX9_rests 9 rfl) rfl ?_
    refine zS_iload_n (zdec eX9_rests 10 rfl) rfl ?_
    have hd0 : 0 < D 0 0 := by first | omega | exact VD.bill (show 0 ≤ a by omega) (show a < D 0 8 by omega) | exact VD.day (show 0 ≤ a by omega) (show a < D 0 1 by omega) | exact VD.sup (show 0 ≤ a by omega) (show a < D 0 7 by omega)
    refine zvMI (M' := mX1_atRest) (As := [zA 14, zI a, zI b]) (st := []) (zdec eX9_rests 11 rfl) kM_X9_332 kV_X1_atRest ⟨by decide, rfl⟩ rfl rfl rfl rfl rfl (by omega) (c_atRest (by omega) VD hd0 RD (by omega)) (fun x5 h5 ⟨hx5, f5⟩ => ?_)
    refine zS_goto (tgt := 27) (zdec eX9_rests 12 rfl) rfl ?_
    exact zlMI (zdec eX9_rests 14 rfl) rfl ⟨by unfold a_rests; rw [if_pos (by omega)]; exact hx5, f5⟩

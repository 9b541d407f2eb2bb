theorem L_may {d : Nat} {h : zH} {D : Dk} {p : Pb} {x m : Int} (hp : pb0 D = p) (hd : 19 ≤ d) (VD : DV D) (hd0 : 0 < D 0 0) (RD : DC h 15 D) (x0 : 0 ≤ x) (x1 : x < D 0 8) (m0 : 0 ≤ m) (m1 : m ≤ 20000) : ∀ (n : Nat) (e : Int) (h1 : zH), 0 ≤ e → e + n = D 0 1 + 1 → Fr sQ h h1 → zS mX9_may (zr d) 21 [zA 0, zI x, zI m, zI (bitsI (fun y => decide ((stA p x y (m + 1)).1 = m)) e), zI e] [] TT h1 (zAnI (fun r h' => r = bitsI (fun y => decide ((stA p x y (m + 1)).1 = m)) (D 0 1 + 1) ∧ Fr sQ h h')) := by
  intro n
  induction n with
  | zero =>
    intro e h1 a1 a2 i1
    have RD1 : DC h1 15 D := RD.fr i1 (fun k j z => by omega)
    refine zS_iload (zdec eX9_may 13 rfl) rfl ?_
    refine zS_aload_n (zdec eX9_may 14 rfl) rfl rfl ?_
    refine zS_getref (i := 2) (zdec eX9_may 15 rfl) kF_X9_27 ⟨by decide, rfl⟩ rfl rfl rfl rfl rfl ?_
    refine zS_getfieldE (x := 1) (v := (D 0 1)) (zdec eX9_may 16 rfl) kF_X9_127 ⟨by decide, rfl⟩ rfl rfl rfl (RD1.s (by decide) (by decide)) ?_
    refine zS_icmp_gt (tgt := 74) (zdec eX9_may 17 rfl) rfl (fun cz => ?_) (fun cz => absurd (by omega) cz)
    refine zS_iload_n (zdec eX9_may 41 rfl) rfl ?_
    exact zlMI (zdec eX9_may 42 rfl) rfl ⟨by rw [show D 0 1 + 1 = e by omega], i1⟩
  | succ n ih =>
    intro e h1 a1 a2 i1
    have RD1 : DC h1 15 D := RD.fr i1 (fun k j z => by omega)
    have dy := VD.days
    have pn : pNb p = D 0 8 := by rw [← hp]; rfl
    have nb := VD.nb
    have hin : ∀ c, 0 ≤ c → c < pNb p → pIn p c = true := fun c _ _ => by rw [← hp]; rfl
    refine zS_iload (zdec eX9_may 13 rfl) rfl ?_
    refine zS_aload_n (zdec eX9_may 14 rfl) rfl rfl ?_
    refine zS_getref (i := 2) (zdec eX9_may 15 rfl) kF_X9_27 ⟨by decide, rfl⟩ rfl rfl rfl rfl rfl ?_
    refine zS_getfieldE (x := 1) (v := (D 0 1)) (zdec eX9_may 16 rfl) kF_X9_127 ⟨by decide, rfl⟩ rfl rfl rfl (RD1.s (by decide) (by decide)) ?_
    refine zS_icmp_gt (tgt := 74) (zdec eX9_may 17 rfl) rfl (fun cz => absurd cz (by omega)) (fun cz => ?_)
    refine zS_aload_n (zdec eX9_may 18 rfl) rfl rfl ?_
    refine zS_getref (i := 1) (zdec eX9_may 19 rfl) kF_X9_19 ⟨by decide, rfl⟩ rfl rfl rfl rfl rfl ?_
    refine zvMV (M' := mX8_asTold) (As := []) (st := []) (zdec eX9_may 20 rfl) kM_X9_130 kV_X8_asTold ⟨by decide, rfl⟩ rfl rfl rfl rfl rfl (by omega) (c_asTold (by omega) hd0 VD RD1) (fun h3 ⟨R, cl3, g3⟩ => ?_)
    have V := pb0_V VD hd0
    rw [hp] at R V
    have f3 : Fr sQ h h3 := i1.tr g3 (fun k j z => z) (fun k j z => by omega)
    refine zS_aload_n (zdec eX9_may 21 rfl) rfl rfl ?_
    refine zS_getref (i := 6) (zdec eX9_may 22 rfl) kF_X9_49 ⟨by decide, rfl⟩ rfl rfl rfl rfl rfl ?_
    refine zS_aload_n (zdec eX9_may 23 rfl) rfl rfl ?_
    refine zS_getref (i := 1) (zdec eX9_may 24 rfl) kF_X9_19 ⟨by decide, rfl⟩ rfl rfl rfl rfl rfl ?_
    refine zS_iload_n (zdec eX9_may 25 rfl) rfl ?_
    refine zS_iload (zdec eX9_may 26 rfl) rfl ?_
    refine zS_iload_n (zdec eX9_may 27 rfl) rfl ?_
    refine zS_iconst (zdec eX9_may 28 rfl) rfl ?_
    refine zS_iadd (zdec eX9_may 29 rfl) ⟨by omega, by omega⟩ ?_
    refine zvMI (M' := mX4_least) (As := [zA 14, zI x, zI e, zI (m + 1)]) (st := []) (zdec eX9_may 30 rfl) kM_X9_258 kV_X4_least ⟨by decide, rfl⟩ rfl rfl rfl rfl rfl (by omega) (c_least (fb := x) (fd := e) (L := m + 1) (by omega) V hin R (by omega) (by omega)) (fun x5 h5 ⟨hx5, S5, g5⟩ => ?_)
    have f5 : Fr sQ h h5 := f3.tr g5 (fun k j z => z) (fun k j z => by omega)
    refine zS_iload_n (zdec eX9_may 31 rfl) rfl ?_
    refine zS_icmp_ne (tgt := 68) (zdec eX9_may 32 rfl) rfl (fun c1 => ?_) (fun c1 => ?_)
    · refine zS_iinc (zdec eX9_may 39 rfl) rfl rfl ⟨by omega, by omega⟩ ?_
      refine zS_goto (tgt := 21) (zdec eX9_may 40 rfl) rfl ?_
      have k := ih (e + 1) h5 (by omega) (by omega) f5
      rw [bitsI_s _ (by omega)] at k
      rw [if_neg (by rw [decide_eq_false (by omega)]; decide)] at k
      exact k
    · refine zS_iload_n (zdec eX9_may 33 rfl) rfl ?_
      refine zS_iconst (zdec eX9_may 34 rfl) rfl ?_
      refine zS_iload (zdec eX9_may 35 rfl) rfl ?_
      refine zS_ishl (zdec eX9_may 36 rfl) ?_
      refine zS_ior (zdec eX9_may 37 rfl) ?_
      refine zS_istore_n (zdec eX9_may 38 rfl) rfl ?_
      refine zS_iinc (zdec eX9_may 39 rfl) rfl rfl ⟨by omega, by omega⟩ ?_
      refine zS_goto (tgt := 21) (zdec eX9_may 40 rfl) rfl ?_
      have k := ih (e + 1) h5 (by omega) (by omega) f5
      rw [bitsI_s _ (by omega)] at k
      rw [if_pos (by rw [decide_eq_true (by omega)])] at k
      exact k
noncomputable def a_may (D : Dk) (x : Int) : Int := if 0 ≤ x ∧ x < D 0 8 then bitsI (fun y => decide ((stA (pb0 D) x y ((stA (pb0 D) (-1) (-1) 2147483647).1 + 1)).1 = (stA (pb0 D) (-1) (-1) 2147483647).1)) (D 0 1 + 1) else -2
theorem p_may {d : Nat} {h : zH} {D : Dk} {x : Int} (hd : 20 ≤ d) (VD : DV D) (RD : DC h 15 D) : zMI d mX9_may [zA 0, zI x] h (fun r h' => r = a_may D x ∧ Fr sQ h h') := by
  obtain ⟨p, hp⟩ : ∃ p, pb0 D = p := ⟨_, rfl⟩
  obtain ⟨q, hq⟩ : ∃ q, planP p = q := ⟨_, rfl⟩
  have pd : pDays p = D 0 1 := by rw [← hp]; rfl
  have pn : pNb p = D 0 8 := by rw [← hp]; rfl
  have dy := VD.days
  have nb := VD.nb
  have ns := VD.ns
  have nl := VD.nl
  have na := VD.na
  have vfl := VD.fl
  have vfe := VD.fee
  refine zmet rfl rfl rfl ?_
  refine zS_aload_n (zdec eX9_may 0 rfl) rfl rfl ?_
  refine zS_iload_n (zdec eX9_may 1 rfl) rfl ?_
  refine zvI (M' := mX9_isBill) (As := [zI x]) (st := []) (zdec eX9_may 2 rfl) kM_X9_116 kV_X9_isBill ⟨by decide, rfl⟩ rfl rfl rfl rfl rfl (by omega) (c_isBill RD) ?_
  refine zS_if_ne (tgt := 11) (zdec eX9_may 3 rfl) rfl (fun c1 => ?_) (fun c1 => ?_)
  · have z1 := d2i_n.mp c1
    refine zS_aload_n (zdec eX9_may 6 rfl) rfl rfl ?_
    have hd0 : 0 < D 0 0 := by first | omega | exact VD.bill (show 0 ≤ x by omega) (show x < D 0 8 by omega) | exact VD.day (show 0 ≤ x by omega) (show x < D 0 1 by omega) | exact VD.sup (show 0 ≤ x by omega) (show x < D 0 7 by omega)
    refine zvMI (M' := mX9_leastOfAll) (As := []) (st := []) (zdec eX9_may 7 rfl) kM_X9_240 kV_X9_leastOfAll ⟨by decide, rfl⟩ rfl rfl rfl rfl rfl (by omega) (c_leastOfAll hp (by omega) VD hd0 RD) (fun x5 h5 ⟨hx5, ⟨V, S5⟩, g5, RD5⟩ => ?_)
    have f5 : Fr sQ h h5 := g5
    have fo := stA_found V (L := 2147483647) (by omega)
    have sr := stA_rng V (fb := -1) (fd := -1) (L := 2147483647) (by omega)
    refine zS_istore_n (zdec eX9_may 8 rfl) rfl ?_
    refine zS_iconst (zdec eX9_may 9 rfl) rfl ?_
    refine zS_istore_n (zdec eX9_may 10 rfl) rfl ?_
    refine zS_iconst (zdec eX9_may 11 rfl) rfl ?_
    refine zS_istore (zdec eX9_may 12 rfl) rfl ?_
    have k := L_may (d := d) (x := x) (m := x5) hp (by omega) VD hd0 RD (by omega) (by omega) (by omega) (by omega) (D 0 1 + 1).toNat 0 h5 (by omega) (by omega) f5
    unfold a_may
    rw [hp, if_pos (by omega), ← hx5]
    exact k
  · have z1 := d2i_0.mp c1
    refine zS_bipush (zdec eX9_may 4 rfl) rfl rfl ?_
    exact zlMI (zdec eX9_may 5 rfl) rfl ⟨by unfold a_may; (try rw [hp]); (try rw [hq]); first | rw [if_pos (by omega)] | rw [if_neg (by omega)], Fr.rf⟩
def slN (c : Int → Bool) (f : Int → Int) (L : Int) : Nat → Int × Int
  | 0 => (-1, L)
  | n + 1 => if c n = true ∧ f n < (slN c f L n).2 then ((n : Int), f n) else slN c f L n
def slI (c : Int → Bool) (f : Int → Int) (L k : Int) : Int × Int := slN c f L k.toNat
theorem slI_s (c : Int → Bool) (f : Int → Int) (L : Int) {k : Int} (h : 0 ≤ k) : slI c f L (k + 1) = if c k = true ∧ f k < (slI c f L k).2 then (k, f k) else slI c f L k := by
  unfold slI
  rw [show (k + 1).toNat = k.toNat + 1 by omega]
  show (if c (k.toNat : Int) = true ∧ f (k.toNat : Int) < (slN c f L k.toNat).2 then ((k.toNat : Int), f (k.toNat : Int)) else slN c f L k.toNat) = _
  rw [Int.toNat_of_nonneg h]
def noX (D : Dk) (b : Int) : Pb := wT (pb0 D) 1 (fun c => decide (c ≠ b))
theorem c_totalOfSet {d : Nat} {h : zH} {D : Dk} {v : Int} {f : Int → Bool} (hd : 5 ≤ d) (VD : DV D) (hd0 : 0 < D 0 0) (RD : DC h 15 D) (hv : ∀ b, 0 ≤ b → b < D 0 8 → bitB v b = f b) : zMI d mX9_totalOfSet [zA 0, zI v] h (fun r h' => r = totL (wT (pb0 D) 1 f) ∧ Fr sQ h h') := by
  refine zmet rfl rfl rfl ?_
  refine zS_aload_n (zdec eX9_totalOfSet 0 rfl) rfl rfl ?_
  refine zS_getref (i := 1) (zdec eX9_totalOfSet 1 rfl) kF_X9_19 ⟨by decide, rfl⟩ rfl rfl rfl rfl rfl ?_
  refine zvMV (M' := mX8_asTold) (As := []) (st := []) (zdec eX9_totalOfSet 2 rfl) kM_X9_130 kV_X8_asTold ⟨by decide, rfl⟩ rfl rfl rfl rfl rfl (by omega) (c_asTold (by omega) hd0 VD RD) (fun h2 ⟨R, cl2, g2⟩ => ?_)
  have V := pb0_V VD hd0
  have R := R.in'' (v := v) (f := f) V hv
  have V := V.set' 1 f
  refine zS_aload_n (zdec eX9_totalOfSet 3 rfl) rfl rfl ?_
  refine zS_getref (i := 1) (zdec eX9_totalOfSet 4 rfl) kF_X9_19 ⟨by decide, rfl⟩ rfl rfl rfl rfl rfl ?_
  refine zS_iload_n (zdec eX9_totalOfSet 5 rfl) rfl ?_
  refine zS_putfield (x := 5) (zdec eX9_totalOfSet 6 rfl) kF_X9_426 (Or.inl kf8_5) ⟨by decide, rfl⟩ rfl rfl rfl (Or.inl (fun q => by cases q)) ?_
  refine zS_aload_n (zdec eX9_totalOfSet 7 rfl) rfl rfl ?_
  refine zS_getref (i := 1) (zdec eX9_totalOfSet 8 rfl) kF_X9_19 ⟨by decide, rfl⟩ rfl rfl rfl rfl rfl ?_
  refine zvMV (M' := mX8_planByLaw) (As := []) (st := []) (zdec eX9_totalOfSet 9 rfl) kM_X9_271 kV_X8_planByLaw ⟨by decide, rfl⟩ rfl rfl rfl rfl rfl (by omega) (c_planByLaw (by omega) V R) (fun h3 ⟨S3, O3, m3, f3⟩ => ?_)
  have W3 := R.fr V f3 (fun k j z => by unfold wcP; omega)
  refine zS_aload_n (zdec eX9_totalOfSet 10 rfl) rfl rfl ?_
  refine zS_getref (i := 1) (zdec eX9_totalOfSet 11 rfl) kF_X9_19 ⟨by decide, rfl⟩ rfl rfl rfl rfl rfl ?_
  refine zvI (M' := mX8_whole) (As := []) (st := []) (zdec eX9_totalOfSet 12 rfl) kM_X9_214 kV_X8_whole ⟨by decide, rfl⟩ rfl rfl rfl rfl rfl (by omega) (c_wholeL (by omega) V ⟨W3, S3, O3, m3⟩) ?_
  exact zlMI (zdec eX9_totalOfSet 13 rfl) rfl ⟨rfl, (g2.tr (Fr.rf.set (by omega) : Fr sQ h2 (zset h2 14 5 v)) (S'' := sQ) (fun k j z => by omega) (fun k j z => z)).tr f3 (fun k j z => z) (fun k j z => by omega)⟩
theorem allb5 : ∀ k : Fin 6, zShl 1 (k.val : Int) ≤ 32 := by decide +kernel
theorem allB5 {k : Int} (k0 : 0 ≤ k) (k1 : k ≤ 5) : zShl 1 k ≤ 32 := by
  obtain ⟨x, rfl⟩ := fin_of (n := 6) k0 (by omega)
  exact allb5 x
theorem L_blame {d : Nat} {h : zH} {D : Dk} {p : Pb} {q : Int → Int} (hp : pb0 D = p) (hq : planP p = q) (hd : 19 ≤ d) (VD : DV D) (hd0 : 0 < D 0 0) (RD : DC h 15 D) : ∀ (n : Nat) (e : Int) (h1 : zH), 0 ≤ e → e + n = D 0 8 → Fr sQ h h1 → zS mX9_blame (zr d) 18 [zA 0, zI ((slI (fun b => decide (totL (noX D b) < totalP p q - priceP p b (q b))) (fun b => totL (noX D b)) 2147483647 e).1), zI ((slI (fun b => decide (totL (noX D b) < totalP p q - priceP p b (q b))) (fun b => totL (noX D b)) 2147483647 e).2), zI e, zN, zN] [] TT h1 (zAnI (fun r h' => r = (slI (fun b => decide (totL (noX D b) < totalP p q - priceP p b (q b))) (fun b => totL (noX D b)) 2147483647 (D 0 8)).1 ∧ Fr sQ h h')) := by
  intro n
  induction n with
  | zero =>
    intro e h1 a1 a2 i1
    have RD1 : DC h1 15 D := RD.fr i1 (fun k j z => by omega)
    have dy := VD.days
    have nb := VD.nb
    have pn : pNb p = D 0 8 := by rw [← hp]; rfl
    have pd : pDays p = D 0 1 := by rw [← hp]; rfl
    have ab := all_rng (k := D 0 8) nb.1 (by omega)
    refine zS_iload_n (zdec eX9_blame 11 rfl) rfl ?_
    refine zS_aload_n (zdec eX9_blame 12 rfl) rfl rfl ?_
    refine zS_getref (i := 2) (zdec eX9_blame 13 rfl) kF_X9_27 ⟨by decide, rfl⟩ rfl rfl rfl rfl rfl ?_
    refine zS_getfieldE (x := 8) (v := (D 0 8)) (zdec eX9_blame 14 rfl) kF_X9_202 ⟨by decide, rfl⟩ rfl rfl rfl (RD1.s (by decide) (by decide)) ?_
    refine zS_icmp_ge (tgt := 98) (zdec eX9_blame 15 rfl) rfl (fun cz => ?_) (fun cz => absurd (by omega) cz)
    refine zS_iload_n (zdec eX9_blame 53 rfl) rfl ?_
    exact zlMI (zdec eX9_blame 54 rfl) rfl ⟨by rw [show D 0 8 = e by omega], i1⟩
  | succ n ih =>
    intro e h1 a1 a2 i1
    have RD1 : DC h1 15 D := RD.fr i1 (fun k j z => by omega)
    have dy := VD.days
    have nb := VD.nb
    have pn : pNb p = D 0 8 := by rw [← hp]; rfl
    have pd : pDays p = D 0 1 := by rw [← hp]; rfl
    have ab := all_rng (k := D 0 8) nb.1 (by omega)
    refine zS_iload_n (zdec eX9_blame 11 rfl) rfl ?_
    refine zS_aload_n (zdec eX9_blame 12 rfl) rfl rfl ?_
    refine zS_getref (i := 2) (zdec eX9_blame 13 rfl) kF_X9_27 ⟨by decide, rfl⟩ rfl rfl rfl rfl rfl ?_
    refine zS_getfieldE (x := 8) (v := (D 0 8)) (zdec eX9_blame 14 rfl) kF_X9_202 ⟨by decide, rfl⟩ rfl rfl rfl (RD1.s (by decide) (by decide)) ?_
    refine zS_icmp_ge (tgt := 98) (zdec eX9_blame 15 rfl) rfl (fun cz => absurd cz (by omega)) (fun cz => ?_)
    refine zS_aload_n (zdec eX9_blame 16 rfl) rfl rfl ?_
    refine zvMA (M' := mX9_byLaw) (As := []) (st := []) (zdec eX9_blame 17 rfl) kM_X9_173 kV_X9_byLaw ⟨by decide, rfl⟩ rfl rfl rfl rfl rfl (by omega) (c_byLawP hp hq (by omega) VD hd0 RD1) (fun h2 ⟨⟨V, R, S, O⟩, ⟨q0, q1, qi⟩, g2, RD2⟩ => ?_)
    have tb := totB V (q := q) (fun c => ⟨q0 c, q1 c⟩)
    have pb := priceB V a1 (show e < pNb p by omega) (show q e ≤ 7 by have := q1 e; omega)
    have q0e := q0 e
    have q1e := q1 e
    refine zvI (M' := mX8_whole) (As := []) (st := []) (zdec eX9_blame 18 rfl) kM_X9_214 kV_X8_whole ⟨by decide, rfl⟩ rfl rfl rfl rfl rfl (by omega) (c_whole (by omega) V R S q0 q1) ?_
    refine zS_aload_n (zdec eX9_blame 19 rfl) rfl rfl ?_
    refine zS_getref (i := 1) (zdec eX9_blame 20 rfl) kF_X9_19 ⟨by decide, rfl⟩ rfl rfl rfl rfl rfl ?_
    refine zS_iload_n (zdec eX9_blame 21 rfl) rfl ?_
    refine zS_aload_n (zdec eX9_blame 22 rfl) rfl rfl ?_
    refine zS_getref (i := 1) (zdec eX9_blame 23 rfl) kF_X9_19 ⟨by decide, rfl⟩ rfl rfl rfl rfl rfl ?_
    refine zS_iload_n (zdec eX9_blame 24 rfl) rfl ?_
    refine zvI (M' := mX8_dayOrLast) (As := [zI e]) (st := [zI e, zA 14, zI (totalP p q)]) (zdec eX9_blame 25 rfl) kM_X9_208 kV_X8_dayOrLast ⟨by decide, rfl⟩ rfl rfl rfl rfl rfl (by omega) (c_dayOrLast (by omega) V R a1 (by omega) S q0 q1) ?_
    refine zvI (M' := mX8_price) (As := [zI e, zI (q e)]) (st := [zI (totalP p q)]) (zdec eX9_blame 26 rfl) kM_X9_133 kV_X8_price ⟨by decide, rfl⟩ rfl rfl rfl rfl rfl (by omega) (c_price (by omega) V R a1 (by omega) (by omega) (by omega)) ?_
    refine zS_isub (zdec eX9_blame 27 rfl) ⟨by omega, by omega⟩ ?_
    refine zS_istore (zdec eX9_blame 28 rfl) rfl ?_
    refine zS_aload_n (zdec eX9_blame 29 rfl) rfl rfl ?_
    refine zS_aload_n (zdec eX9_blame 30 rfl) rfl rfl ?_
    refine zS_getref (i := 1) (zdec eX9_blame 31 rfl) kF_X9_19 ⟨by decide, rfl⟩ rfl rfl rfl rfl rfl ?_
    refine zvI (M' := mX8_allBills) (As := []) (st := [zA 0]) (zdec eX9_blame 32 rfl) kM_X9_262 kV_X8_allBills ⟨by decide, rfl⟩ rfl rfl rfl rfl rfl (by omega) (c_allBills VD RD2) ?_
    refine zS_iconst (zdec eX9_blame 33 rfl) rfl ?_
    refine zS_iload_n (zdec eX9_blame 34 rfl) rfl ?_
    refine zS_ishl (zdec eX9_blame 35 rfl) ?_
    refine zS_iconst (zdec eX9_blame 36 rfl) rfl ?_
    refine zS_ixor (zdec eX9_blame 37 rfl) ?_
    refine zS_iand (zdec eX9_blame 38 rfl) ?_
    refine zvMI (M' := mX9_totalOfSet) (As := [zI (zAnd (zShl 1 (D 0 8) - 1) (zXor (zShl 1 e) (-1)))]) (st := []) (zdec eX9_blame 39 rfl) kM_X9_265 kV_X9_totalOfSet ⟨by decide, rfl⟩ rfl rfl rfl rfl rfl (by omega) (c_totalOfSet (f := fun c => decide (c ≠ e)) (by omega) VD hd0 RD2 (fun c c0 c1 => by rw [(clr_bit ab.1 (by have := allB5 (k := D 0 8) nb.1 nb.2; omega) a1 (by omega)).2 c c0 (by omega), all_bit nb.1 (by omega) c0 c1, Bool.true_and])) (fun x3 h3 ⟨hx3, g3⟩ => ?_)
    have f3 : Fr sQ h h3 := (i1.tr g2 (fun k j z => z) (fun k j z => z)).tr g3 (fun k j z => z) (fun k j z => z)
    have hx3 : x3 = totL (noX D e) := hx3
    refine zS_istore (zdec eX9_blame 40 rfl) rfl ?_
    refine zS_iload (zdec eX9_blame 41 rfl) rfl ?_
    refine zS_iload (zdec eX9_blame 42 rfl) rfl ?_
    refine zS_icmp_ge (tgt := 92) (zdec eX9_blame 43 rfl) rfl (fun c1 => ?_) (fun c1 => ?_)
    · refine zS_iinc (zdec eX9_blame 51 rfl) rfl rfl ⟨by omega, by omega⟩ ?_
      refine zS_goto (tgt := 18) (zdec eX9_blame 52 rfl) rfl ?_
      refine zS_forget (i := 4) ?_
      refine zS_forget (i := 5) ?_
      have k := ih (e + 1) h3 (by omega) (by omega) f3
      rw [slI_s _ _ _ (by omega)] at k
      rw [if_neg (fun w => by have := of_decide_eq_true w.1; omega)] at k
      exact k
    · refine zS_iload (zdec eX9_blame 44 rfl) rfl ?_
      refine zS_iload_n (zdec eX9_blame 45 rfl) rfl ?_
      refine zS_icmp_ge (tgt := 92) (zdec eX9_blame 46 rfl) rfl (fun c2 => ?_) (fun c2 => ?_)
      · refine zS_iinc (zdec eX9_blame 51 rfl) rfl rfl ⟨by omega, by omega⟩ ?_
        refine zS_goto (tgt := 18) (zdec eX9_blame 52 rfl) rfl ?_
        refine zS_forget (i := 4) ?_
        refine zS_forget (i := 5) ?_
        have k := ih (e + 1) h3 (by omega) (by omega) f3
        rw [slI_s _ _ _ (by omega)] at k
        rw [if_neg (fun w => by have := w.2; omega)] at k
        exact k
      · refine zS_iload (zdec eX9_blame 47 rfl) rfl ?_
        refine zS_istore_n (zdec eX9_blame 48 rfl) rfl ?_
        refine zS_iload_n (zdec eX9_blame 49 rfl) rfl ?_
        refine zS_istore_n (zdec eX9_blame 50 rfl) rfl ?_
        refine zS_iinc (zdec eX9_blame 51 rfl) rfl rfl ⟨by omega, by omega⟩ ?_
        refine zS_goto (tgt := 18) (zdec eX9_blame 52 rfl) rfl ?_
        refine zS_forget (i := 4) ?_
        refine zS_forget (i := 5) ?_
        have k := ih (e + 1) h3 (by omega) (by omega) f3
        rw [slI_s _ _ _ (by omega)] at k
        rw [if_pos ⟨decide_eq_true (by omega), by omega⟩] at k
        rw [hx3]
        exact k
noncomputable def a_blame (D : Dk) : Int := if 0 < D 0 0 then (slI (fun b => decide (totL (noX D b) < totalP (pb0 D) (planP (pb0 D)) - priceP (pb0 D) b ((planP (pb0 D)) b))) (fun b => totL (noX D b)) 2147483647 (D 0 8)).1 else -2
theorem p_blame {d : Nat} {h : zH} {D : Dk} (hd : 20 ≤ d) (VD : DV D) (RD : DC h 15 D) : zMI d mX9_blame [zA 0] h (fun r h' => r = a_blame D ∧ Fr sQ h h') := by
  obtain ⟨p, hp⟩ : ∃ p, pb0 D = p := ⟨_, rfl⟩
  obtain ⟨q, hq⟩ : ∃ q, planP p = q := ⟨_, rfl⟩
  have pd : pDays p = D 0 1 := by rw [← hp]; rfl
  have pn : pNb p = D 0 8 := by rw [← hp]; rfl
  have dy := VD.days
  have nb := VD.nb
  have ns := VD.ns
  have nl := VD.nl
  have na := VD.na
  have vfl := VD.fl
  have vfe := VD.fee
  refine zmet rfl rfl rfl ?_
  refine zS_aload_n (zdec eX9_blame 0 rfl) rfl rfl ?_
  refine zvI (M' := mX9_isThere) (As := []) (st := []) (zdec eX9_blame 1 rfl) kM_X9_143 kV_X9_isThere ⟨by decide, rfl⟩ rfl rfl rfl rfl rfl (by omega) (c_isThere RD) ?_
  refine zS_if_ne (tgt := 10) (zdec eX9_blame 2 rfl) rfl (fun c1 => ?_) (fun c1 => ?_)
  · have z1 := d2i_n.mp c1
    refine zS_iconst (zdec eX9_blame 5 rfl) rfl ?_
    refine zS_istore_n (zdec eX9_blame 6 rfl) rfl ?_
    refine zS_ldc_w (zdec eX9_blame 7 rfl) kc_X9_257 rfl ?_
    refine zS_istore_n (zdec eX9_blame 8 rfl) rfl ?_
    refine zS_iconst (zdec eX9_blame 9 rfl) rfl ?_
    refine zS_istore_n (zdec eX9_blame 10 rfl) rfl ?_
    have hd0 : 0 < D 0 0 := by omega
    have k := L_blame (d := d) hp hq (by omega) VD hd0 RD (D 0 8).toNat 0 h (by omega) (by omega) Fr.rf
    unfold a_blame
    rw [hp, hq, if_pos hd0]
    exact k
  · have z1 := d2i_0.mp c1
    refine zS_bipush (zdec eX9_blame 3 rfl) rfl rfl ?_
    exact zlMI (zdec eX9_blame 4 rfl) rfl ⟨by unfold a_blame; (try rw [hp]); (try rw [hq]); first | rw [if_pos (by omega)] | rw [if_neg (by omega)], Fr.rf⟩

theorem L_luck {d : Nat} {h : zH} {D : Dk} {x y z : Int} (hd : 19 ≤ d) (VD : DV D) (hd0 : 0 < D 0 0) (RD : DC h 15 D) (x0 : 0 ≤ x) (x1 : x ≤ 2000000000) (y1 : y ≤ 20) (z0 : 0 ≤ z) (z1 : z < D 0 8) : ∀ (n : Nat) (e : Int) (h1 : zH), 0 ≤ e → e + n = y → Fr sQ h h1 → zS mX9_luck (zr d) 35 [zA 0, zI x, zI y, zI z, zI (sumI (fun i => if planP (wT (pb0 D) 2 (bitB (drI D (x + i)))) z < D 0 1 then 1 else 0) e), zI e] [] TT h1 (zAnI (fun r h' => r = sumI (fun i => if planP (wT (pb0 D) 2 (bitB (drI D (x + i)))) z < D 0 1 then 1 else 0) y ∧ Fr sQ h h')) := by
  intro n
  induction n with
  | zero =>
    intro e h1 a1 a2 i1
    refine zS_iload (zdec eX9_luck 19 rfl) rfl ?_
    refine zS_iload_n (zdec eX9_luck 20 rfl) rfl ?_
    refine zS_icmp_ge (tgt := 89) (zdec eX9_luck 21 rfl) rfl (fun cz => ?_) (fun cz => absurd (by omega) cz)
    refine zS_iload (zdec eX9_luck 47 rfl) rfl ?_
    exact zlMI (zdec eX9_luck 48 rfl) rfl ⟨by rw [show e = y by omega], i1⟩
  | succ n ih =>
    intro e h1 a1 a2 i1
    have RD1 : DC h1 15 D := RD.fr i1 (fun k j z => by omega)
    have s0 := sumI_nn (f := (fun i => if planP (wT (pb0 D) 2 (bitB (drI D (x + i)))) z < D 0 1 then 1 else 0)) (k := e) (fun j j0 j1 => by split <;> omega)
    have s1 := sumI_le (f := (fun i => if planP (wT (pb0 D) 2 (bitB (drI D (x + i)))) z < D 0 1 then 1 else 0)) (k := e) (B := 1) a1 (fun j j0 j1 => by split <;> omega)
    refine zS_iload (zdec eX9_luck 19 rfl) rfl ?_
    refine zS_iload_n (zdec eX9_luck 20 rfl) rfl ?_
    refine zS_icmp_ge (tgt := 89) (zdec eX9_luck 21 rfl) rfl (fun cz => absurd cz (by omega)) (fun cz => ?_)
    refine zS_aload_n (zdec eX9_luck 22 rfl) rfl rfl ?_
    refine zS_aload_n (zdec eX9_luck 23 rfl) rfl rfl ?_
    refine zS_getref (i := 10) (zdec eX9_luck 24 rfl) kF_X9_77 ⟨by decide, rfl⟩ rfl rfl rfl rfl rfl ?_
    refine zS_aload_n (zdec eX9_luck 25 rfl) rfl rfl ?_
    refine zS_getref (i := 2) (zdec eX9_luck 26 rfl) kF_X9_27 ⟨by decide, rfl⟩ rfl rfl rfl rfl rfl ?_
    refine zS_iload_n (zdec eX9_luck 27 rfl) rfl ?_
    refine zS_i2l (zdec eX9_luck 28 rfl) ?_
    refine zS_iload (zdec eX9_luck 29 rfl) rfl ?_
    refine zS_i2l (zdec eX9_luck 30 rfl) ?_
    refine zS_ladd (zdec eX9_luck 31 rfl) ⟨by omega, by omega⟩ ?_
    refine zvI (M' := mX2_draw) (As := [zA 15, zJ (x + e)]) (st := [zA 0]) (zdec eX9_luck 32 rfl) kM_X9_366 kV_X2_draw ⟨by decide, rfl⟩ rfl rfl rfl rfl rfl (by omega) (c_draw (s := x + e) VD RD1 (by omega) (by omega)) ?_
    refine zvMV (M' := mX9_planWithIncomes) (As := [zI (drI D (x + e))]) (st := []) (zdec eX9_luck 33 rfl) kM_X9_370 kV_X9_planWithIncomes ⟨by decide, rfl⟩ rfl rfl rfl rfl rfl (by omega) (c_withIncomes (by omega) VD hd0 RD1) (fun h3 ⟨L3, g3⟩ => ?_)
    have f3 : Fr sQ h h3 := i1.tr g3 (fun k j z => z) (fun k j z => by omega)
    have V3 : PV (wT (pb0 D) 2 (bitB (drI D (x + e)))) := (pb0_V VD hd0).set' 2 _
    refine zS_iload (zdec eX9_luck 34 rfl) rfl ?_
    refine zS_aload_n (zdec eX9_luck 35 rfl) rfl rfl ?_
    refine zS_getref (i := 1) (zdec eX9_luck 36 rfl) kF_X9_19 ⟨by decide, rfl⟩ rfl rfl rfl rfl rfl ?_
    refine zS_iload_n (zdec eX9_luck 37 rfl) rfl ?_
    refine zvI (M' := mX8_isPaid) (As := [zI z]) (st := [zI (sumI (fun i => if planP (wT (pb0 D) 2 (bitB (drI D (x + i)))) z < D 0 1 then 1 else 0) e)]) (zdec eX9_luck 38 rfl) kM_X9_217 kV_X8_isPaid ⟨by decide, rfl⟩ rfl rfl rfl rfl rfl (by omega) (c_isPaid V3 L3.1 z0 z1 L3.2.1 ((planP_rng V3 z).1)) ?_
    refine zS_if_eq (tgt := 79) (zdec eX9_luck 39 rfl) rfl (fun c1 => ?_) (fun c1 => ?_)
    · refine zS_iconst (zdec eX9_luck 42 rfl) rfl ?_
      refine zS_iadd (zdec eX9_luck 43 rfl) ⟨by omega, by omega⟩ ?_
      refine zS_istore (zdec eX9_luck 44 rfl) rfl ?_
      refine zS_iinc (zdec eX9_luck 45 rfl) rfl rfl ⟨by omega, by omega⟩ ?_
      refine zS_goto (tgt := 35) (zdec eX9_luck 46 rfl) rfl ?_
      have k := ih (e + 1) h3 (by omega) (by omega) f3
      rw [sumI_s _ a1] at k
      rw [if_neg (show ¬ (planP (wT (pb0 D) 2 (bitB (drI D (x + e)))) z < D 0 1) from d2i_0.mp c1)] at k
      exact k
    · refine zS_iconst (zdec eX9_luck 40 rfl) rfl ?_
      refine zS_goto (tgt := 80) (zdec eX9_luck 41 rfl) rfl ?_
      refine zS_iadd (zdec eX9_luck 43 rfl) ⟨by omega, by omega⟩ ?_
      refine zS_istore (zdec eX9_luck 44 rfl) rfl ?_
      refine zS_iinc (zdec eX9_luck 45 rfl) rfl rfl ⟨by omega, by omega⟩ ?_
      refine zS_goto (tgt := 35) (zdec eX9_luck 46 rfl) rfl ?_
      have k := ih (e + 1) h3 (by omega) (by omega) f3
      rw [sumI_s _ a1] at k
      rw [if_pos (show planP (wT (pb0 D) 2 (bitB (drI D (x + e)))) z < D 0 1 from d2i_n.mp c1)] at k
      exact k
noncomputable def a_luck (D : Dk) (x y z : Int) : Int := if (0 ≤ z ∧ z < D 0 8) ∧ (0 ≤ x ∧ x ≤ 2000000000) ∧ 1 ≤ y ∧ y ≤ 20 then sumI (fun i => if planP (wT (pb0 D) 2 (bitB (drI D (x + i)))) z < D 0 1 then 1 else 0) y else -2
theorem p_luck {d : Nat} {h : zH} {D : Dk} {x y z : Int} (hd : 20 ≤ d) (VD : DV D) (RD : DC h 15 D) : zMI d mX9_luck [zA 0, zI x, zI y, zI z] h (fun r h' => r = a_luck D x y z ∧ Fr sQ h h') := by
  obtain ⟨p, hp⟩ : ∃ p, pb0 D = p := ⟨_, rfl⟩
  obtain ⟨q, hq⟩ : ∃ q, planP p = q := ⟨_, rfl⟩
  have pd : pDays p = D 0 1 := by rw [← hp]; rfl
  have pn : pNb p = D 0 8 := by rw [← hp]; rfl
  have dy := VD.days
  have nb := VD.nb
  have ns := VD.ns
  have nl := VD.nl
  have na := VD.na
  have vfl := VD.fl
  have vfe := VD.fee
  refine zmet rfl rfl rfl ?_
  refine zS_aload_n (zdec eX9_luck 0 rfl) rfl rfl ?_
  refine zS_iload_n (zdec eX9_luck 1 rfl) rfl ?_
  refine zvI (M' := mX9_isBill) (As := [zI z]) (st := []) (zdec eX9_luck 2 rfl) kM_X9_116 kV_X9_isBill ⟨by decide, rfl⟩ rfl rfl rfl rfl rfl (by omega) (c_isBill RD) ?_
  refine zS_if_eq (tgt := 26) (zdec eX9_luck 3 rfl) rfl (fun c1 => ?_) (fun c1 => ?_)
  · have z1 := d2i_0.mp c1
    refine zS_bipush (zdec eX9_luck 13 rfl) rfl rfl ?_
    exact zlMI (zdec eX9_luck 14 rfl) rfl ⟨by unfold a_luck; (try rw [hp]); (try rw [hq]); first | rw [if_pos (by omega)] | rw [if_neg (by omega)], Fr.rf⟩
  · have z1 := d2i_n.mp c1
    refine zS_iload_n (zdec eX9_luck 4 rfl) rfl ?_
    refine zsI (M' := mX9_isSeed) (As := [zI x]) (st := []) (zdec eX9_luck 5 rfl) kM_X9_363 kS_X9_isSeed rfl rfl rfl (by omega) (c_isSeed) ?_
    refine zS_if_eq (tgt := 26) (zdec eX9_luck 6 rfl) rfl (fun c2 => ?_) (fun c2 => ?_)
    · have z2 := d2i_0.mp c2
      refine zS_bipush (zdec eX9_luck 13 rfl) rfl rfl ?_
      exact zlMI (zdec eX9_luck 14 rfl) rfl ⟨by unfold a_luck; (try rw [hp]); (try rw [hq]); first | rw [if_pos (by omega)] | rw [if_neg (by omega)], Fr.rf⟩
    · have z2 := d2i_n.mp c2
      refine zS_iload_n (zdec eX9_luck 7 rfl) rfl ?_
      refine zS_iconst (zdec eX9_luck 8 rfl) rfl ?_
      refine zS_icmp_lt (tgt := 26) (zdec eX9_luck 9 rfl) rfl (fun c3 => ?_) (fun c3 => ?_)
      · refine zS_bipush (zdec eX9_luck 13 rfl) rfl rfl ?_
        exact zlMI (zdec eX9_luck 14 rfl) rfl ⟨by unfold a_luck; (try rw [hp]); (try rw [hq]); first | rw [if_pos (by omega)] | rw [if_neg (by omega)], Fr.rf⟩
      · refine zS_iload_n (zdec eX9_luck 10 rfl) rfl ?_
        refine zS_bipush (zdec eX9_luck 11 rfl) rfl rfl ?_
        refine zS_icmp_le (tgt := 29) (zdec eX9_luck 12 rfl) rfl (fun c4 => ?_) (fun c4 => ?_)
        · refine zS_iconst (zdec eX9_luck 15 rfl) rfl ?_
          refine zS_istore (zdec eX9_luck 16 rfl) rfl ?_
          refine zS_iconst (zdec eX9_luck 17 rfl) rfl ?_
          refine zS_istore (zdec eX9_luck 18 rfl) rfl ?_
          have hd0 : 0 < D 0 0 := by first | omega | exact VD.bill (show 0 ≤ z by omega) (show z < D 0 8 by omega) | exact VD.day (show 0 ≤ z by omega) (show z < D 0 1 by omega) | exact VD.sup (show 0 ≤ z by omega) (show z < D 0 7 by omega)
          have k := L_luck (d := d) (x := x) (y := y) (z := z) (by omega) VD hd0 RD (by omega) (by omega) (by omega) (by omega) (by omega) y.toNat 0 h (by omega) (by omega) Fr.rf
          unfold a_luck
          rw [if_pos (by omega)]
          exact k
        · refine zS_bipush (zdec eX9_luck 13 rfl) rfl rfl ?_
          exact zlMI (zdec eX9_luck 14 rfl) rfl ⟨by unfold a_luck; (try rw [hp]); (try rw [hq]); first | rw [if_pos (by omega)] | rw [if_neg (by omega)], Fr.rf⟩

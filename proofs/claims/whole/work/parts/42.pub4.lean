theorem c_partOf {d : Nat} {h : zH} {a b w : Int} (hd : 2 ≤ d) (a0 : -35184372088832 < a) (a1 : a < 35184372088832) (b0 : 1 ≤ b) (b1 : b < 1099511627776) : zPJ d mX9_partOf [zJ a, zJ b, zI w] h (partP a b w) := by
  refine zmet rfl rfl rfl ?_
  refine zS_lload_n (zdec eX9_partOf 0 rfl) rfl ?_
  refine zS_absJ (zdec eX9_partOf 1 rfl) kM_X9_438 rfl (by omega) ⟨by omega, by omega⟩ ?_
  refine zS_lload_n (zdec eX9_partOf 2 rfl) rfl ?_
  have k1 : zPJ (d - 1) mX9_commonDivisor [zJ (if 0 < a then a else -a), zJ b] h ((Int.gcd a b : Nat) : Int) := by
    have k := c_gcd (d := d - 1) (h := h) (x := a.natAbs) (y := b.natAbs) (by omega) (by omega) (by omega) (by omega)
    rw [show ((a.natAbs : Nat) : Int) = (if 0 < a then a else -a) by split <;> omega, show ((b.natAbs : Nat) : Int) = b by omega] at k
    exact k
  have g1 : 1 ≤ Int.gcd a b := Nat.gcd_pos_of_pos_right _ (by omega)
  obtain ⟨g, hg⟩ : ∃ g : Int, g = ((Int.gcd a b : Nat) : Int) := ⟨_, rfl⟩
  rw [← hg] at k1
  refine zsJ (M' := mX9_commonDivisor) (As := [zJ (if 0 < a then a else -a), zJ b]) (st := []) (zdec eX9_partOf 3 rfl) kM_X9_442 kS_X9_commonDivisor rfl rfl rfl (by omega) k1 ?_
  refine zS_lstore (zdec eX9_partOf 4 rfl) rfl ?_
  refine zS_iload (zdec eX9_partOf 5 rfl) rfl ?_
  refine zS_if_ne (tgt := 19) (zdec eX9_partOf 6 rfl) rfl (fun c1 => ?_) (fun c1 => ?_)
  · refine zS_lload_n (zdec eX9_partOf 9 rfl) rfl ?_
    refine zS_lload (zdec eX9_partOf 10 rfl) rfl ?_
    refine zS_ldiv (zdec eX9_partOf 11 rfl) (by omega) (fun q => by omega) ?_
    exact zlJ (zdec eX9_partOf 12 rfl) rfl (by unfold partP; rw [if_neg c1, hg])
  · refine zS_lload_n (zdec eX9_partOf 7 rfl) rfl ?_
    refine zS_goto (tgt := 20) (zdec eX9_partOf 8 rfl) rfl ?_
    refine zS_lload (zdec eX9_partOf 10 rfl) rfl ?_
    refine zS_ldiv (zdec eX9_partOf 11 rfl) (by omega) (fun q => by omega) ?_
    exact zlJ (zdec eX9_partOf 12 rfl) rfl (by unfold partP; rw [if_pos c1, hg])
noncomputable def a_rate (D : Dk) (x y : Int) : Int := if (0 ≤ x ∧ x < D 0 8) ∧ (y = 0 ∨ y = 1) then zL2I (partP (gainP (pb0 D) x) (spanP (pb0 D) x) y) else -2
theorem p_rate {d : Nat} {h : zH} {D : Dk} {x y : Int} (hd : 20 ≤ d) (VD : DV D) (RD : DC h 15 D) : zMI d mX9_rate [zA 0, zI x, zI y] h (fun r h' => r = a_rate D x y ∧ Fr sQ h h') := by
  obtain ⟨p, hp⟩ : ∃ p, pb0 D = p := ⟨_, rfl⟩
  obtain ⟨q, hq⟩ : ∃ q, planP p = q := ⟨_, rfl⟩
  have pd : pDays p = D 0 1 := by rw [← hp]; rfl
  have pn : pNb p = D 0 8 := by rw [← hp]; rfl
  have dy := VD.days
  have nb := VD.nb
  have ns := VD.ns
  have nl := VD.nl
  have na := VD.na
  have vfl := VD.fl
  have vfe := VD.fee
  refine zmet rfl rfl rfl ?_
  refine zS_aload_n (zdec eX9_rate 0 rfl) rfl rfl ?_
  refine zS_iload_n (zdec eX9_rate 1 rfl) rfl ?_
  refine zvI (M' := mX9_isBill) (As := [zI x]) (st := []) (zdec eX9_rate 2 rfl) kM_X9_116 kV_X9_isBill ⟨by decide, rfl⟩ rfl rfl rfl rfl rfl (by omega) (c_isBill RD) ?_
  refine zS_if_eq (tgt := 15) (zdec eX9_rate 3 rfl) rfl (fun c1 => ?_) (fun c1 => ?_)
  · have z1 := d2i_0.mp c1
    refine zS_bipush (zdec eX9_rate 7 rfl) rfl rfl ?_
    exact zlMI (zdec eX9_rate 8 rfl) rfl ⟨by unfold a_rate; (try rw [hp]); (try rw [hq]); first | rw [if_pos (by omega)] | rw [if_neg (by omega)], Fr.rf⟩
  · have z1 := d2i_n.mp c1
    refine zS_iload_n (zdec eX9_rate 4 rfl) rfl ?_
    refine zsI (M' := mX9_isPart) (As := [zI y]) (st := []) (zdec eX9_rate 5 rfl) kM_X9_151 kS_X9_isPart rfl rfl rfl (by omega) (c_isPart) ?_
    refine zS_if_ne (tgt := 18) (zdec eX9_rate 6 rfl) rfl (fun c2 => ?_) (fun c2 => ?_)
    · have z2 := d2i_n.mp c2
      refine zS_aload_n (zdec eX9_rate 9 rfl) rfl rfl ?_
      refine zS_getref (i := 1) (zdec eX9_rate 10 rfl) kF_X9_19 ⟨by decide, rfl⟩ rfl rfl rfl rfl rfl ?_
      have hd0 : 0 < D 0 0 := by first | omega | exact VD.bill (show 0 ≤ x by omega) (show x < D 0 8 by omega) | exact VD.day (show 0 ≤ x by omega) (show x < D 0 1 by omega) | exact VD.sup (show 0 ≤ x by omega) (show x < D 0 7 by omega)
      refine zvMV (M' := mX8_asTold) (As := []) (st := []) (zdec eX9_rate 11 rfl) kM_X9_130 kV_X8_asTold ⟨by decide, rfl⟩ rfl rfl rfl rfl rfl (by omega) (c_asTold (by omega) hd0 VD RD) (fun h2 ⟨R, cl2, g2⟩ => ?_)
      have V := pb0_V VD hd0
      rw [hp] at R V
      have f2 : Fr sQ h h2 := g2.mono (fun k j z => by omega)
      have RD2 : DC h2 15 D := RD.fr g2 (fun k j z => by omega)
      refine zS_aload_n (zdec eX9_rate 12 rfl) rfl rfl ?_
      refine zS_getref (i := 1) (zdec eX9_rate 13 rfl) kF_X9_19 ⟨by decide, rfl⟩ rfl rfl rfl rfl rfl ?_
      refine zS_iload_n (zdec eX9_rate 14 rfl) rfl ?_
      refine zvI (M' := mX8_gain) (As := [zI x]) (st := []) (zdec eX9_rate 15 rfl) kM_X9_154 kV_X8_gain ⟨by decide, rfl⟩ rfl rfl rfl rfl rfl (by omega) (c_gain V R (by omega) (by omega)) ?_
      refine zS_i2l (zdec eX9_rate 16 rfl) ?_
      refine zS_aload_n (zdec eX9_rate 17 rfl) rfl rfl ?_
      refine zS_getref (i := 1) (zdec eX9_rate 18 rfl) kF_X9_19 ⟨by decide, rfl⟩ rfl rfl rfl rfl rfl ?_
      refine zS_iload_n (zdec eX9_rate 19 rfl) rfl ?_
      refine zvI (M' := mX8_span) (As := [zI x]) (st := [zJ (gainP p x)]) (zdec eX9_rate 20 rfl) kM_X9_157 kV_X8_span ⟨by decide, rfl⟩ rfl rfl rfl rfl rfl (by omega) (c_span V R (by omega) (by omega)) ?_
      refine zS_i2l (zdec eX9_rate 21 rfl) ?_
      refine zS_iload_n (zdec eX9_rate 22 rfl) rfl ?_
      have gb := gainB V (show 0 ≤ x by omega) (show x < pNb p by omega)
      have sb := spanB V (show 0 ≤ x by omega) (show x < pNb p by omega)
      have nt := V.net (show 0 ≤ x by omega) (show x < pNb p by omega)
      refine zsJ (M' := mX9_partOf) (As := [zJ (gainP p x), zJ (spanP p x), zI y]) (st := []) (zdec eX9_rate 23 rfl) kM_X9_160 kS_X9_partOf rfl rfl rfl (by omega) (c_partOf (by omega) (by omega) (by omega) (by omega) (by omega)) ?_
      refine zS_l2i (zdec eX9_rate 24 rfl) ?_
      exact zlMI (zdec eX9_rate 25 rfl) rfl ⟨by unfold a_rate; (try rw [hp]); (try rw [hq]); first | rw [if_pos (by omega)] | rw [if_neg (by omega)], f2⟩
    · have z2 := d2i_0.mp c2
      refine zS_bipush (zdec eX9_rate 7 rfl) rfl rfl ?_
      exact zlMI (zdec eX9_rate 8 rfl) rfl ⟨by unfold a_rate; (try rw [hp]); (try rw [hq]); first | rw [if_pos (by omega)] | rw [if_neg (by omega)], Fr.rf⟩
noncomputable def a_worthy (D : Dk) : Int := if 0 < D 0 0 then (if 0 < ((ordP (wS (pb0 D) 4 1)).length : Int) then (ordP (wS (pb0 D) 4 1)).getD 0 0 else -1) else -2
theorem p_worthy {d : Nat} {h : zH} {D : Dk} (hd : 20 ≤ d) (VD : DV D) (RD : DC h 15 D) : zMI d mX9_worthy [zA 0] h (fun r h' => r = a_worthy D ∧ Fr sQ h h') := by
  obtain ⟨p, hp⟩ : ∃ p, pb0 D = p := ⟨_, rfl⟩
  obtain ⟨q, hq⟩ : ∃ q, planP p = q := ⟨_, rfl⟩
  have pd : pDays p = D 0 1 := by rw [← hp]; rfl
  have pn : pNb p = D 0 8 := by rw [← hp]; rfl
  have dy := VD.days
  have nb := VD.nb
  have ns := VD.ns
  have nl := VD.nl
  have na := VD.na
  have vfl := VD.fl
  have vfe := VD.fee
  refine zmet rfl rfl rfl ?_
  refine zS_aload_n (zdec eX9_worthy 0 rfl) rfl rfl ?_
  refine zvI (M' := mX9_isThere) (As := []) (st := []) (zdec eX9_worthy 1 rfl) kM_X9_143 kV_X9_isThere ⟨by decide, rfl⟩ rfl rfl rfl rfl rfl (by omega) (c_isThere RD) ?_
  refine zS_if_ne (tgt := 10) (zdec eX9_worthy 2 rfl) rfl (fun c1 => ?_) (fun c1 => ?_)
  · have z1 := d2i_n.mp c1
    refine zS_aload_n (zdec eX9_worthy 5 rfl) rfl rfl ?_
    refine zS_iconst (zdec eX9_worthy 6 rfl) rfl ?_
    have hd0 : 0 < D 0 0 := by first | omega
    refine zvMV (M' := mX9_planByOtherLaw) (As := [zI 1]) (st := []) (zdec eX9_worthy 7 rfl) kM_X9_164 kV_X9_planByOtherLaw ⟨by decide, rfl⟩ rfl rfl rfl rfl rfl (by omega) (c_otherLaw (by omega) VD hd0 RD (by omega) (by omega)) (fun h2 ⟨⟨W2, S2, O2, m2⟩, g2⟩ => ?_)
    have f2 : Fr sQ h h2 := g2.mono (fun k j z => by omega)
    refine zS_aload_n (zdec eX9_worthy 8 rfl) rfl rfl ?_
    refine zS_getref (i := 1) (zdec eX9_worthy 9 rfl) kF_X9_19 ⟨by decide, rfl⟩ rfl rfl rfl rfl rfl ?_
    refine zS_getfieldE (x := 11) (v := ((ordP (wS (pb0 D) 4 1)).length : Int)) (zdec eX9_worthy 10 rfl) kF_X9_167 ⟨by decide, rfl⟩ rfl rfl rfl O2.1 ?_
    refine zS_if_le (tgt := 37) (zdec eX9_worthy 11 rfl) rfl (fun c2 => ?_) (fun c2 => ?_)
    · refine zS_iconst (zdec eX9_worthy 18 rfl) rfl ?_
      exact zlMI (zdec eX9_worthy 19 rfl) rfl ⟨by unfold a_worthy; rw [if_pos (by omega), if_neg (by omega)], f2⟩
    · refine zS_aload_n (zdec eX9_worthy 12 rfl) rfl rfl ?_
      refine zS_getref (i := 1) (zdec eX9_worthy 13 rfl) kF_X9_19 ⟨by decide, rfl⟩ rfl rfl rfl rfl rfl ?_
      refine zS_getref (i := 22) (zdec eX9_worthy 14 rfl) kF_X9_170 ⟨by decide, rfl⟩ rfl rfl rfl rfl rfl ?_
      refine zS_iconst (zdec eX9_worthy 15 rfl) rfl ?_
      refine zS_ialoadE (v := ((ordP (wS (pb0 D) 4 1)).getD 0 0)) (zdec eX9_worthy 16 rfl) ⟨by decide, rfl⟩ (by decide) (by decide) (O2.2 0 (by omega)) ?_
      refine zS_goto (tgt := 38) (zdec eX9_worthy 17 rfl) rfl ?_
      exact zlMI (zdec eX9_worthy 19 rfl) rfl ⟨by unfold a_worthy; rw [if_pos (by omega), if_pos (by omega)], f2⟩
  · have z1 := d2i_0.mp c1
    refine zS_bipush (zdec eX9_worthy 3 rfl) rfl rfl ?_
    exact zlMI (zdec eX9_worthy 4 rfl) rfl ⟨by unfold a_worthy; rw [if_neg (by omega)], Fr.rf⟩

abbrev sQ : Int → Int → Prop := fun k _ => k = 14 ∨ (26 ≤ k ∧ k ≤ 31) ∨ (75 ≤ k ∧ k ≤ 107)
theorem c_byLawP {d : Nat} {h : zH} {D : Dk} {p : Pb} {q : Int → Int} (hp : pb0 D = p) (hq : planP p = q) (hd : 5 ≤ d) (VD : DV D) (hd0 : 0 < D 0 0) (RD : DC h 15 D) : zMA d mX9_byLaw [zA 0] h 14 (fun h' => (PV p ∧ WC h' p ∧ PlC h' p q ∧ OrdC h' (ordP p)) ∧ ((∀ b, 0 ≤ q b) ∧ (∀ b, q b ≤ pDays p) ∧ (∀ b, 0 ≤ b → b < pNb p → pIn p b = false → q b = pDays p)) ∧ Fr sQ h h' ∧ DC h' 15 D) := by
  refine zmet rfl rfl rfl ?_
  refine zS_aload_n (zdec eX9_byLaw 0 rfl) rfl rfl ?_
  refine zS_getref (i := 1) (zdec eX9_byLaw 1 rfl) kF_X9_19 ⟨by decide, rfl⟩ rfl rfl rfl rfl rfl ?_
  refine zvMV (M' := mX8_asTold) (As := []) (st := []) (zdec eX9_byLaw 2 rfl) kM_X9_130 kV_X8_asTold ⟨by decide, rfl⟩ rfl rfl rfl rfl rfl (by omega) (c_asTold (by omega) hd0 VD RD) (fun h2 ⟨R, cl2, g2⟩ => ?_)
  have V := pb0_V VD hd0
  rw [hp] at R V
  refine zS_aload_n (zdec eX9_byLaw 3 rfl) rfl rfl ?_
  refine zS_getref (i := 1) (zdec eX9_byLaw 4 rfl) kF_X9_19 ⟨by decide, rfl⟩ rfl rfl rfl rfl rfl ?_
  refine zvMV (M' := mX8_planByLaw) (As := []) (st := []) (zdec eX9_byLaw 5 rfl) kM_X9_271 kV_X8_planByLaw ⟨by decide, rfl⟩ rfl rfl rfl rfl rfl (by omega) (c_planByLaw (by omega) V R) (fun h3 ⟨S3, O3, m3, f3⟩ => ?_)
  have W3 := R.fr V f3 (fun k j z => by unfold wcP; omega)
  refine zS_aload_n (zdec eX9_byLaw 6 rfl) rfl rfl ?_
  refine zS_getref (i := 1) (zdec eX9_byLaw 7 rfl) kF_X9_19 ⟨by decide, rfl⟩ rfl rfl rfl rfl rfl ?_
  rw [hq] at S3
  have fb : Fr sQ h h3 := g2.tr f3 (fun k j z => by omega) (fun k j z => by omega)
  exact zlMA (zdec eX9_byLaw 8 rfl) rfl (by decide) ⟨⟨V, W3, S3, O3⟩, ⟨fun b => by rw [← hq]; exact (planP_rng V b).1, fun b => by rw [← hq]; exact (planP_rng V b).2, fun b b0 b1 hi => by rw [← hq]; exact planP_in V b0 b1 hi⟩, fb, RD.fr fb (fun k j w => by omega)⟩
noncomputable def a_rank (D : Dk) (x : Int) : Int := if 0 ≤ x ∧ x < D 0 7 then D 1 x else -2
theorem p_rank {d : Nat} {h : zH} {D : Dk} {x : Int} (hd : 20 ≤ d) (VD : DV D) (RD : DC h 15 D) : zMI d mX9_rank [zA 0, zI x] h (fun r h' => r = a_rank D x ∧ Fr sQ h h') := by
  obtain ⟨p, hp⟩ : ∃ p, pb0 D = p := ⟨_, rfl⟩
  obtain ⟨q, hq⟩ : ∃ q, planP p = q := ⟨_, rfl⟩
  have pd : pDays p = D 0 1 := by rw [← hp]; rfl
  have pn : pNb p = D 0 8 := by rw [← hp]; rfl
  have dy := VD.days
  have nb := VD.nb
  have ns := VD.ns
  have nl := VD.nl
  have na := VD.na
  have vfl := VD.fl
  have vfe := VD.fee
  refine zmet rfl rfl rfl ?_
  refine zS_aload_n (zdec eX9_rank 0 rfl) rfl rfl ?_
  refine zS_iload_n (zdec eX9_rank 1 rfl) rfl ?_
  refine zvI (M' := mX9_isSupplier) (As := [zI x]) (st := []) (zdec eX9_rank 2 rfl) kM_X9_108 kV_X9_isSupplier ⟨by decide, rfl⟩ rfl rfl rfl rfl rfl (by omega) (c_isSup RD) ?_
  refine zS_if_eq (tgt := 20) (zdec eX9_rank 3 rfl) rfl (fun c1 => ?_) (fun c1 => ?_)
  · have z1 := d2i_0.mp c1
    refine zS_bipush (zdec eX9_rank 10 rfl) rfl rfl ?_
    exact zlMI (zdec eX9_rank 11 rfl) rfl ⟨by unfold a_rank; (try rw [hp]); (try rw [hq]); first | rw [if_pos (by omega)] | rw [if_neg (by omega)], Fr.rf⟩
  · have z1 := d2i_n.mp c1
    refine zS_aload_n (zdec eX9_rank 4 rfl) rfl rfl ?_
    refine zS_getref (i := 2) (zdec eX9_rank 5 rfl) kF_X9_27 ⟨by decide, rfl⟩ rfl rfl rfl rfl rfl ?_
    refine zS_getref (i := 25) (zdec eX9_rank 6 rfl) kF_X9_112 ⟨by decide, rfl⟩ rfl rfl rfl rfl rfl ?_
    refine zS_iload_n (zdec eX9_rank 7 rfl) rfl ?_
    refine zS_ialoadE (v := (D 1 x)) (zdec eX9_rank 8 rfl) ⟨by decide, rfl⟩ (by omega) (by omega) (RD.rk (by omega) (by omega) (by omega)) ?_
    refine zS_goto (tgt := 22) (zdec eX9_rank 9 rfl) rfl ?_
    exact zlMI (zdec eX9_rank 11 rfl) rfl ⟨by unfold a_rank; (try rw [hp]); (try rw [hq]); first | rw [if_pos (by omega)] | rw [if_neg (by omega)], Fr.rf⟩
noncomputable def a_bill (D : Dk) (x y : Int) : Int := if (0 ≤ x ∧ x < D 0 8) ∧ 0 ≤ y ∧ y < 7 then D (3 + x) y else -2
theorem p_bill {d : Nat} {h : zH} {D : Dk} {x y : Int} (hd : 20 ≤ d) (VD : DV D) (RD : DC h 15 D) : zMI d mX9_bill [zA 0, zI x, zI y] h (fun r h' => r = a_bill D x y ∧ Fr sQ h h') := by
  obtain ⟨p, hp⟩ : ∃ p, pb0 D = p := ⟨_, rfl⟩
  obtain ⟨q, hq⟩ : ∃ q, planP p = q := ⟨_, rfl⟩
  have pd : pDays p = D 0 1 := by rw [← hp]; rfl
  have pn : pNb p = D 0 8 := by rw [← hp]; rfl
  have dy := VD.days
  have nb := VD.nb
  have ns := VD.ns
  have nl := VD.nl
  have na := VD.na
  have vfl := VD.fl
  have vfe := VD.fee
  refine zmet rfl rfl rfl ?_
  refine zS_aload_n (zdec eX9_bill 0 rfl) rfl rfl ?_
  refine zS_iload_n (zdec eX9_bill 1 rfl) rfl ?_
  refine zvI (M' := mX9_isBill) (As := [zI x]) (st := []) (zdec eX9_bill 2 rfl) kM_X9_116 kV_X9_isBill ⟨by decide, rfl⟩ rfl rfl rfl rfl rfl (by omega) (c_isBill RD) ?_
  refine zS_if_eq (tgt := 18) (zdec eX9_bill 3 rfl) rfl (fun c1 => ?_) (fun c1 => ?_)
  · have z1 := d2i_0.mp c1
    refine zS_bipush (zdec eX9_bill 9 rfl) rfl rfl ?_
    exact zlMI (zdec eX9_bill 10 rfl) rfl ⟨by unfold a_bill; (try rw [hp]); (try rw [hq]); first | rw [if_pos (by omega)] | rw [if_neg (by omega)], Fr.rf⟩
  · have z1 := d2i_n.mp c1
    refine zS_iload_n (zdec eX9_bill 4 rfl) rfl ?_
    refine zS_if_lt (tgt := 18) (zdec eX9_bill 5 rfl) rfl (fun c2 => ?_) (fun c2 => ?_)
    · refine zS_bipush (zdec eX9_bill 9 rfl) rfl rfl ?_
      exact zlMI (zdec eX9_bill 10 rfl) rfl ⟨by unfold a_bill; (try rw [hp]); (try rw [hq]); first | rw [if_pos (by omega)] | rw [if_neg (by omega)], Fr.rf⟩
    · refine zS_iload_n (zdec eX9_bill 6 rfl) rfl ?_
      refine zS_bipush (zdec eX9_bill 7 rfl) rfl rfl ?_
      refine zS_icmp_lt (tgt := 21) (zdec eX9_bill 8 rfl) rfl (fun c3 => ?_) (fun c3 => ?_)
      · refine zS_aload_n (zdec eX9_bill 11 rfl) rfl rfl ?_
        refine zS_getref (i := 2) (zdec eX9_bill 12 rfl) kF_X9_27 ⟨by decide, rfl⟩ rfl rfl rfl rfl rfl ?_
        refine zS_getref (i := 26) (zdec eX9_bill 13 rfl) kF_X9_119 ⟨by decide, rfl⟩ rfl rfl rfl rfl rfl ?_
        refine zS_iload_n (zdec eX9_bill 14 rfl) rfl ?_
        refine zS_aaload1 (i := 1) (zdec eX9_bill 15 rfl) (Or.inr (Or.inl rfl)) ⟨by decide, rfl⟩ rfl rfl rfl (by omega) (by omega) ?_
        refine zS_iload_n (zdec eX9_bill 16 rfl) rfl ?_
        refine zS_ialoadE (v := (D (3 + x) y)) (zdec eX9_bill 17 rfl) (zrow_18 (by omega) (by omega)) (by omega) (by omega) (RD.row (by omega) (by omega) (by omega) (by omega) (by omega)) ?_
        exact zlMI (zdec eX9_bill 18 rfl) rfl ⟨by unfold a_bill; (try rw [hp]); (try rw [hq]); first | rw [if_pos (by omega)] | rw [if_neg (by omega)], Fr.rf⟩
      · refine zS_bipush (zdec eX9_bill 9 rfl) rfl rfl ?_
        exact zlMI (zdec eX9_bill 10 rfl) rfl ⟨by unfold a_bill; (try rw [hp]); (try rw [hq]); first | rw [if_pos (by omega)] | rw [if_neg (by omega)], Fr.rf⟩
noncomputable def a_net (D : Dk) (x : Int) : Int := if 0 ≤ x ∧ x < D 0 8 then netD D x else -2
theorem p_net {d : Nat} {h : zH} {D : Dk} {x : Int} (hd : 20 ≤ d) (VD : DV D) (RD : DC h 15 D) : zMI d mX9_net [zA 0, zI x] h (fun r h' => r = a_net D x ∧ Fr sQ h h') := by
  obtain ⟨p, hp⟩ : ∃ p, pb0 D = p := ⟨_, rfl⟩
  obtain ⟨q, hq⟩ : ∃ q, planP p = q := ⟨_, rfl⟩
  have pd : pDays p = D 0 1 := by rw [← hp]; rfl
  have pn : pNb p = D 0 8 := by rw [← hp]; rfl
  have dy := VD.days
  have nb := VD.nb
  have ns := VD.ns
  have nl := VD.nl
  have na := VD.na
  have vfl := VD.fl
  have vfe := VD.fee
  refine zmet rfl rfl rfl ?_
  refine zS_aload_n (zdec eX9_net 0 rfl) rfl rfl ?_
  refine zS_iload_n (zdec eX9_net 1 rfl) rfl ?_
  refine zvI (M' := mX9_isBill) (As := [zI x]) (st := []) (zdec eX9_net 2 rfl) kM_X9_116 kV_X9_isBill ⟨by decide, rfl⟩ rfl rfl rfl rfl rfl (by omega) (c_isBill RD) ?_
  refine zS_if_eq (tgt := 19) (zdec eX9_net 3 rfl) rfl (fun c1 => ?_) (fun c1 => ?_)
  · have z1 := d2i_0.mp c1
    refine zS_bipush (zdec eX9_net 9 rfl) rfl rfl ?_
    exact zlMI (zdec eX9_net 10 rfl) rfl ⟨by unfold a_net; (try rw [hp]); (try rw [hq]); first | rw [if_pos (by omega)] | rw [if_neg (by omega)], Fr.rf⟩
  · have z1 := d2i_n.mp c1
    refine zS_aload_n (zdec eX9_net 4 rfl) rfl rfl ?_
    refine zS_getref (i := 2) (zdec eX9_net 5 rfl) kF_X9_27 ⟨by decide, rfl⟩ rfl rfl rfl rfl rfl ?_
    refine zS_iload_n (zdec eX9_net 6 rfl) rfl ?_
    refine zvI (M' := mX0_netOf) (As := [zI x]) (st := []) (zdec eX9_net 7 rfl) kM_X9_123 kV_X0_netOf ⟨by decide, rfl⟩ rfl rfl rfl rfl rfl (by omega) (c_netOf VD RD (by omega) (by omega)) ?_
    refine zS_goto (tgt := 21) (zdec eX9_net 8 rfl) rfl ?_
    exact zlMI (zdec eX9_net 10 rfl) rfl ⟨by unfold a_net; (try rw [hp]); (try rw [hq]); first | rw [if_pos (by omega)] | rw [if_neg (by omega)], Fr.rf⟩
noncomputable def a_closed (D : Dk) : Int := if 0 < D 0 0 then clI D (D 0 10) else -2
theorem p_closed {d : Nat} {h : zH} {D : Dk} (hd : 20 ≤ d) (VD : DV D) (RD : DC h 15 D) : zMI d mX9_closed [zA 0] h (fun r h' => r = a_closed D ∧ Fr sQ h h') := by
  obtain ⟨p, hp⟩ : ∃ p, pb0 D = p := ⟨_, rfl⟩
  obtain ⟨q, hq⟩ : ∃ q, planP p = q := ⟨_, rfl⟩
  have pd : pDays p = D 0 1 := by rw [← hp]; rfl
  have pn : pNb p = D 0 8 := by rw [← hp]; rfl
  have dy := VD.days
  have nb := VD.nb
  have ns := VD.ns
  have nl := VD.nl
  have na := VD.na
  have vfl := VD.fl
  have vfe := VD.fee
  refine zmet rfl rfl rfl ?_
  refine zS_aload_n (zdec eX9_closed 0 rfl) rfl rfl ?_
  refine zvI (M' := mX9_isThere) (As := []) (st := []) (zdec eX9_closed 1 rfl) kM_X9_143 kV_X9_isThere ⟨by decide, rfl⟩ rfl rfl rfl rfl rfl (by omega) (c_isThere RD) ?_
  refine zS_if_eq (tgt := 17) (zdec eX9_closed 2 rfl) rfl (fun c1 => ?_) (fun c1 => ?_)
  · have z1 := d2i_0.mp c1
    refine zS_bipush (zdec eX9_closed 7 rfl) rfl rfl ?_
    exact zlMI (zdec eX9_closed 8 rfl) rfl ⟨by unfold a_closed; (try rw [hp]); (try rw [hq]); first | rw [if_pos (by omega)] | rw [if_neg (by omega)], Fr.rf⟩
  · have z1 := d2i_n.mp c1
    refine zS_aload_n (zdec eX9_closed 3 rfl) rfl rfl ?_
    refine zS_getref (i := 2) (zdec eX9_closed 4 rfl) kF_X9_27 ⟨by decide, rfl⟩ rfl rfl rfl rfl rfl ?_
    refine zvI (M' := mX0_closedDays) (As := []) (st := []) (zdec eX9_closed 5 rfl) kM_X9_147 kV_X0_closedDays ⟨by decide, rfl⟩ rfl rfl rfl rfl rfl (by omega) (c_closedDays VD RD) ?_
    refine zS_goto (tgt := 19) (zdec eX9_closed 6 rfl) rfl ?_
    exact zlMI (zdec eX9_closed 8 rfl) rfl ⟨by unfold a_closed; (try rw [hp]); (try rw [hq]); first | rw [if_pos (by omega)] | rw [if_neg (by omega)], Fr.rf⟩
noncomputable def a_costs (D : Dk) (x y : Int) : Int := if (0 ≤ x ∧ x < D 0 8) ∧ 0 ≤ y ∧ y ≤ D 0 1 then priceP (pb0 D) x y else -2
theorem p_costs {d : Nat} {h : zH} {D : Dk} {x y : Int} (hd : 20 ≤ d) (VD : DV D) (RD : DC h 15 D) : zMI d mX9_costs [zA 0, zI x, zI y] h (fun r h' => r = a_costs D x y ∧ Fr sQ h h') := by
  obtain ⟨p, hp⟩ : ∃ p, pb0 D = p := ⟨_, rfl⟩
  obtain ⟨q, hq⟩ : ∃ q, planP p = q := ⟨_, rfl⟩
  have pd : pDays p = D 0 1 := by rw [← hp]; rfl
  have pn : pNb p = D 0 8 := by rw [← hp]; rfl
  have dy := VD.days
  have nb := VD.nb
  have ns := VD.ns
  have nl := VD.nl
  have na := VD.na
  have vfl := VD.fl
  have vfe := VD.fee
  refine zmet rfl rfl rfl ?_
  refine zS_aload_n (zdec eX9_costs 0 rfl) rfl rfl ?_
  refine zS_iload_n (zdec eX9_costs 1 rfl) rfl ?_
  refine zvI (M' := mX9_isBill) (As := [zI x]) (st := []) (zdec eX9_costs 2 rfl) kM_X9_116 kV_X9_isBill ⟨by decide, rfl⟩ rfl rfl rfl rfl rfl (by omega) (c_isBill RD) ?_
  refine zS_if_eq (tgt := 23) (zdec eX9_costs 3 rfl) rfl (fun c1 => ?_) (fun c1 => ?_)
  · have z1 := d2i_0.mp c1
    refine zS_bipush (zdec eX9_costs 11 rfl) rfl rfl ?_
    exact zlMI (zdec eX9_costs 12 rfl) rfl ⟨by unfold a_costs; (try rw [hp]); (try rw [hq]); first | rw [if_pos (by omega)] | rw [if_neg (by omega)], Fr.rf⟩
  · have z1 := d2i_n.mp c1
    refine zS_iload_n (zdec eX9_costs 4 rfl) rfl ?_
    refine zS_if_lt (tgt := 23) (zdec eX9_costs 5 rfl) rfl (fun c2 => ?_) (fun c2 => ?_)
    · refine zS_bipush (zdec eX9_costs 11 rfl) rfl rfl ?_
      exact zlMI (zdec eX9_costs 12 rfl) rfl ⟨by unfold a_costs; (try rw [hp]); (try rw [hq]); first | rw [if_pos (by omega)] | rw [if_neg (by omega)], Fr.rf⟩
    · refine zS_iload_n (zdec eX9_costs 6 rfl) rfl ?_
      refine zS_aload_n (zdec eX9_costs 7 rfl) rfl rfl ?_
      refine zS_getref (i := 2) (zdec eX9_costs 8 rfl) kF_X9_27 ⟨by decide, rfl⟩ rfl rfl rfl rfl rfl ?_
      refine zS_getfieldE (x := 1) (v := (D 0 1)) (zdec eX9_costs 9 rfl) kF_X9_127 ⟨by decide, rfl⟩ rfl rfl rfl (RD.s (by decide) (by decide)) ?_
      refine zS_icmp_le (tgt := 26) (zdec eX9_costs 10 rfl) rfl (fun c3 => ?_) (fun c3 => ?_)
      · refine zS_aload_n (zdec eX9_costs 13 rfl) rfl rfl ?_
        refine zS_getref (i := 1) (zdec eX9_costs 14 rfl) kF_X9_19 ⟨by decide, rfl⟩ rfl rfl rfl rfl rfl ?_
        have hd0 : 0 < D 0 0 := by first | omega | exact VD.bill (show 0 ≤ x by omega) (show x < D 0 8 by omega) | exact VD.day (show 0 ≤ x by omega) (show x < D 0 1 by omega) | exact VD.sup (show 0 ≤ x by omega) (show x < D 0 7 by omega)
        refine zvMV (M' := mX8_asTold) (As := []) (st := []) (zdec eX9_costs 15 rfl) kM_X9_130 kV_X8_asTold ⟨by decide, rfl⟩ rfl rfl rfl rfl rfl (by omega) (c_asTold (by omega) hd0 VD RD) (fun h2 ⟨R, cl2, g2⟩ => ?_)
        have V := pb0_V VD hd0
        rw [hp] at R V
        have f2 : Fr sQ h h2 := g2.mono (fun k j z => by omega)
        have RD2 : DC h2 15 D := RD.fr g2 (fun k j z => by omega)
        refine zS_aload_n (zdec eX9_costs 16 rfl) rfl rfl ?_
        refine zS_getref (i := 1) (zdec eX9_costs 17 rfl) kF_X9_19 ⟨by decide, rfl⟩ rfl rfl rfl rfl rfl ?_
        refine zS_iload_n (zdec eX9_costs 18 rfl) rfl ?_
        refine zS_iload_n (zdec eX9_costs 19 rfl) rfl ?_
        refine zvI (M' := mX8_price) (As := [zI x, zI y]) (st := []) (zdec eX9_costs 20 rfl) kM_X9_133 kV_X8_price ⟨by decide, rfl⟩ rfl rfl rfl rfl rfl (by omega) (c_price (by omega) V R (by omega) (by omega) (by omega) (by omega)) ?_
        exact zlMI (zdec eX9_costs 21 rfl) rfl ⟨by unfold a_costs; (try rw [hp]); (try rw [hq]); first | rw [if_pos (by omega)] | rw [if_neg (by omega)], f2⟩
      · refine zS_bipush (zdec eX9_costs 11 rfl) rfl rfl ?_
        exact zlMI (zdec eX9_costs 12 rfl) rfl ⟨by unfold a_costs; (try rw [hp]); (try rw [hq]); first | rw [if_pos (by omega)] | rw [if_neg (by omega)], Fr.rf⟩
noncomputable def a_day (D : Dk) (x : Int) : Int := if 0 ≤ x ∧ x < D 0 8 then dayC (pb0 D) (planP (pb0 D)) x else -2
theorem p_day {d : Nat} {h : zH} {D : Dk} {x : Int} (hd : 20 ≤ d) (VD : DV D) (RD : DC h 15 D) : zMI d mX9_day [zA 0, zI x] h (fun r h' => r = a_day D x ∧ Fr sQ h h') := by
  obtain ⟨p, hp⟩ : ∃ p, pb0 D = p := ⟨_, rfl⟩
  obtain ⟨q, hq⟩ : ∃ q, planP p = q := ⟨_, rfl⟩
  have pd : pDays p = D 0 1 := by rw [← hp]; rfl
  have pn : pNb p = D 0 8 := by rw [← hp]; rfl
  have dy := VD.days
  have nb := VD.nb
  have ns := VD.ns
  have nl := VD.nl
  have na := VD.na
  have vfl := VD.fl
  have vfe := VD.fee
  refine zmet rfl rfl rfl ?_
  refine zS_aload_n (zdec eX9_day 0 rfl) rfl rfl ?_
  refine zS_iload_n (zdec eX9_day 1 rfl) rfl ?_
  refine zvI (M' := mX9_isBill) (As := [zI x]) (st := []) (zdec eX9_day 2 rfl) kM_X9_116 kV_X9_isBill ⟨by decide, rfl⟩ rfl rfl rfl rfl rfl (by omega) (c_isBill RD) ?_
  refine zS_if_eq (tgt := 20) (zdec eX9_day 3 rfl) rfl (fun c1 => ?_) (fun c1 => ?_)
  · have z1 := d2i_0.mp c1
    refine zS_bipush (zdec eX9_day 10 rfl) rfl rfl ?_
    exact zlMI (zdec eX9_day 11 rfl) rfl ⟨by unfold a_day; (try rw [hp]); (try rw [hq]); first | rw [if_pos (by omega)] | rw [if_neg (by omega)], Fr.rf⟩
  · have z1 := d2i_n.mp c1
    refine zS_aload_n (zdec eX9_day 4 rfl) rfl rfl ?_
    have hd0 : 0 < D 0 0 := by first | omega | exact VD.bill (show 0 ≤ x by omega) (show x < D 0 8 by omega) | exact VD.day (show 0 ≤ x by omega) (show x < D 0 1 by omega) | exact VD.sup (show 0 ≤ x by omega) (show x < D 0 7 by omega)
    refine zvMA (M' := mX9_byLaw) (As := []) (st := []) (zdec eX9_day 5 rfl) kM_X9_173 kV_X9_byLaw ⟨by decide, rfl⟩ rfl rfl rfl rfl rfl (by omega) (c_byLawP hp hq (by omega) VD hd0 RD) (fun h2 ⟨⟨V, R, S, O⟩, ⟨q0, q1, qi⟩, f2, RD2⟩ => ?_)
    refine zS_getref (i := 21) (zdec eX9_day 6 rfl) kF_X9_177 ⟨by decide, rfl⟩ rfl rfl rfl rfl rfl ?_
    refine zS_iload_n (zdec eX9_day 7 rfl) rfl ?_
    refine zS_ialoadE (v := (dayC p q x)) (zdec eX9_day 8 rfl) ⟨by decide, rfl⟩ (by omega) (by omega) (S.day (by omega) (by omega)) ?_
    refine zS_goto (tgt := 22) (zdec eX9_day 9 rfl) rfl ?_
    exact zlMI (zdec eX9_day 11 rfl) rfl ⟨by unfold a_day; (try rw [hp]); (try rw [hq]); first | rw [if_pos (by omega)] | rw [if_neg (by omega)], f2⟩
noncomputable def a_file (D : Dk) (x : Int) : Int := if 0 ≤ x ∧ x < D 0 1 then bitsI (onP (pb0 D) (planP (pb0 D)) x) (pNb (pb0 D)) else -2
theorem p_file {d : Nat} {h : zH} {D : Dk} {x : Int} (hd : 20 ≤ d) (VD : DV D) (RD : DC h 15 D) : zMI d mX9_file [zA 0, zI x] h (fun r h' => r = a_file D x ∧ Fr sQ h h') := by
  obtain ⟨p, hp⟩ : ∃ p, pb0 D = p := ⟨_, rfl⟩
  obtain ⟨q, hq⟩ : ∃ q, planP p = q := ⟨_, rfl⟩
  have pd : pDays p = D 0 1 := by rw [← hp]; rfl
  have pn : pNb p = D 0 8 := by rw [← hp]; rfl
  have dy := VD.days
  have nb := VD.nb
  have ns := VD.ns
  have nl := VD.nl
  have na := VD.na
  have vfl := VD.fl
  have vfe := VD.fee
  refine zmet rfl rfl rfl ?_
  refine zS_aload_n (zdec eX9_file 0 rfl) rfl rfl ?_
  refine zS_iload_n (zdec eX9_file 1 rfl) rfl ?_
  refine zvI (M' := mX9_isDay) (As := [zI x]) (st := []) (zdec eX9_file 2 rfl) kM_X9_137 kV_X9_isDay ⟨by decide, rfl⟩ rfl rfl rfl rfl rfl (by omega) (c_isDay RD) ?_
  refine zS_if_eq (tgt := 20) (zdec eX9_file 3 rfl) rfl (fun c1 => ?_) (fun c1 => ?_)
  · have z1 := d2i_0.mp c1
    refine zS_bipush (zdec eX9_file 10 rfl) rfl rfl ?_
    exact zlMI (zdec eX9_file 11 rfl) rfl ⟨by unfold a_file; (try rw [hp]); (try rw [hq]); first | rw [if_pos (by omega)] | rw [if_neg (by omega)], Fr.rf⟩
  · have z1 := d2i_n.mp c1
    refine zS_aload_n (zdec eX9_file 4 rfl) rfl rfl ?_
    have hd0 : 0 < D 0 0 := by first | omega | exact VD.bill (show 0 ≤ x by omega) (show x < D 0 8 by omega) | exact VD.day (show 0 ≤ x by omega) (show x < D 0 1 by omega) | exact VD.sup (show 0 ≤ x by omega) (show x < D 0 7 by omega)
    refine zvMA (M' := mX9_byLaw) (As := []) (st := []) (zdec eX9_file 5 rfl) kM_X9_173 kV_X9_byLaw ⟨by decide, rfl⟩ rfl rfl rfl rfl rfl (by omega) (c_byLawP hp hq (by omega) VD hd0 RD) (fun h2 ⟨⟨V, R, S, O⟩, ⟨q0, q1, qi⟩, f2, RD2⟩ => ?_)
    refine zS_getref (i := 24) (zdec eX9_file 6 rfl) kF_X9_180 ⟨by decide, rfl⟩ rfl rfl rfl rfl rfl ?_
    refine zS_iload_n (zdec eX9_file 7 rfl) rfl ?_
    refine zS_ialoadE (v := (bitsI (onP p q x) (pNb p))) (zdec eX9_file 8 rfl) ⟨by decide, rfl⟩ (by omega) (by omega) ((S.file (by omega) (by omega)).eq V) ?_
    refine zS_goto (tgt := 22) (zdec eX9_file 9 rfl) rfl ?_
    exact zlMI (zdec eX9_file 11 rfl) rfl ⟨by unfold a_file; (try rw [hp]); (try rw [hq]); first | rw [if_pos (by omega)] | rw [if_neg (by omega)], f2⟩
noncomputable def a_pays (D : Dk) (x : Int) : Int := if 0 ≤ x ∧ x < D 0 1 then outP (pb0 D) (planP (pb0 D)) x else -2
theorem p_pays {d : Nat} {h : zH} {D : Dk} {x : Int} (hd : 20 ≤ d) (VD : DV D) (RD : DC h 15 D) : zMI d mX9_pays [zA 0, zI x] h (fun r h' => r = a_pays D x ∧ Fr sQ h h') := by
  obtain ⟨p, hp⟩ : ∃ p, pb0 D = p := ⟨_, rfl⟩
  obtain ⟨q, hq⟩ : ∃ q, planP p = q := ⟨_, rfl⟩
  have pd : pDays p = D 0 1 := by rw [← hp]; rfl
  have pn : pNb p = D 0 8 := by rw [← hp]; rfl
  have dy := VD.days
  have nb := VD.nb
  have ns := VD.ns
  have nl := VD.nl
  have na := VD.na
  have vfl := VD.fl
  have vfe := VD.fee
  refine zmet rfl rfl rfl ?_
  refine zS_aload_n (zdec eX9_pays 0 rfl) rfl rfl ?_
  refine zS_iload_n (zdec eX9_pays 1 rfl) rfl ?_
  refine zvI (M' := mX9_isDay) (As := [zI x]) (st := []) (zdec eX9_pays 2 rfl) kM_X9_137 kV_X9_isDay ⟨by decide, rfl⟩ rfl rfl rfl rfl rfl (by omega) (c_isDay RD) ?_
  refine zS_if_eq (tgt := 19) (zdec eX9_pays 3 rfl) rfl (fun c1 => ?_) (fun c1 => ?_)
  · have z1 := d2i_0.mp c1
    refine zS_bipush (zdec eX9_pays 9 rfl) rfl rfl ?_
    exact zlMI (zdec eX9_pays 10 rfl) rfl ⟨by unfold a_pays; (try rw [hp]); (try rw [hq]); first | rw [if_pos (by omega)] | rw [if_neg (by omega)], Fr.rf⟩
  · have z1 := d2i_n.mp c1
    refine zS_aload_n (zdec eX9_pays 4 rfl) rfl rfl ?_
    have hd0 : 0 < D 0 0 := by first | omega | exact VD.bill (show 0 ≤ x by omega) (show x < D 0 8 by omega) | exact VD.day (show 0 ≤ x by omega) (show x < D 0 1 by omega) | exact VD.sup (show 0 ≤ x by omega) (show x < D 0 7 by omega)
    refine zvMA (M' := mX9_byLaw) (As := []) (st := []) (zdec eX9_pays 5 rfl) kM_X9_173 kV_X9_byLaw ⟨by decide, rfl⟩ rfl rfl rfl rfl rfl (by omega) (c_byLawP hp hq (by omega) VD hd0 RD) (fun h2 ⟨⟨V, R, S, O⟩, ⟨q0, q1, qi⟩, f2, RD2⟩ => ?_)
    refine zS_iload_n (zdec eX9_pays 6 rfl) rfl ?_
    refine zvI (M' := mX8_paidOn) (As := [zI x]) (st := []) (zdec eX9_pays 7 rfl) kM_X9_183 kV_X8_paidOn ⟨by decide, rfl⟩ rfl rfl rfl rfl rfl (by omega) (c_paidOn (by omega) V R S q0 q1 qi (by omega) (by omega)) ?_
    refine zS_goto (tgt := 21) (zdec eX9_pays 8 rfl) rfl ?_
    exact zlMI (zdec eX9_pays 10 rfl) rfl ⟨by unfold a_pays; (try rw [hp]); (try rw [hq]); first | rw [if_pos (by omega)] | rw [if_neg (by omega)], f2⟩
noncomputable def a_cash (D : Dk) (x : Int) : Int := if 0 ≤ x ∧ x < D 0 1 then cashP (pb0 D) (planP (pb0 D)) x else -100000
theorem p_cash {d : Nat} {h : zH} {D : Dk} {x : Int} (hd : 20 ≤ d) (VD : DV D) (RD : DC h 15 D) : zMI d mX9_cash [zA 0, zI x] h (fun r h' => r = a_cash D x ∧ Fr sQ h h') := by
  obtain ⟨p, hp⟩ : ∃ p, pb0 D = p := ⟨_, rfl⟩
  obtain ⟨q, hq⟩ : ∃ q, planP p = q := ⟨_, rfl⟩
  have pd : pDays p = D 0 1 := by rw [← hp]; rfl
  have pn : pNb p = D 0 8 := by rw [← hp]; rfl
  have dy := VD.days
  have nb := VD.nb
  have ns := VD.ns
  have nl := VD.nl
  have na := VD.na
  have vfl := VD.fl
  have vfe := VD.fee
  refine zmet rfl rfl rfl ?_
  refine zS_aload_n (zdec eX9_cash 0 rfl) rfl rfl ?_
  refine zS_iload_n (zdec eX9_cash 1 rfl) rfl ?_
  refine zvI (M' := mX9_isDay) (As := [zI x]) (st := []) (zdec eX9_cash 2 rfl) kM_X9_137 kV_X9_isDay ⟨by decide, rfl⟩ rfl rfl rfl rfl rfl (by omega) (c_isDay RD) ?_
  refine zS_if_eq (tgt := 20) (zdec eX9_cash 3 rfl) rfl (fun c1 => ?_) (fun c1 => ?_)
  · have z1 := d2i_0.mp c1
    refine zS_ldc (zdec eX9_cash 10 rfl) kc_X9_189 rfl ?_
    exact zlMI (zdec eX9_cash 11 rfl) rfl ⟨by unfold a_cash; (try rw [hp]); (try rw [hq]); first | rw [if_pos (by omega)] | rw [if_neg (by omega)], Fr.rf⟩
  · have z1 := d2i_n.mp c1
    refine zS_aload_n (zdec eX9_cash 4 rfl) rfl rfl ?_
    have hd0 : 0 < D 0 0 := by first | omega | exact VD.bill (show 0 ≤ x by omega) (show x < D 0 8 by omega) | exact VD.day (show 0 ≤ x by omega) (show x < D 0 1 by omega) | exact VD.sup (show 0 ≤ x by omega) (show x < D 0 7 by omega)
    refine zvMA (M' := mX9_byLaw) (As := []) (st := []) (zdec eX9_cash 5 rfl) kM_X9_173 kV_X9_byLaw ⟨by decide, rfl⟩ rfl rfl rfl rfl rfl (by omega) (c_byLawP hp hq (by omega) VD hd0 RD) (fun h2 ⟨⟨V, R, S, O⟩, ⟨q0, q1, qi⟩, f2, RD2⟩ => ?_)
    refine zS_getref (i := 23) (zdec eX9_cash 6 rfl) kF_X9_186 ⟨by decide, rfl⟩ rfl rfl rfl rfl rfl ?_
    refine zS_iload_n (zdec eX9_cash 7 rfl) rfl ?_
    refine zS_ialoadE (v := (cashP p q x)) (zdec eX9_cash 8 rfl) ⟨by decide, rfl⟩ (by omega) (by omega) (S.cash (by omega) (by omega)) ?_
    refine zS_goto (tgt := 22) (zdec eX9_cash 9 rfl) rfl ?_
    exact zlMI (zdec eX9_cash 11 rfl) rfl ⟨by unfold a_cash; (try rw [hp]); (try rw [hq]); first | rw [if_pos (by omega)] | rw [if_neg (by omega)], f2⟩
noncomputable def a_room (D : Dk) : Int := if 0 < D 0 0 then cashP (pb0 D) (planP (pb0 D)) (amI (cashP (pb0 D) (planP (pb0 D))) (pDays (pb0 D))) - D 0 5 else -100000
theorem p_room {d : Nat} {h : zH} {D : Dk} (hd : 20 ≤ d) (VD : DV D) (RD : DC h 15 D) : zMI d mX9_room [zA 0] h (fun r h' => r = a_room D ∧ Fr sQ h h') := by
  obtain ⟨p, hp⟩ : ∃ p, pb0 D = p := ⟨_, rfl⟩
  obtain ⟨q, hq⟩ : ∃ q, planP p = q := ⟨_, rfl⟩
  have pd : pDays p = D 0 1 := by rw [← hp]; rfl
  have pn : pNb p = D 0 8 := by rw [← hp]; rfl
  have dy := VD.days
  have nb := VD.nb
  have ns := VD.ns
  have nl := VD.nl
  have na := VD.na
  have vfl := VD.fl
  have vfe := VD.fee
  refine zmet rfl rfl rfl ?_
  refine zS_aload_n (zdec eX9_room 0 rfl) rfl rfl ?_
  refine zvI (M' := mX9_isThere) (As := []) (st := []) (zdec eX9_room 1 rfl) kM_X9_143 kV_X9_isThere ⟨by decide, rfl⟩ rfl rfl rfl rfl rfl (by omega) (c_isThere RD) ?_
  refine zS_if_ne (tgt := 10) (zdec eX9_room 2 rfl) rfl (fun c1 => ?_) (fun c1 => ?_)
  · have z1 := d2i_n.mp c1
    refine zS_aload_n (zdec eX9_room 5 rfl) rfl rfl ?_
    have hd0 : 0 < D 0 0 := by first | omega
    refine zvMA (M' := mX9_byLaw) (As := []) (st := []) (zdec eX9_room 6 rfl) kM_X9_173 kV_X9_byLaw ⟨by decide, rfl⟩ rfl rfl rfl rfl rfl (by omega) (c_byLawP hp hq (by omega) VD hd0 RD) (fun h2 ⟨⟨V, R, S, O⟩, ⟨q0, q1, qi⟩, f2, RD2⟩ => ?_)
    refine zS_getref (i := 23) (zdec eX9_room 7 rfl) kF_X9_186 ⟨by decide, rfl⟩ rfl rfl rfl rfl rfl ?_
    refine zS_aload_n (zdec eX9_room 8 rfl) rfl rfl ?_
    refine zS_getref (i := 1) (zdec eX9_room 9 rfl) kF_X9_19 ⟨by decide, rfl⟩ rfl rfl rfl rfl rfl ?_
    refine zvI (M' := mX8_tightest) (As := []) (st := [zA 30]) (zdec eX9_room 10 rfl) kM_X9_190 kV_X8_tightest ⟨by decide, rfl⟩ rfl rfl rfl rfl rfl (by omega) (c_tightest V R S) ?_
    have ar := amI_rng (f := cashP p q) (k := pDays p) (by have := V.days; omega)
    have cb := cashB V q ar.1 ar.2
    refine zS_ialoadE (v := (cashP p q (amI (cashP p q) (pDays p)))) (zdec eX9_room 11 rfl) ⟨by decide, rfl⟩ (by omega) (by omega) (S.cash ar.1 (by omega)) ?_
    refine zS_aload_n (zdec eX9_room 12 rfl) rfl rfl ?_
    refine zS_getref (i := 2) (zdec eX9_room 13 rfl) kF_X9_27 ⟨by decide, rfl⟩ rfl rfl rfl rfl rfl ?_
    refine zS_getfieldE (x := 5) (v := (D 0 5)) (zdec eX9_room 14 rfl) kF_X9_193 ⟨by decide, rfl⟩ rfl rfl rfl (RD2.s (by decide) (by decide)) ?_
    refine zS_isub (zdec eX9_room 15 rfl) ⟨by omega, by omega⟩ ?_
    exact zlMI (zdec eX9_room 16 rfl) rfl ⟨by unfold a_room; (try rw [hp]); (try rw [hq]); first | rw [if_pos (by omega)] | rw [if_neg (by omega)], f2⟩
  · have z1 := d2i_0.mp c1
    refine zS_ldc (zdec eX9_room 3 rfl) kc_X9_189 rfl ?_
    exact zlMI (zdec eX9_room 4 rfl) rfl ⟨by unfold a_room; (try rw [hp]); (try rw [hq]); first | rw [if_pos (by omega)] | rw [if_neg (by omega)], Fr.rf⟩
noncomputable def a_tight (D : Dk) : Int := if 0 < D 0 0 then amI (cashP (pb0 D) (planP (pb0 D))) (pDays (pb0 D)) else -2
theorem p_tight {d : Nat} {h : zH} {D : Dk} (hd : 20 ≤ d) (VD : DV D) (RD : DC h 15 D) : zMI d mX9_tight [zA 0] h (fun r h' => r = a_tight D ∧ Fr sQ h h') := by
  obtain ⟨p, hp⟩ : ∃ p, pb0 D = p := ⟨_, rfl⟩
  obtain ⟨q, hq⟩ : ∃ q, planP p = q := ⟨_, rfl⟩
  have pd : pDays p = D 0 1 := by rw [← hp]; rfl
  have pn : pNb p = D 0 8 := by rw [← hp]; rfl
  have dy := VD.days
  have nb := VD.nb
  have ns := VD.ns
  have nl := VD.nl
  have na := VD.na
  have vfl := VD.fl
  have vfe := VD.fee
  refine zmet rfl rfl rfl ?_
  refine zS_aload_n (zdec eX9_tight 0 rfl) rfl rfl ?_
  refine zvI (M' := mX9_isThere) (As := []) (st := []) (zdec eX9_tight 1 rfl) kM_X9_143 kV_X9_isThere ⟨by decide, rfl⟩ rfl rfl rfl rfl rfl (by omega) (c_isThere RD) ?_
  refine zS_if_eq (tgt := 17) (zdec eX9_tight 2 rfl) rfl (fun c1 => ?_) (fun c1 => ?_)
  · have z1 := d2i_0.mp c1
    refine zS_bipush (zdec eX9_tight 7 rfl) rfl rfl ?_
    exact zlMI (zdec eX9_tight 8 rfl) rfl ⟨by unfold a_tight; (try rw [hp]); (try rw [hq]); first | rw [if_pos (by omega)] | rw [if_neg (by omega)], Fr.rf⟩
  · have z1 := d2i_n.mp c1
    refine zS_aload_n (zdec eX9_tight 3 rfl) rfl rfl ?_
    have hd0 : 0 < D 0 0 := by first | omega
    refine zvMA (M' := mX9_byLaw) (As := []) (st := []) (zdec eX9_tight 4 rfl) kM_X9_173 kV_X9_byLaw ⟨by decide, rfl⟩ rfl rfl rfl rfl rfl (by omega) (c_byLawP hp hq (by omega) VD hd0 RD) (fun h2 ⟨⟨V, R, S, O⟩, ⟨q0, q1, qi⟩, f2, RD2⟩ => ?_)
    refine zvI (M' := mX8_tightest) (As := []) (st := []) (zdec eX9_tight 5 rfl) kM_X9_190 kV_X8_tightest ⟨by decide, rfl⟩ rfl rfl rfl rfl rfl (by omega) (c_tightest V R S) ?_
    refine zS_goto (tgt := 19) (zdec eX9_tight 6 rfl) rfl ?_
    exact zlMI (zdec eX9_tight 8 rfl) rfl ⟨by unfold a_tight; (try rw [hp]); (try rw [hq]); first | rw [if_pos (by omega)] | rw [if_neg (by omega)], f2⟩
noncomputable def a_fees (D : Dk) : Int := if 0 < D 0 0 then feesP (pb0 D) (planP (pb0 D)) else -2
theorem p_fees {d : Nat} {h : zH} {D : Dk} (hd : 20 ≤ d) (VD : DV D) (RD : DC h 15 D) : zMI d mX9_fees [zA 0] h (fun r h' => r = a_fees D ∧ Fr sQ h h') := by
  obtain ⟨p, hp⟩ : ∃ p, pb0 D = p := ⟨_, rfl⟩
  obtain ⟨q, hq⟩ : ∃ q, planP p = q := ⟨_, rfl⟩
  have pd : pDays p = D 0 1 := by rw [← hp]; rfl
  have pn : pNb p = D 0 8 := by rw [← hp]; rfl
  have dy := VD.days
  have nb := VD.nb
  have ns := VD.ns
  have nl := VD.nl
  have na := VD.na
  have vfl := VD.fl
  have vfe := VD.fee
  refine zmet rfl rfl rfl ?_
  refine zS_aload_n (zdec eX9_fees 0 rfl) rfl rfl ?_
  refine zvI (M' := mX9_isThere) (As := []) (st := []) (zdec eX9_fees 1 rfl) kM_X9_143 kV_X9_isThere ⟨by decide, rfl⟩ rfl rfl rfl rfl rfl (by omega) (c_isThere RD) ?_
  refine zS_if_eq (tgt := 17) (zdec eX9_fees 2 rfl) rfl (fun c1 => ?_) (fun c1 => ?_)
  · have z1 := d2i_0.mp c1
    refine zS_bipush (zdec eX9_fees 7 rfl) rfl rfl ?_
    exact zlMI (zdec eX9_fees 8 rfl) rfl ⟨by unfold a_fees; (try rw [hp]); (try rw [hq]); first | rw [if_pos (by omega)] | rw [if_neg (by omega)], Fr.rf⟩
  · have z1 := d2i_n.mp c1
    refine zS_aload_n (zdec eX9_fees 3 rfl) rfl rfl ?_
    have hd0 : 0 < D 0 0 := by first | omega
    refine zvMA (M' := mX9_byLaw) (As := []) (st := []) (zdec eX9_fees 4 rfl) kM_X9_173 kV_X9_byLaw ⟨by decide, rfl⟩ rfl rfl rfl rfl rfl (by omega) (c_byLawP hp hq (by omega) VD hd0 RD) (fun h2 ⟨⟨V, R, S, O⟩, ⟨q0, q1, qi⟩, f2, RD2⟩ => ?_)
    refine zvI (M' := mX8_allFees) (As := []) (st := []) (zdec eX9_fees 5 rfl) kM_X9_196 kV_X8_allFees ⟨by decide, rfl⟩ rfl rfl rfl rfl rfl (by omega) (c_allFees V R S) ?_
    refine zS_goto (tgt := 19) (zdec eX9_fees 6 rfl) rfl ?_
    exact zlMI (zdec eX9_fees 8 rfl) rfl ⟨by unfold a_fees; (try rw [hp]); (try rw [hq]); first | rw [if_pos (by omega)] | rw [if_neg (by omega)], f2⟩
noncomputable def a_open (D : Dk) : Int := if 0 < D 0 0 then openP (pb0 D) (planP (pb0 D)) else -2
theorem p_open {d : Nat} {h : zH} {D : Dk} (hd : 20 ≤ d) (VD : DV D) (RD : DC h 15 D) : zMI d mX9_open [zA 0] h (fun r h' => r = a_open D ∧ Fr sQ h h') := by
  obtain ⟨p, hp⟩ : ∃ p, pb0 D = p := ⟨_, rfl⟩
  obtain ⟨q, hq⟩ : ∃ q, planP p = q := ⟨_, rfl⟩
  have pd : pDays p = D 0 1 := by rw [← hp]; rfl
  have pn : pNb p = D 0 8 := by rw [← hp]; rfl
  have dy := VD.days
  have nb := VD.nb
  have ns := VD.ns
  have nl := VD.nl
  have na := VD.na
  have vfl := VD.fl
  have vfe := VD.fee
  refine zmet rfl rfl rfl ?_
  refine zS_aload_n (zdec eX9_open 0 rfl) rfl rfl ?_
  refine zvI (M' := mX9_isThere) (As := []) (st := []) (zdec eX9_open 1 rfl) kM_X9_143 kV_X9_isThere ⟨by decide, rfl⟩ rfl rfl rfl rfl rfl (by omega) (c_isThere RD) ?_
  refine zS_if_eq (tgt := 17) (zdec eX9_open 2 rfl) rfl (fun c1 => ?_) (fun c1 => ?_)
  · have z1 := d2i_0.mp c1
    refine zS_bipush (zdec eX9_open 7 rfl) rfl rfl ?_
    exact zlMI (zdec eX9_open 8 rfl) rfl ⟨by unfold a_open; (try rw [hp]); (try rw [hq]); first | rw [if_pos (by omega)] | rw [if_neg (by omega)], Fr.rf⟩
  · have z1 := d2i_n.mp c1
    refine zS_aload_n (zdec eX9_open 3 rfl) rfl rfl ?_
    have hd0 : 0 < D 0 0 := by first | omega
    refine zvMA (M' := mX9_byLaw) (As := []) (st := []) (zdec eX9_open 4 rfl) kM_X9_173 kV_X9_byLaw ⟨by decide, rfl⟩ rfl rfl rfl rfl rfl (by omega) (c_byLawP hp hq (by omega) VD hd0 RD) (fun h2 ⟨⟨V, R, S, O⟩, ⟨q0, q1, qi⟩, f2, RD2⟩ => ?_)
    refine zvI (M' := mX8_unpaid) (As := []) (st := []) (zdec eX9_open 5 rfl) kM_X9_199 kV_X8_unpaid ⟨by decide, rfl⟩ rfl rfl rfl rfl rfl (by omega) (c_unpaid (by omega) V R S q0 q1) ?_
    refine zS_goto (tgt := 19) (zdec eX9_open 6 rfl) rfl ?_
    exact zlMI (zdec eX9_open 8 rfl) rfl ⟨by unfold a_open; (try rw [hp]); (try rw [hq]); first | rw [if_pos (by omega)] | rw [if_neg (by omega)], f2⟩
noncomputable def a_total (D : Dk) : Int := if 0 < D 0 0 then totalP (pb0 D) (planP (pb0 D)) else -2
theorem p_total {d : Nat} {h : zH} {D : Dk} (hd : 20 ≤ d) (VD : DV D) (RD : DC h 15 D) : zMI d mX9_total [zA 0] h (fun r h' => r = a_total D ∧ Fr sQ h h') := by
  obtain ⟨p, hp⟩ : ∃ p, pb0 D = p := ⟨_, rfl⟩
  obtain ⟨q, hq⟩ : ∃ q, planP p = q := ⟨_, rfl⟩
  have pd : pDays p = D 0 1 := by rw [← hp]; rfl
  have pn : pNb p = D 0 8 := by rw [← hp]; rfl
  have dy := VD.days
  have nb := VD.nb
  have ns := VD.ns
  have nl := VD.nl
  have na := VD.na
  have vfl := VD.fl
  have vfe := VD.fee
  refine zmet rfl rfl rfl ?_
  refine zS_aload_n (zdec eX9_total 0 rfl) rfl rfl ?_
  refine zvI (M' := mX9_isThere) (As := []) (st := []) (zdec eX9_total 1 rfl) kM_X9_143 kV_X9_isThere ⟨by decide, rfl⟩ rfl rfl rfl rfl rfl (by omega) (c_isThere RD) ?_
  refine zS_if_eq (tgt := 17) (zdec eX9_total 2 rfl) rfl (fun c1 => ?_) (fun c1 => ?_)
  · have z1 := d2i_0.mp c1
    refine zS_bipush (zdec eX9_total 7 rfl) rfl rfl ?_
    exact zlMI (zdec eX9_total 8 rfl) rfl ⟨by unfold a_total; (try rw [hp]); (try rw [hq]); first | rw [if_pos (by omega)] | rw [if_neg (by omega)], Fr.rf⟩
  · have z1 := d2i_n.mp c1
    refine zS_aload_n (zdec eX9_total 3 rfl) rfl rfl ?_
    have hd0 : 0 < D 0 0 := by first | omega
    refine zvMA (M' := mX9_byLaw) (As := []) (st := []) (zdec eX9_total 4 rfl) kM_X9_173 kV_X9_byLaw ⟨by decide, rfl⟩ rfl rfl rfl rfl rfl (by omega) (c_byLawP hp hq (by omega) VD hd0 RD) (fun h2 ⟨⟨V, R, S, O⟩, ⟨q0, q1, qi⟩, f2, RD2⟩ => ?_)
    refine zvI (M' := mX8_whole) (As := []) (st := []) (zdec eX9_total 5 rfl) kM_X9_214 kV_X8_whole ⟨by decide, rfl⟩ rfl rfl rfl rfl rfl (by omega) (c_whole (by omega) V R S q0 q1) ?_
    refine zS_goto (tgt := 19) (zdec eX9_total 6 rfl) rfl ?_
    exact zlMI (zdec eX9_total 8 rfl) rfl ⟨by unfold a_total; (try rw [hp]); (try rw [hq]); first | rw [if_pos (by omega)] | rw [if_neg (by omega)], f2⟩
noncomputable def a_gets (D : Dk) (x : Int) : Int := if 0 ≤ x ∧ x < D 0 7 then toP (pb0 D) (planP (pb0 D)) x else -2
theorem p_gets {d : Nat} {h : zH} {D : Dk} {x : Int} (hd : 20 ≤ d) (VD : DV D) (RD : DC h 15 D) : zMI d mX9_gets [zA 0, zI x] h (fun r h' => r = a_gets D x ∧ Fr sQ h h') := by
  obtain ⟨p, hp⟩ : ∃ p, pb0 D = p := ⟨_, rfl⟩
  obtain ⟨q, hq⟩ : ∃ q, planP p = q := ⟨_, rfl⟩
  have pd : pDays p = D 0 1 := by rw [← hp]; rfl
  have pn : pNb p = D 0 8 := by rw [← hp]; rfl
  have dy := VD.days
  have nb := VD.nb
  have ns := VD.ns
  have nl := VD.nl
  have na := VD.na
  have vfl := VD.fl
  have vfe := VD.fee
  refine zmet rfl rfl rfl ?_
  refine zS_aload_n (zdec eX9_gets 0 rfl) rfl rfl ?_
  refine zS_iload_n (zdec eX9_gets 1 rfl) rfl ?_
  refine zvI (M' := mX9_isSupplier) (As := [zI x]) (st := []) (zdec eX9_gets 2 rfl) kM_X9_108 kV_X9_isSupplier ⟨by decide, rfl⟩ rfl rfl rfl rfl rfl (by omega) (c_isSup RD) ?_
  refine zS_if_eq (tgt := 19) (zdec eX9_gets 3 rfl) rfl (fun c1 => ?_) (fun c1 => ?_)
  · have z1 := d2i_0.mp c1
    refine zS_bipush (zdec eX9_gets 9 rfl) rfl rfl ?_
    exact zlMI (zdec eX9_gets 10 rfl) rfl ⟨by unfold a_gets; (try rw [hp]); (try rw [hq]); first | rw [if_pos (by omega)] | rw [if_neg (by omega)], Fr.rf⟩
  · have z1 := d2i_n.mp c1
    refine zS_aload_n (zdec eX9_gets 4 rfl) rfl rfl ?_
    have hd0 : 0 < D 0 0 := by first | omega | exact VD.bill (show 0 ≤ x by omega) (show x < D 0 8 by omega) | exact VD.day (show 0 ≤ x by omega) (show x < D 0 1 by omega) | exact VD.sup (show 0 ≤ x by omega) (show x < D 0 7 by omega)
    refine zvMA (M' := mX9_byLaw) (As := []) (st := []) (zdec eX9_gets 5 rfl) kM_X9_173 kV_X9_byLaw ⟨by decide, rfl⟩ rfl rfl rfl rfl rfl (by omega) (c_byLawP hp hq (by omega) VD hd0 RD) (fun h2 ⟨⟨V, R, S, O⟩, ⟨q0, q1, qi⟩, f2, RD2⟩ => ?_)
    refine zS_iload_n (zdec eX9_gets 6 rfl) rfl ?_
    refine zvI (M' := mX8_paidTo) (As := [zI x]) (st := []) (zdec eX9_gets 7 rfl) kM_X9_220 kV_X8_paidTo ⟨by decide, rfl⟩ rfl rfl rfl rfl rfl (by omega) (c_paidTo (by omega) V R S q0 q1) ?_
    refine zS_goto (tgt := 21) (zdec eX9_gets 8 rfl) rfl ?_
    exact zlMI (zdec eX9_gets 10 rfl) rfl ⟨by unfold a_gets; (try rw [hp]); (try rw [hq]); first | rw [if_pos (by omega)] | rw [if_neg (by omega)], f2⟩
noncomputable def a_early (D : Dk) (x : Int) : Int := if 0 ≤ x ∧ x < D 0 8 then (if (planP (pb0 D)) x < pDays (pb0 D) then D (3 + x) 4 - (planP (pb0 D)) x else -100) else -200
theorem p_early {d : Nat} {h : zH} {D : Dk} {x : Int} (hd : 20 ≤ d) (VD : DV D) (RD : DC h 15 D) : zMI d mX9_early [zA 0, zI x] h (fun r h' => r = a_early D x ∧ Fr sQ h h') := by
  obtain ⟨p, hp⟩ : ∃ p, pb0 D = p := ⟨_, rfl⟩
  obtain ⟨q, hq⟩ : ∃ q, planP p = q := ⟨_, rfl⟩
  have pd : pDays p = D 0 1 := by rw [← hp]; rfl
  have pn : pNb p = D 0 8 := by rw [← hp]; rfl
  have dy := VD.days
  have nb := VD.nb
  have ns := VD.ns
  have nl := VD.nl
  have na := VD.na
  have vfl := VD.fl
  have vfe := VD.fee
  refine zmet rfl rfl rfl ?_
  refine zS_aload_n (zdec eX9_early 0 rfl) rfl rfl ?_
  refine zS_iload_n (zdec eX9_early 1 rfl) rfl ?_
  refine zvI (M' := mX9_isBill) (As := [zI x]) (st := []) (zdec eX9_early 2 rfl) kM_X9_116 kV_X9_isBill ⟨by decide, rfl⟩ rfl rfl rfl rfl rfl (by omega) (c_isBill RD) ?_
  refine zS_if_ne (tgt := 12) (zdec eX9_early 3 rfl) rfl (fun c1 => ?_) (fun c1 => ?_)
  · have z1 := d2i_n.mp c1
    refine zS_aload_n (zdec eX9_early 6 rfl) rfl rfl ?_
    have hd0 : 0 < D 0 0 := by first | omega | exact VD.bill (show 0 ≤ x by omega) (show x < D 0 8 by omega) | exact VD.day (show 0 ≤ x by omega) (show x < D 0 1 by omega) | exact VD.sup (show 0 ≤ x by omega) (show x < D 0 7 by omega)
    refine zvMA (M' := mX9_byLaw) (As := []) (st := []) (zdec eX9_early 7 rfl) kM_X9_173 kV_X9_byLaw ⟨by decide, rfl⟩ rfl rfl rfl rfl rfl (by omega) (c_byLawP hp hq (by omega) VD hd0 RD) (fun h2 ⟨⟨V, R, S, O⟩, ⟨q0, q1, qi⟩, f2, RD2⟩ => ?_)
    refine zS_iload_n (zdec eX9_early 8 rfl) rfl ?_
    refine zvI (M' := mX8_isPaid) (As := [zI x]) (st := []) (zdec eX9_early 9 rfl) kM_X9_217 kV_X8_isPaid ⟨by decide, rfl⟩ rfl rfl rfl rfl rfl (by omega) (c_isPaid V R (by omega) (by omega) S (q0 _)) ?_
    refine zS_if_eq (tgt := 47) (zdec eX9_early 10 rfl) rfl (fun c2 => ?_) (fun c2 => ?_)
    · have z2 := d2i_0.mp c2
      refine zS_bipush (zdec eX9_early 25 rfl) rfl rfl ?_
      exact zlMI (zdec eX9_early 26 rfl) rfl ⟨by unfold a_early; rw [hp, hq, if_pos (by omega), if_neg (by omega)], f2⟩
    · have z2 := d2i_n.mp c2
      refine zS_aload_n (zdec eX9_early 11 rfl) rfl rfl ?_
      refine zS_getref (i := 2) (zdec eX9_early 12 rfl) kF_X9_27 ⟨by decide, rfl⟩ rfl rfl rfl rfl rfl ?_
      refine zS_getref (i := 26) (zdec eX9_early 13 rfl) kF_X9_119 ⟨by decide, rfl⟩ rfl rfl rfl rfl rfl ?_
      refine zS_iload_n (zdec eX9_early 14 rfl) rfl ?_
      refine zS_aaload1 (i := 1) (zdec eX9_early 15 rfl) (Or.inr (Or.inl rfl)) ⟨by decide, rfl⟩ rfl rfl rfl (by omega) (by omega) ?_
      refine zS_iconst (zdec eX9_early 16 rfl) rfl ?_
      refine zS_ialoadE (v := (D (3 + x) 4)) (zdec eX9_early 17 rfl) (zrow_18 (by omega) (by omega)) (by decide) (by decide) (RD2.row (by omega) (by omega) (by omega) (by decide) (by decide)) ?_
      refine zS_aload_n (zdec eX9_early 18 rfl) rfl rfl ?_
      refine zS_getref (i := 1) (zdec eX9_early 19 rfl) kF_X9_19 ⟨by decide, rfl⟩ rfl rfl rfl rfl rfl ?_
      refine zS_getref (i := 21) (zdec eX9_early 20 rfl) kF_X9_177 ⟨by decide, rfl⟩ rfl rfl rfl rfl rfl ?_
      refine zS_iload_n (zdec eX9_early 21 rfl) rfl ?_
      refine zS_ialoadE (v := (dayC p q x)) (zdec eX9_early 22 rfl) ⟨by decide, rfl⟩ (by omega) (by omega) (S.day (by omega) (by omega)) ?_
      have rwx := VD.row (show 0 ≤ x by omega) (show x < D 0 8 by omega)
      have dr : -1 ≤ dayC p q x ∧ dayC p q x ≤ 7 := by have := q0 x; have := q1 x; unfold dayC; split <;> omega
      refine zS_isub (zdec eX9_early 23 rfl) ⟨by omega, by omega⟩ ?_
      refine zS_goto (tgt := 49) (zdec eX9_early 24 rfl) rfl ?_
      exact zlMI (zdec eX9_early 26 rfl) rfl ⟨by unfold a_early; rw [hp, hq, if_pos (by omega), if_pos (by omega)]; unfold dayC; rw [if_pos (by omega)], f2⟩
  · have z1 := d2i_0.mp c1
    refine zS_sipush (zdec eX9_early 4 rfl) rfl rfl ?_
    exact zlMI (zdec eX9_early 5 rfl) rfl ⟨by unfold a_early; rw [if_neg (by omega)], Fr.rf⟩
noncomputable def a_order (D : Dk) (x : Int) : Int := if 0 ≤ x ∧ 0 < D 0 0 then (if x < ((ordP (pb0 D)).length : Int) then (ordP (pb0 D)).getD x.toNat 0 else -1) else -2
theorem p_order {d : Nat} {h : zH} {D : Dk} {x : Int} (hd : 20 ≤ d) (VD : DV D) (RD : DC h 15 D) : zMI d mX9_order [zA 0, zI x] h (fun r h' => r = a_order D x ∧ Fr sQ h h') := by
  obtain ⟨p, hp⟩ : ∃ p, pb0 D = p := ⟨_, rfl⟩
  obtain ⟨q, hq⟩ : ∃ q, planP p = q := ⟨_, rfl⟩
  have pd : pDays p = D 0 1 := by rw [← hp]; rfl
  have pn : pNb p = D 0 8 := by rw [← hp]; rfl
  have dy := VD.days
  have nb := VD.nb
  have ns := VD.ns
  have nl := VD.nl
  have na := VD.na
  have vfl := VD.fl
  have vfe := VD.fee
  refine zmet rfl rfl rfl ?_
  refine zS_iload_n (zdec eX9_order 0 rfl) rfl ?_
  refine zS_if_lt (tgt := 11) (zdec eX9_order 1 rfl) rfl (fun c1 => ?_) (fun c1 => ?_)
  · refine zS_bipush (zdec eX9_order 5 rfl) rfl rfl ?_
    exact zlMI (zdec eX9_order 6 rfl) rfl ⟨by unfold a_order; rw [if_neg (by omega)], Fr.rf⟩
  · refine zS_aload_n (zdec eX9_order 2 rfl) rfl rfl ?_
    refine zvI (M' := mX9_isThere) (As := []) (st := []) (zdec eX9_order 3 rfl) kM_X9_143 kV_X9_isThere ⟨by decide, rfl⟩ rfl rfl rfl rfl rfl (by omega) (c_isThere RD) ?_
    refine zS_if_ne (tgt := 14) (zdec eX9_order 4 rfl) rfl (fun c2 => ?_) (fun c2 => ?_)
    · have z2 := d2i_n.mp c2
      refine zS_iload_n (zdec eX9_order 7 rfl) rfl ?_
      refine zS_aload_n (zdec eX9_order 8 rfl) rfl rfl ?_
      have hd0 : 0 < D 0 0 := by first | omega | exact VD.bill (show 0 ≤ x by omega) (show x < D 0 8 by omega) | exact VD.day (show 0 ≤ x by omega) (show x < D 0 1 by omega) | exact VD.sup (show 0 ≤ x by omega) (show x < D 0 7 by omega)
      refine zvMA (M' := mX9_byLaw) (As := []) (st := [zI x]) (zdec eX9_order 9 rfl) kM_X9_173 kV_X9_byLaw ⟨by decide, rfl⟩ rfl rfl rfl rfl rfl (by omega) (c_byLawP hp hq (by omega) VD hd0 RD) (fun h2 ⟨⟨V, R, S, O⟩, ⟨q0, q1, qi⟩, f2, RD2⟩ => ?_)
      refine zS_getfieldE (x := 11) (v := ((ordP p).length : Int)) (zdec eX9_order 10 rfl) kF_X9_167 ⟨by decide, rfl⟩ rfl rfl rfl O.1 ?_
      refine zS_icmp_ge (tgt := 37) (zdec eX9_order 11 rfl) rfl (fun c3 => ?_) (fun c3 => ?_)
      · refine zS_iconst (zdec eX9_order 18 rfl) rfl ?_
        exact zlMI (zdec eX9_order 19 rfl) rfl ⟨by unfold a_order; rw [hp, if_pos (by omega), if_neg (by omega)], f2⟩
      · refine zS_aload_n (zdec eX9_order 12 rfl) rfl rfl ?_
        refine zS_getref (i := 1) (zdec eX9_order 13 rfl) kF_X9_19 ⟨by decide, rfl⟩ rfl rfl rfl rfl rfl ?_
        refine zS_getref (i := 22) (zdec eX9_order 14 rfl) kF_X9_170 ⟨by decide, rfl⟩ rfl rfl rfl rfl rfl ?_
        refine zS_iload_n (zdec eX9_order 15 rfl) rfl ?_
        have ln : ((ordP p).length : Int) ≤ pNb p := ordI_len (p := p) (e := pNb p) (by omega)
        refine zS_ialoadE (v := ((ordP p).getD x.toNat 0)) (zdec eX9_order 16 rfl) ⟨by decide, rfl⟩ (by omega) (by omega) (by have := O.2 x.toNat (by omega); rw [Int.toNat_of_nonneg (by omega)] at this; exact this) ?_
        refine zS_goto (tgt := 38) (zdec eX9_order 17 rfl) rfl ?_
        exact zlMI (zdec eX9_order 19 rfl) rfl ⟨by unfold a_order; rw [hp, if_pos (by omega), if_pos (by omega)], f2⟩
    · have z2 := d2i_0.mp c2
      refine zS_bipush (zdec eX9_order 5 rfl) rfl rfl ?_
      exact zlMI (zdec eX9_order 6 rfl) rfl ⟨by unfold a_order; rw [if_neg (by omega)], Fr.rf⟩

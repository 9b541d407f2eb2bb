noncomputable def worL (D : Dk) (v : Int) : Int := sumI (fun b => if bitB v b then netD D b else 0) (D 0 8) - totL (wT (pb0 D) 1 (bitB v))
theorem L_worth {d : Nat} {h h3 : zH} {D : Dk} {v : Int} (hd : 5 ≤ d) (VD : DV D) (RD3 : DC h3 15 D) (V : PV (wT (pb0 D) 1 (bitB v))) (L : Ln h3 (wT (pb0 D) 1 (bitB v))) (f3 : Fr sBy h h3) : ∀ (n : Nat) (e : Int), 0 ≤ e → e + n = D 0 8 → zS mX6_worthOf (zr d) 18 [zA 103, zA 14, zI v, zI (sumI (fun b => if bitB v b then netD D b else 0) e), zI e] [] TT h3 (zAnI (fun r h' => r = worL D v ∧ Fr sBy h h')) := by
  intro n
  induction n with
  | zero =>
    intro e a1 a2
    have nb := VD.nb
    have s0 := sumI_nn (f := (fun b => if bitB v b then netD D b else 0)) (k := e) (fun j j0 j1 => by have := netB VD j0 (show j < D 0 8 by omega); split <;> omega)
    have s1 := sumI_le (f := (fun b => if bitB v b then netD D b else 0)) (k := e) (B := 3000) a1 (fun j j0 j1 => by have := netB VD j0 (show j < D 0 8 by omega); split <;> omega)
    have tl := totLB V
    refine zS_iload (zdec eX6_worthOf 11 rfl) rfl ?_
    refine zS_aload_n (zdec eX6_worthOf 12 rfl) rfl rfl ?_
    refine zS_getref (i := 18) (zdec eX6_worthOf 13 rfl) kF_X6_19 ⟨by decide, rfl⟩ rfl rfl rfl rfl rfl ?_
    refine zS_getfieldE (x := 8) (v := (D 0 8)) (zdec eX6_worthOf 14 rfl) kF_X6_23 ⟨by decide, rfl⟩ rfl rfl rfl (RD3.s (by decide) (by decide)) ?_
    refine zS_icmp_ge (tgt := 59) (zdec eX6_worthOf 15 rfl) rfl (fun cz => ?_) (fun cz => absurd (by omega) cz)
    refine zS_iload_n (zdec eX6_worthOf 31 rfl) rfl ?_
    refine zS_aload_n (zdec eX6_worthOf 32 rfl) rfl rfl ?_
    refine zvI (M' := mX8_whole) (As := []) (st := [zI (sumI (fun b => if bitB v b then netD D b else 0) e)]) (zdec eX6_worthOf 33 rfl) kM_X6_36 kV_X8_whole ⟨by decide, rfl⟩ rfl rfl rfl rfl rfl (by omega) (c_wholeL (by omega) V L) ?_
    refine zS_isub (zdec eX6_worthOf 34 rfl) ⟨by omega, by omega⟩ ?_
    exact zlMI (zdec eX6_worthOf 35 rfl) rfl ⟨by unfold worL; rw [show D 0 8 = e by omega], f3⟩
  | succ n ih =>
    intro e a1 a2
    have nb := VD.nb
    have s0 := sumI_nn (f := (fun b => if bitB v b then netD D b else 0)) (k := e) (fun j j0 j1 => by have := netB VD j0 (show j < D 0 8 by omega); split <;> omega)
    have s1 := sumI_le (f := (fun b => if bitB v b then netD D b else 0)) (k := e) (B := 3000) a1 (fun j j0 j1 => by have := netB VD j0 (show j < D 0 8 by omega); split <;> omega)
    have tl := totLB V
    have nt := netB VD a1 (show e < D 0 8 by omega)
    refine zS_iload (zdec eX6_worthOf 11 rfl) rfl ?_
    refine zS_aload_n (zdec eX6_worthOf 12 rfl) rfl rfl ?_
    refine zS_getref (i := 18) (zdec eX6_worthOf 13 rfl) kF_X6_19 ⟨by decide, rfl⟩ rfl rfl rfl rfl rfl ?_
    refine zS_getfieldE (x := 8) (v := (D 0 8)) (zdec eX6_worthOf 14 rfl) kF_X6_23 ⟨by decide, rfl⟩ rfl rfl rfl (RD3.s (by decide) (by decide)) ?_
    refine zS_icmp_ge (tgt := 59) (zdec eX6_worthOf 15 rfl) rfl (fun cz => absurd cz (by omega)) (fun cz => ?_)
    refine zS_iload_n (zdec eX6_worthOf 16 rfl) rfl ?_
    refine zS_aload_n (zdec eX6_worthOf 17 rfl) rfl rfl ?_
    refine zS_iload (zdec eX6_worthOf 18 rfl) rfl ?_
    refine zvI (M' := mX8_isIn) (As := [zI e]) (st := [zI (sumI (fun b => if bitB v b then netD D b else 0) e)]) (zdec eX6_worthOf 19 rfl) kM_X6_28 kV_X8_isIn ⟨by decide, rfl⟩ rfl rfl rfl rfl rfl (by omega) (c_isIn V L.1 (by omega) (show e < D 0 8 by omega)) ?_
    refine zS_if_eq (tgt := 50) (zdec eX6_worthOf 20 rfl) rfl (fun c1 => ?_) (fun c1 => ?_)
    · refine zS_iconst (zdec eX6_worthOf 26 rfl) rfl ?_
      refine zS_iadd (zdec eX6_worthOf 27 rfl) ⟨by omega, by omega⟩ ?_
      refine zS_istore_n (zdec eX6_worthOf 28 rfl) rfl ?_
      refine zS_iinc (zdec eX6_worthOf 29 rfl) rfl rfl ⟨by omega, by omega⟩ ?_
      refine zS_goto (tgt := 18) (zdec eX6_worthOf 30 rfl) rfl ?_
      have k := ih (e + 1) (by omega) (by omega)
      rw [sumI_s _ (by omega)] at k
      rw [show bitB v e = false from b2i_0.mp c1] at k
      exact k
    · refine zS_aload_n (zdec eX6_worthOf 21 rfl) rfl rfl ?_
      refine zS_getref (i := 19) (zdec eX6_worthOf 22 rfl) kF_X6_32 ⟨by decide, rfl⟩ rfl rfl rfl rfl rfl ?_
      refine zS_iload (zdec eX6_worthOf 23 rfl) rfl ?_
      refine zS_ialoadE (v := (netD D e)) (zdec eX6_worthOf 24 rfl) ⟨by decide, rfl⟩ (by omega) (by omega) (L.1.net (by omega) (show e < D 0 8 by omega)) ?_
      refine zS_goto (tgt := 51) (zdec eX6_worthOf 25 rfl) rfl ?_
      refine zS_iadd (zdec eX6_worthOf 27 rfl) ⟨by omega, by omega⟩ ?_
      refine zS_istore_n (zdec eX6_worthOf 28 rfl) rfl ?_
      refine zS_iinc (zdec eX6_worthOf 29 rfl) rfl rfl ⟨by omega, by omega⟩ ?_
      refine zS_goto (tgt := 18) (zdec eX6_worthOf 30 rfl) rfl ?_
      have k := ih (e + 1) (by omega) (by omega)
      rw [sumI_s _ (by omega)] at k
      rw [show bitB v e = true from b2i_n.mp c1] at k
      exact k
theorem c_worthOf {d : Nat} {h : zH} {D : Dk} {v : Int} (hd : 5 ≤ d) (VD : DV D) (hd0 : 0 < D 0 0) (RD : DC h 15 D) : zMI d mX6_worthOf [zA 103, zA 14, zI v] h (fun r h' => r = worL D v ∧ Fr sBy h h') := by
  have nb := VD.nb
  refine zmet rfl rfl rfl ?_
  refine zS_aload_n (zdec eX6_worthOf 0 rfl) rfl rfl ?_
  refine zvMV (M' := mX8_asTold) (As := []) (st := []) (zdec eX6_worthOf 1 rfl) kM_X6_7 kV_X8_asTold ⟨by decide, rfl⟩ rfl rfl rfl rfl rfl (by omega) (c_asTold (by omega) hd0 VD RD) (fun h2 ⟨R, cl2, g2⟩ => ?_)
  have V := pb0_V VD hd0
  have R := R.in'' (v := v) (f := bitB v) V (fun _ _ _ => rfl)
  have V := V.set' 1 (bitB v)
  refine zS_aload_n (zdec eX6_worthOf 2 rfl) rfl rfl ?_
  refine zS_iload_n (zdec eX6_worthOf 3 rfl) rfl ?_
  refine zS_putfield (x := 5) (zdec eX6_worthOf 4 rfl) kF_X6_12 (Or.inl kf8_5) ⟨by decide, rfl⟩ rfl rfl rfl (Or.inl (fun q => by cases q)) ?_
  refine zS_aload_n (zdec eX6_worthOf 5 rfl) rfl rfl ?_
  refine zvMV (M' := mX8_planByLaw) (As := []) (st := []) (zdec eX6_worthOf 6 rfl) kM_X6_16 kV_X8_planByLaw ⟨by decide, rfl⟩ rfl rfl rfl rfl rfl (by omega) (c_planByLaw (by omega) V R) (fun h3 ⟨S3, O3, m3, f3⟩ => ?_)
  have W3 := R.fr V f3 (fun k j z => by unfold wcP; omega)
  refine zS_iconst (zdec eX6_worthOf 7 rfl) rfl ?_
  refine zS_istore_n (zdec eX6_worthOf 8 rfl) rfl ?_
  refine zS_iconst (zdec eX6_worthOf 9 rfl) rfl ?_
  refine zS_istore (zdec eX6_worthOf 10 rfl) rfl ?_
  have g3 : Fr sBy h h3 := (g2.tr (Fr.rf.set (by omega) : Fr sBy h2 (zset h2 14 5 v)) (S'' := sBy) (fun k j z => by omega) (fun k j z => z)).tr f3 (fun k j z => z) (fun k j z => by omega)
  exact L_worth hd VD (RD.fr g3 (fun k j z => by omega)) V ⟨W3, S3, O3, m3⟩ g3 (D 0 8).toNat 0 (by omega) (by omega)
noncomputable def a_worth (D : Dk) (x : Int) : Int := if 0 < D 0 0 ∧ 0 ≤ x ∧ x ≤ zShl 1 (D 0 8) - 1 then worL D x else -2
theorem p_worth {d : Nat} {h : zH} {D : Dk} {x : Int} (hd : 20 ≤ d) (VD : DV D) (RD : DC h 15 D) : zMI d mX9_worth [zA 0, zI x] h (fun r h' => r = a_worth D x ∧ Fr sQ h h') := by
  obtain ⟨p, hp⟩ : ∃ p, pb0 D = p := ⟨_, rfl⟩
  obtain ⟨q, hq⟩ : ∃ q, planP p = q := ⟨_, rfl⟩
  have pd : pDays p = D 0 1 := by rw [← hp]; rfl
  have pn : pNb p = D 0 8 := by rw [← hp]; rfl
  have dy := VD.days
  have nb := VD.nb
  have ns := VD.ns
  have nl := VD.nl
  have na := VD.na
  have vfl := VD.fl
  have vfe := VD.fee
  refine zmet rfl rfl rfl ?_
  refine zS_aload_n (zdec eX9_worth 0 rfl) rfl rfl ?_
  refine zvI (M' := mX9_isThere) (As := []) (st := []) (zdec eX9_worth 1 rfl) kM_X9_143 kV_X9_isThere ⟨by decide, rfl⟩ rfl rfl rfl rfl rfl (by omega) (c_isThere RD) ?_
  refine zS_if_eq (tgt := 22) (zdec eX9_worth 2 rfl) rfl (fun c1 => ?_) (fun c1 => ?_)
  · have z1 := d2i_0.mp c1
    refine zS_bipush (zdec eX9_worth 10 rfl) rfl rfl ?_
    exact zlMI (zdec eX9_worth 11 rfl) rfl ⟨by unfold a_worth; rw [if_neg (by omega)], Fr.rf⟩
  · have z1 := d2i_n.mp c1
    refine zS_iload_n (zdec eX9_worth 3 rfl) rfl ?_
    refine zS_if_lt (tgt := 22) (zdec eX9_worth 4 rfl) rfl (fun c2 => ?_) (fun c2 => ?_)
    · refine zS_bipush (zdec eX9_worth 10 rfl) rfl rfl ?_
      exact zlMI (zdec eX9_worth 11 rfl) rfl ⟨by unfold a_worth; rw [if_neg (by omega)], Fr.rf⟩
    · refine zS_iload_n (zdec eX9_worth 5 rfl) rfl ?_
      refine zS_aload_n (zdec eX9_worth 6 rfl) rfl rfl ?_
      refine zS_getref (i := 1) (zdec eX9_worth 7 rfl) kF_X9_19 ⟨by decide, rfl⟩ rfl rfl rfl rfl rfl ?_
      refine zvI (M' := mX8_allBills) (As := []) (st := [zI x]) (zdec eX9_worth 8 rfl) kM_X9_262 kV_X8_allBills ⟨by decide, rfl⟩ rfl rfl rfl rfl rfl (by omega) (c_allBills VD RD) ?_
      refine zS_icmp_le (tgt := 25) (zdec eX9_worth 9 rfl) rfl (fun c3 => ?_) (fun c3 => ?_)
      · refine zS_aload_n (zdec eX9_worth 12 rfl) rfl rfl ?_
        refine zS_getref (i := 8) (zdec eX9_worth 13 rfl) kF_X9_63 ⟨by decide, rfl⟩ rfl rfl rfl rfl rfl ?_
        refine zS_aload_n (zdec eX9_worth 14 rfl) rfl rfl ?_
        refine zS_getref (i := 1) (zdec eX9_worth 15 rfl) kF_X9_19 ⟨by decide, rfl⟩ rfl rfl rfl rfl rfl ?_
        refine zS_iload_n (zdec eX9_worth 16 rfl) rfl ?_
        have hd0 : 0 < D 0 0 := by first | omega
        refine zvMI (M' := mX6_worthOf) (As := [zA 14, zI x]) (st := []) (zdec eX9_worth 17 rfl) kM_X9_313 kV_X6_worthOf ⟨by decide, rfl⟩ rfl rfl rfl rfl rfl (by omega) (c_worthOf (by omega) VD hd0 RD) (fun x5 h5 ⟨hx5, g5⟩ => ?_)
        have f5 : Fr sQ h h5 := g5.mono (fun k j z => by omega)
        exact zlMI (zdec eX9_worth 18 rfl) rfl ⟨by unfold a_worth; rw [if_pos (by omega)]; exact hx5, f5⟩
      · refine zS_bipush (zdec eX9_worth 10 rfl) rfl rfl ?_
        exact zlMI (zdec eX9_worth 11 rfl) rfl ⟨by unfold a_worth; rw [if_neg (by omega)], Fr.rf⟩

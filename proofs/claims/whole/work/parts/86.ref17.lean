theorem q_chance {d : Nat} {h : zH} {D : Dk} {x y : Int} (hd : 200 ≤ d) (VD : DV D) (RD : DR h 0 D) : zMI d mX10_chance [zA 108, zI x, zI y] h (fun r h' => r = a_chance D x y ∧ Fr sQR h h') := by
  obtain ⟨p, hp⟩ : ∃ p, pb0 D = p := ⟨_, rfl⟩
  obtain ⟨q, hq⟩ : ∃ q, planP p = q := ⟨_, rfl⟩
  have pd : pDays p = D 0 1 := by rw [← hp]; rfl
  have pn : pNb p = D 0 8 := by rw [← hp]; rfl
  have dy := VD.days
  have nb := VD.nb
  have ns := VD.ns
  have nl := VD.nl
  have na := VD.na
  have vfl := VD.fl
  have vfe := VD.fee
  have hin : ∀ b, 0 ≤ b → b < pNb p → pIn p b = true := fun b _ _ => by rw [← hp]; rfl
  refine zmet rfl rfl rfl ?_
  refine zS_aload_n (zdec eX10_chance 0 rfl) rfl rfl ?_
  refine zS_iconst (zdec eX10_chance 1 rfl) rfl ?_
  refine zS_putfield (x := 0) (zdec eX10_chance 2 rfl) kF_X10_71 (Or.inl kf10_0) ⟨by decide, rfl⟩ rfl rfl rfl (Or.inl (fun q => by cases q)) ?_
  obtain ⟨h0, E0⟩ : ∃ x, x = zset h 108 0 0 := ⟨_, rfl⟩
  rw [show zset h 108 0 (0 : Int) = h0 from E0.symm]
  have f0 : Fr sQR h h0 := by rw [E0]; exact Fr.rf.set (by omega)
  have RD0 : DR h0 0 D := RD.fr f0 (fun k j z => by omega)
  refine zS_aload_n (zdec eX10_chance 3 rfl) rfl rfl ?_
  refine zS_iload_n (zdec eX10_chance 4 rfl) rfl ?_
  refine zS_i2l (zdec eX10_chance 5 rfl) ?_
  refine zvI (M' := mX10_isBill) (As := [zJ x]) (st := []) (zdec eX10_chance 6 rfl) kM_X10_324 kV_X10_isBill ⟨by decide, rfl⟩ rfl rfl rfl rfl rfl (by omega) (d_isBill (by omega) VD RD0) ?_
  refine zS_if_eq (tgt := 47) (zdec eX10_chance 7 rfl) rfl (fun c1 => ?_) (fun c1 => ?_)
  · have z1 := d2i_0.mp c1
    refine zS_bipush (zdec eX10_chance 24 rfl) rfl rfl ?_
    exact zlMI (zdec eX10_chance 25 rfl) rfl ⟨by unfold a_chance; rw [if_neg (by omega)], f0⟩
  · have z1 := d2i_n.mp c1
    refine zS_iload_n (zdec eX10_chance 8 rfl) rfl ?_
    refine zsI (M' := mX10_isHalf) (As := [zI y]) (st := []) (zdec eX10_chance 9 rfl) kM_X10_335 kS_X10_isHalf rfl rfl rfl (by omega) (d_isHalf (by omega)) ?_
    refine zS_if_eq (tgt := 47) (zdec eX10_chance 10 rfl) rfl (fun c2 => ?_) (fun c2 => ?_)
    · have z2 := d2i_0.mp c2
      refine zS_bipush (zdec eX10_chance 24 rfl) rfl rfl ?_
      exact zlMI (zdec eX10_chance 25 rfl) rfl ⟨by unfold a_chance; rw [if_neg (by omega)], f0⟩
    · have z2 := d2i_n.mp c2
      refine zS_aload_n (zdec eX10_chance 11 rfl) rfl rfl ?_
      refine zS_iload_n (zdec eX10_chance 12 rfl) rfl ?_
      have hd0 : 0 < D 0 0 := by first | omega | exact VD.bill (show 0 ≤ x by omega) (show x < D 0 8 by omega) | exact VD.day (show 0 ≤ x by omega) (show x < D 0 1 by omega) | exact VD.sup (show 0 ≤ x by omega) (show x < D 0 7 by omega)
      refine zvMJ (M' := mX10_weightOf) (As := [zI x]) (st := []) (zdec eX10_chance 13 rfl) kM_X10_456 kV_X10_weightOf ⟨by decide, rfl⟩ rfl rfl rfl rfl rfl (by omega) (r_weightOf (by omega) VD hd0 RD0 (by omega)) (fun x3 h3 ⟨hx3, g3⟩ => ?_)
      have f3 : Fr sQR h h3 := f0.tr g3 (fun k j z => z) (fun k j z => z)
      have RD3 : DR h3 0 D := RD.fr f3 (fun k j z => by omega)
      have ob := odA_b VD hd0 x
      have pb := pwB nl.1 nl.2
      have p10 : pwP 10 (D 0 9).toNat = pwI (D 0 9) := pwP_10 _
      refine zS_ldc2_w (zdec eX10_chance 14 rfl) kj_X10_454 rfl ?_
      refine zS_aload_n (zdec eX10_chance 15 rfl) rfl rfl ?_
      refine zS_getref (i := 61) (zdec eX10_chance 16 rfl) kF_X10_34 ⟨by decide, rfl⟩ rfl rfl rfl rfl rfl ?_
      refine zS_bipush (zdec eX10_chance 17 rfl) rfl rfl ?_
      refine zS_ialoadE (v := (D 0 9)) (zdec eX10_chance 18 rfl) ⟨by decide, rfl⟩ (by decide) (by decide) (RD3.s (by decide) (by decide) (by decide)) ?_
      refine zsJ (M' := mX10_power) (As := [zJ 10, zI (D 0 9)]) (st := [zJ x3]) (zdec eX10_chance 19 rfl) kM_X10_451 kS_X10_power rfl rfl rfl (by omega) (show zPJ (d - 1) mX10_power [zJ 10, zI (D 0 9)] h3 (pwI (D 0 9)) from by rw [← p10]; exact r_pow (by omega) (by omega) (by omega) nl.1 nl.2) ?_
      refine zS_iload_n (zdec eX10_chance 20 rfl) rfl ?_
      refine zsJ (M' := mX10_partOf) (As := [zJ x3, zJ (pwI (D 0 9)), zI y]) (st := []) (zdec eX10_chance 21 rfl) kM_X10_338 kS_X10_partOf rfl rfl rfl (by omega) (r_partOf (by omega) (by omega) (by omega) (by omega) (by omega)) ?_
      refine zS_l2i (zdec eX10_chance 22 rfl) ?_
      refine zS_goto (tgt := 49) (zdec eX10_chance 23 rfl) rfl ?_
      exact zlMI (zdec eX10_chance 25 rfl) rfl ⟨by unfold a_chance; rw [if_pos (by omega), hx3], f3⟩
theorem q_mean {d : Nat} {h : zH} {D : Dk} {y : Int} (hd : 200 ≤ d) (VD : DV D) (RD : DR h 0 D) : zMJ d mX10_mean [zA 108, zI y] h (fun r h' => r = a_mean D y ∧ Fr sQR h h') := by
  obtain ⟨p, hp⟩ : ∃ p, pb0 D = p := ⟨_, rfl⟩
  obtain ⟨q, hq⟩ : ∃ q, planP p = q := ⟨_, rfl⟩
  have pd : pDays p = D 0 1 := by rw [← hp]; rfl
  have pn : pNb p = D 0 8 := by rw [← hp]; rfl
  have dy := VD.days
  have nb := VD.nb
  have ns := VD.ns
  have nl := VD.nl
  have na := VD.na
  have vfl := VD.fl
  have vfe := VD.fee
  have hin : ∀ b, 0 ≤ b → b < pNb p → pIn p b = true := fun b _ _ => by rw [← hp]; rfl
  refine zmet rfl rfl rfl ?_
  refine zS_aload_n (zdec eX10_mean 0 rfl) rfl rfl ?_
  refine zS_iconst (zdec eX10_mean 1 rfl) rfl ?_
  refine zS_putfield (x := 0) (zdec eX10_mean 2 rfl) kF_X10_71 (Or.inl kf10_0) ⟨by decide, rfl⟩ rfl rfl rfl (Or.inl (fun q => by cases q)) ?_
  obtain ⟨h0, E0⟩ : ∃ x, x = zset h 108 0 0 := ⟨_, rfl⟩
  rw [show zset h 108 0 (0 : Int) = h0 from E0.symm]
  have f0 : Fr sQR h h0 := by rw [E0]; exact Fr.rf.set (by omega)
  have RD0 : DR h0 0 D := RD.fr f0 (fun k j z => by omega)
  refine zS_aload_n (zdec eX10_mean 3 rfl) rfl rfl ?_
  refine zvI (M' := mX10_isDesk) (As := []) (st := []) (zdec eX10_mean 4 rfl) kM_X10_332 kV_X10_isDesk ⟨by decide, rfl⟩ rfl rfl rfl rfl rfl (by omega) (d_isDesk VD RD0) ?_
  refine zS_if_eq (tgt := 44) (zdec eX10_mean 5 rfl) rfl (fun c1 => ?_) (fun c1 => ?_)
  · have z1 := d2i_0.mp c1
    refine zS_ldc2_w (zdec eX10_mean 21 rfl) kj_X10_460 rfl ?_
    exact zlMJ (zdec eX10_mean 22 rfl) rfl ⟨by unfold a_mean; rw [if_neg (by omega)], f0⟩
  · have z1 := d2i_n.mp c1
    refine zS_iload_n (zdec eX10_mean 6 rfl) rfl ?_
    refine zsI (M' := mX10_isHalf) (As := [zI y]) (st := []) (zdec eX10_mean 7 rfl) kM_X10_335 kS_X10_isHalf rfl rfl rfl (by omega) (d_isHalf (by omega)) ?_
    refine zS_if_eq (tgt := 44) (zdec eX10_mean 8 rfl) rfl (fun c2 => ?_) (fun c2 => ?_)
    · have z2 := d2i_0.mp c2
      refine zS_ldc2_w (zdec eX10_mean 21 rfl) kj_X10_460 rfl ?_
      exact zlMJ (zdec eX10_mean 22 rfl) rfl ⟨by unfold a_mean; rw [if_neg (by omega)], f0⟩
    · have z2 := d2i_n.mp c2
      refine zS_aload_n (zdec eX10_mean 9 rfl) rfl rfl ?_
      refine zS_iconst (zdec eX10_mean 10 rfl) rfl ?_
      have hd0 : 0 < D 0 0 := by first | omega
      refine zvMJ (M' := mX10_weightOf) (As := [zI (-1)]) (st := []) (zdec eX10_mean 11 rfl) kM_X10_456 kV_X10_weightOf ⟨by decide, rfl⟩ rfl rfl rfl rfl rfl (by omega) (r_weightOf (by omega) VD hd0 RD0 (by omega)) (fun x3 h3 ⟨hx3, g3⟩ => ?_)
      have f3 : Fr sQR h h3 := f0.tr g3 (fun k j z => z) (fun k j z => z)
      have RD3 : DR h3 0 D := RD.fr f3 (fun k j z => by omega)
      have ob := odA_b VD hd0 (-1)
      have pb := pwB nl.1 nl.2
      have p10 : pwP 10 (D 0 9).toNat = pwI (D 0 9) := pwP_10 _
      refine zS_ldc2_w (zdec eX10_mean 12 rfl) kj_X10_454 rfl ?_
      refine zS_aload_n (zdec eX10_mean 13 rfl) rfl rfl ?_
      refine zS_getref (i := 61) (zdec eX10_mean 14 rfl) kF_X10_34 ⟨by decide, rfl⟩ rfl rfl rfl rfl rfl ?_
      refine zS_bipush (zdec eX10_mean 15 rfl) rfl rfl ?_
      refine zS_ialoadE (v := (D 0 9)) (zdec eX10_mean 16 rfl) ⟨by decide, rfl⟩ (by decide) (by decide) (RD3.s (by decide) (by decide) (by decide)) ?_
      refine zsJ (M' := mX10_power) (As := [zJ 10, zI (D 0 9)]) (st := [zJ x3]) (zdec eX10_mean 17 rfl) kM_X10_451 kS_X10_power rfl rfl rfl (by omega) (show zPJ (d - 1) mX10_power [zJ 10, zI (D 0 9)] h3 (pwI (D 0 9)) from by rw [← p10]; exact r_pow (by omega) (by omega) (by omega) nl.1 nl.2) ?_
      refine zS_iload_n (zdec eX10_mean 18 rfl) rfl ?_
      refine zsJ (M' := mX10_partOf) (As := [zJ x3, zJ (pwI (D 0 9)), zI y]) (st := []) (zdec eX10_mean 19 rfl) kM_X10_338 kS_X10_partOf rfl rfl rfl (by omega) (r_partOf (by omega) (by omega) (by omega) (by omega) (by omega)) ?_
      refine zS_goto (tgt := 47) (zdec eX10_mean 20 rfl) rfl ?_
      exact zlMJ (zdec eX10_mean 22 rfl) rfl ⟨by unfold a_mean; rw [if_pos (by omega), hx3], f3⟩
theorem L_rdraw {d : Nat} {h h2 : zH} {D : Dk} {s : Int} (hd : 20 ≤ d) (VD : DV D) (hd0 : 0 < D 0 0) (RD : DR h 0 D) (s0 : 0 ≤ s) (s1 : s < 2147483648) (R : WR h2 (pb0 D)) (f2 : Fr sQR h h2) : ∀ (n : Nat) (e : Int), 0 ≤ e → e + n = D 0 9 → zS mX10_draws (zr d) 12 [zA 108, zJ s, zN, zI (bitsI (fun i => decide (((lcI s (i + 1)).tdiv 65536).tmod 10 < D 0 3)) e), zJ (lcI s e), zN, zI e] [] TT h2 (zAnI (fun r h' => r = drI D s ∧ LnR h' (wT (pb0 D) 2 (bitB (drI D s))) ∧ Fr sQR h h')) := by
  intro n
  induction n with
  | zero =>
    intro e a1 a2
    have RD2 : DR h2 0 D := RD.fr f2 (fun k j z => by omega)
    have nl := VD.nl
    have od := VD.odds
    refine zS_iload (zdec eX10_draws 8 rfl) rfl ?_
    refine zS_aload_n (zdec eX10_draws 9 rfl) rfl rfl ?_
    refine zS_getref (i := 61) (zdec eX10_draws 10 rfl) kF_X10_34 ⟨by decide, rfl⟩ rfl rfl rfl rfl rfl ?_
    refine zS_bipush (zdec eX10_draws 11 rfl) rfl rfl ?_
    refine zS_ialoadE (v := (D 0 9)) (zdec eX10_draws 12 rfl) ⟨by decide, rfl⟩ (by decide) (by decide) (RD2.s (by decide) (by decide) (by decide)) ?_
    refine zS_icmp_ge (tgt := 78) (zdec eX10_draws 13 rfl) rfl (fun cz => ?_) (fun cz => absurd (by omega) cz)
    refine zS_aload_n (zdec eX10_draws 44 rfl) rfl rfl ?_
    refine zS_iload_n (zdec eX10_draws 45 rfl) rfl ?_
    refine zS_iconst (zdec eX10_draws 46 rfl) rfl ?_
    refine zS_ixor (zdec eX10_draws 47 rfl) ?_
    refine zS_putfield (x := 28) (zdec eX10_draws 48 rfl) kF_X10_258 (Or.inl kf10_28) ⟨by decide, rfl⟩ rfl rfl rfl (Or.inl (fun q => by cases q)) ?_
    have ed : drI D s = (bitsI (fun i => decide (((lcI s (i + 1)).tdiv 65536).tmod 10 < D 0 3)) e) := by unfold drI; rw [show e = D 0 9 by omega]
    have dr := bitsI_rng (f := (fun i => decide (((lcI s (i + 1)).tdiv 65536).tmod 10 < D 0 3))) (k := D 0 9) nl.1 (by omega)
    have dd : drI D s = bitsI (fun i => decide (((lcI s (i + 1)).tdiv 65536).tmod 10 < D 0 3)) (D 0 9) := rfl
    have hp6 : (2 : Int) ^ (D 0 9).toNat ≤ 64 := by
      have : (2 : Nat) ^ (D 0 9).toNat ≤ 2 ^ 6 := Nat.pow_le_pow_right (by decide) (by omega)
      exact_mod_cast this
    have R4 : WR (zset h2 108 28 (zXor (bitsI (fun i => decide (((lcI s (i + 1)).tdiv 65536).tmod 10 < D 0 3)) e) (-1))) (wT (pb0 D) 2 (bitB (drI D s))) := R.cm' (f := bitB (drI D s)) (fun i i0 i1 => by rw [← ed]; exact xor_bit (by omega) (by omega) i0 (by have : i < D 0 9 := i1; omega))
    have V4 : PV (wT (pb0 D) 2 (bitB (drI D s))) := (pb0_V VD hd0).set' 2 _
    have ff : Fr sQR h (zset h2 108 28 (zXor (bitsI (fun i => decide (((lcI s (i + 1)).tdiv 65536).tmod 10 < D 0 3)) e) (-1))) := f2.set (by omega)
    refine zS_aload_n (zdec eX10_draws 49 rfl) rfl rfl ?_
    refine zvMV (M' := mX10_runs) (As := []) (st := []) (zdec eX10_draws 50 rfl) kM_X10_317 kV_X10_runs ⟨by decide, rfl⟩ rfl rfl rfl rfl rfl (by omega) (r_runs (by omega) V4 R4) (fun h3 ⟨S3, O3, g3⟩ => ?_)
    have f3 : Fr sQR h h3 := ff.tr g3 (fun k j z => z) (fun k j z => by omega)
    have R3 : WR h3 (wT (pb0 D) 2 (bitB (drI D s))) := R4.fr g3 (fun k j z => by unfold wrP; omega)
    refine zS_iload_n (zdec eX10_draws 51 rfl) rfl ?_
    exact zlMI (zdec eX10_draws 52 rfl) rfl ⟨ed.symm, ⟨R3, S3⟩, f3⟩
  | succ n ih =>
    intro e a1 a2
    have RD2 : DR h2 0 D := RD.fr f2 (fun k j z => by omega)
    have nl := VD.nl
    have od := VD.odds
    have lb := lcI_b s0 s1 e a1
    refine zS_iload (zdec eX10_draws 8 rfl) rfl ?_
    refine zS_aload_n (zdec eX10_draws 9 rfl) rfl rfl ?_
    refine zS_getref (i := 61) (zdec eX10_draws 10 rfl) kF_X10_34 ⟨by decide, rfl⟩ rfl rfl rfl rfl rfl ?_
    refine zS_bipush (zdec eX10_draws 11 rfl) rfl rfl ?_
    refine zS_ialoadE (v := (D 0 9)) (zdec eX10_draws 12 rfl) ⟨by decide, rfl⟩ (by decide) (by decide) (RD2.s (by decide) (by decide) (by decide)) ?_
    refine zS_icmp_ge (tgt := 78) (zdec eX10_draws 13 rfl) rfl (fun cz => absurd cz (by omega)) (fun cz => ?_)
    refine zS_ldc2_w (zdec eX10_draws 14 rfl) kj_X10_462 rfl ?_
    refine zS_lload (zdec eX10_draws 15 rfl) rfl ?_
    refine zS_lmul (zdec eX10_draws 16 rfl) ⟨by omega, by omega⟩ ?_
    refine zS_ldc2_w (zdec eX10_draws 17 rfl) kj_X10_464 rfl ?_
    refine zS_ladd (zdec eX10_draws 18 rfl) ⟨by omega, by omega⟩ ?_
    refine zS_ldc2_w (zdec eX10_draws 19 rfl) kj_X10_466 rfl ?_
    refine zS_lrem (zdec eX10_draws 20 rfl) (by decide) (fun q => absurd q.2 (by decide)) ?_
    refine zS_lstore (zdec eX10_draws 21 rfl) rfl ?_
    refine zS_iload_n (zdec eX10_draws 22 rfl) rfl ?_
    refine zS_lload (zdec eX10_draws 23 rfl) rfl ?_
    refine zS_ldc2_w (zdec eX10_draws 24 rfl) kj_X10_468 rfl ?_
    refine zS_ldiv (zdec eX10_draws 25 rfl) (by decide) (fun q => absurd q.2 (by decide)) ?_
    refine zS_ldc2_w (zdec eX10_draws 26 rfl) kj_X10_454 rfl ?_
    refine zS_lrem (zdec eX10_draws 27 rfl) (by decide) (fun q => absurd q.2 (by decide)) ?_
    refine zS_aload_n (zdec eX10_draws 28 rfl) rfl rfl ?_
    refine zS_getref (i := 61) (zdec eX10_draws 29 rfl) kF_X10_34 ⟨by decide, rfl⟩ rfl rfl rfl rfl rfl ?_
    refine zS_iconst (zdec eX10_draws 30 rfl) rfl ?_
    refine zS_ialoadE (v := (D 0 3)) (zdec eX10_draws 31 rfl) ⟨by decide, rfl⟩ (by decide) (by decide) (RD2.s (by decide) (by decide) (by decide)) ?_
    refine zS_i2l (zdec eX10_draws 32 rfl) ?_
    refine zS_lcmp (zdec eX10_draws 33 rfl) ?_
    refine zS_if_ge (tgt := 69) (zdec eX10_draws 34 rfl) rfl (fun c1 => ?_) (fun c1 => ?_)
    · refine zS_iconst (zdec eX10_draws 39 rfl) rfl ?_
      refine zS_ior (zdec eX10_draws 40 rfl) ?_
      refine zS_istore_n (zdec eX10_draws 41 rfl) rfl ?_
      refine zS_iinc (zdec eX10_draws 42 rfl) rfl rfl ⟨by omega, by omega⟩ ?_
      refine zS_goto (tgt := 12) (zdec eX10_draws 43 rfl) rfl ?_
      have k := ih (e + 1) (by omega) (by omega)
      rw [bitsI_s _ a1, lcI_s _ a1] at k
      rw [if_neg (by rw [decide_eq_false (by have := zCmp_ge.mp c1; omega)]; decide)] at k
      rw [bits_or0 a1 (by omega)]
      exact k
    · refine zS_iconst (zdec eX10_draws 35 rfl) rfl ?_
      refine zS_iload (zdec eX10_draws 36 rfl) rfl ?_
      refine zS_ishl (zdec eX10_draws 37 rfl) ?_
      refine zS_goto (tgt := 70) (zdec eX10_draws 38 rfl) rfl ?_
      refine zS_ior (zdec eX10_draws 40 rfl) ?_
      refine zS_istore_n (zdec eX10_draws 41 rfl) rfl ?_
      refine zS_iinc (zdec eX10_draws 42 rfl) rfl rfl ⟨by omega, by omega⟩ ?_
      refine zS_goto (tgt := 12) (zdec eX10_draws 43 rfl) rfl ?_
      have k := ih (e + 1) (by omega) (by omega)
      rw [bitsI_s _ a1, lcI_s _ a1] at k
      rw [if_pos (decide_eq_true (by have := mt zCmp_ge.mpr c1; omega))] at k
      exact k
theorem r_draws {d : Nat} {h : zH} {D : Dk} {s : Int} (hd : 20 ≤ d) (VD : DV D) (hd0 : 0 < D 0 0) (RD : DR h 0 D) (s0 : 0 ≤ s) (s1 : s < 2147483648) : zMI d mX10_draws [zA 108, zJ s] h (fun r h' => r = drI D s ∧ LnR h' (wT (pb0 D) 2 (bitB (drI D s))) ∧ Fr sQR h h') := by
  have nl := VD.nl
  refine zmet rfl rfl rfl ?_
  refine zS_aload_n (zdec eX10_draws 0 rfl) rfl rfl ?_
  refine zvMV (M' := mX10_lays) (As := []) (st := []) (zdec eX10_draws 1 rfl) kM_X10_314 kV_X10_lays ⟨by decide, rfl⟩ rfl rfl rfl rfl rfl (by omega) (r_lays (by omega) VD hd0 RD) (fun h2 ⟨R, cl2, g2⟩ => ?_)
  have RD2 : DR h2 0 D := RD.fr g2 (fun k j z => by omega)
  refine zS_iconst (zdec eX10_draws 2 rfl) rfl ?_
  refine zS_istore_n (zdec eX10_draws 3 rfl) rfl ?_
  refine zS_lload_n (zdec eX10_draws 4 rfl) rfl ?_
  refine zS_lstore (zdec eX10_draws 5 rfl) rfl ?_
  refine zS_iconst (zdec eX10_draws 6 rfl) rfl ?_
  refine zS_istore (zdec eX10_draws 7 rfl) rfl ?_
  exact L_rdraw hd VD hd0 RD s0 s1 R (g2.mono (fun k j z => by omega)) (D 0 9).toNat 0 (by omega) (by omega)
theorem q_drawn {d : Nat} {h : zH} {D : Dk} {x y : Int} (hd : 200 ≤ d) (VD : DV D) (RD : DR h 0 D) : zMI d mX10_drawn [zA 108, zI x, zI y] h (fun r h' => r = a_drawn D x y ∧ Fr sQR h h') := by
  obtain ⟨p, hp⟩ : ∃ p, pb0 D = p := ⟨_, rfl⟩
  obtain ⟨q, hq⟩ : ∃ q, planP p = q := ⟨_, rfl⟩
  have pd : pDays p = D 0 1 := by rw [← hp]; rfl
  have pn : pNb p = D 0 8 := by rw [← hp]; rfl
  have dy := VD.days
  have nb := VD.nb
  have ns := VD.ns
  have nl := VD.nl
  have na := VD.na
  have vfl := VD.fl
  have vfe := VD.fee
  have hin : ∀ b, 0 ≤ b → b < pNb p → pIn p b = true := fun b _ _ => by rw [← hp]; rfl
  refine zmet rfl rfl rfl ?_
  refine zS_aload_n (zdec eX10_drawn 0 rfl) rfl rfl ?_
  refine zS_iconst (zdec eX10_drawn 1 rfl) rfl ?_
  refine zS_putfield (x := 0) (zdec eX10_drawn 2 rfl) kF_X10_71 (Or.inl kf10_0) ⟨by decide, rfl⟩ rfl rfl rfl (Or.inl (fun q => by cases q)) ?_
  obtain ⟨h0, E0⟩ : ∃ x, x = zset h 108 0 0 := ⟨_, rfl⟩
  rw [show zset h 108 0 (0 : Int) = h0 from E0.symm]
  have f0 : Fr sQR h h0 := by rw [E0]; exact Fr.rf.set (by omega)
  have RD0 : DR h0 0 D := RD.fr f0 (fun k j z => by omega)
  refine zS_aload_n (zdec eX10_drawn 3 rfl) rfl rfl ?_
  refine zvI (M' := mX10_isDesk) (As := []) (st := []) (zdec eX10_drawn 4 rfl) kM_X10_332 kV_X10_isDesk ⟨by decide, rfl⟩ rfl rfl rfl rfl rfl (by omega) (d_isDesk VD RD0) ?_
  refine zS_if_eq (tgt := 26) (zdec eX10_drawn 5 rfl) rfl (fun c1 => ?_) (fun c1 => ?_)
  · have z1 := d2i_0.mp c1
    refine zS_bipush (zdec eX10_drawn 12 rfl) rfl rfl ?_
    exact zlMI (zdec eX10_drawn 13 rfl) rfl ⟨by unfold a_drawn; rw [if_neg (by omega)], f0⟩
  · have z1 := d2i_n.mp c1
    refine zS_iload_n (zdec eX10_drawn 6 rfl) rfl ?_
    refine zsI (M' := mX10_isSeed) (As := [zI x]) (st := []) (zdec eX10_drawn 7 rfl) kM_X10_472 kS_X10_isSeed rfl rfl rfl (by omega) (d_isSeed (by omega)) ?_
    refine zS_if_eq (tgt := 26) (zdec eX10_drawn 8 rfl) rfl (fun c2 => ?_) (fun c2 => ?_)
    · have z2 := d2i_0.mp c2
      refine zS_bipush (zdec eX10_drawn 12 rfl) rfl rfl ?_
      exact zlMI (zdec eX10_drawn 13 rfl) rfl ⟨by unfold a_drawn; rw [if_neg (by omega)], f0⟩
    · have z2 := d2i_n.mp c2
      refine zS_iload_n (zdec eX10_drawn 9 rfl) rfl ?_
      refine zsI (M' := mX10_isHalf) (As := [zI y]) (st := []) (zdec eX10_drawn 10 rfl) kM_X10_335 kS_X10_isHalf rfl rfl rfl (by omega) (d_isHalf (by omega)) ?_
      refine zS_if_ne (tgt := 29) (zdec eX10_drawn 11 rfl) rfl (fun c3 => ?_) (fun c3 => ?_)
      · have z3 := d2i_n.mp c3
        refine zS_aload_n (zdec eX10_drawn 14 rfl) rfl rfl ?_
        refine zS_iload_n (zdec eX10_drawn 15 rfl) rfl ?_
        refine zS_i2l (zdec eX10_drawn 16 rfl) ?_
        have hd0 : 0 < D 0 0 := by first | omega
        refine zvMI (M' := mX10_draws) (As := [zJ x]) (st := []) (zdec eX10_drawn 17 rfl) kM_X10_475 kV_X10_draws ⟨by decide, rfl⟩ rfl rfl rfl rfl rfl (by omega) (r_draws (s := x) (by omega) VD hd0 RD0 (by omega) (by omega)) (fun x3 h3 ⟨hx3, L3, g3⟩ => ?_)
        have f3 : Fr sQR h h3 := f0.tr g3 (fun k j z => z) (fun k j z => z)
        have V4 : PV (wT (pb0 D) 2 (bitB (drI D x))) := (pb0_V VD hd0).set' 2 _
        refine zS_istore_n (zdec eX10_drawn 18 rfl) rfl ?_
        refine zS_iload_n (zdec eX10_drawn 19 rfl) rfl ?_
        refine zS_if_ne (tgt := 44) (zdec eX10_drawn 20 rfl) rfl (fun c4 => ?_) (fun c4 => ?_)
        · refine zS_aload_n (zdec eX10_drawn 23 rfl) rfl rfl ?_
          refine zvI (M' := mX10_totalNow) (As := []) (st := []) (zdec eX10_drawn 24 rfl) kM_X10_358 kV_X10_totalNow ⟨by decide, rfl⟩ rfl rfl rfl rfl rfl (by omega) (show zPI (d - 1) mX10_totalNow [zA 108] h3 (totL (wT (pb0 D) 2 (bitB (drI D x)))) from r_totalNow (by omega) V4 L3.1 L3.2 (fun b => (planP_rng V4 b).1) (fun b => (planP_rng V4 b).2)) ?_
          exact zlMI (zdec eX10_drawn 25 rfl) rfl ⟨by unfold a_drawn; rw [if_pos (by omega), if_neg (by omega)], f3⟩
        · refine zS_iload_n (zdec eX10_drawn 21 rfl) rfl ?_
          refine zS_goto (tgt := 48) (zdec eX10_drawn 22 rfl) rfl ?_
          exact zlMI (zdec eX10_drawn 25 rfl) rfl ⟨by unfold a_drawn; rw [if_pos (by omega), if_pos (by omega), hx3], f3⟩
      · have z3 := d2i_0.mp c3
        refine zS_bipush (zdec eX10_drawn 12 rfl) rfl rfl ?_
        exact zlMI (zdec eX10_drawn 13 rfl) rfl ⟨by unfold a_drawn; rw [if_neg (by omega)], f0⟩
theorem K_luck {d : Nat} {h : zH} {D : Dk} {x y z : Int} (hd : 150 ≤ d) (VD : DV D) (hd0 : 0 < D 0 0) (RD : DR h 0 D) (x0 : 0 ≤ x) (x1 : x ≤ 2000000000) (y1 : y ≤ 20) (z0 : 0 ≤ z) (z1 : z < D 0 8) : ∀ (n : Nat) (e : Int) (h1 : zH), 0 ≤ e → e + n = y → Fr sQR h h1 → zS mX10_luck (zr d) 42 [zA 108, zI x, zI y, zI z, zI (sumI (fun i => if planP (wT (pb0 D) 2 (bitB (drI D (x + i)))) z < D 0 1 then 1 else 0) e), zI e] [] TT h1 (zAnI (fun r h' => r = sumI (fun i => if planP (wT (pb0 D) 2 (bitB (drI D (x + i)))) z < D 0 1 then 1 else 0) y ∧ Fr sQR h h')) := by
  intro n
  induction n with
  | zero =>
    intro e h1 a1 a2 i1
    refine zS_iload (zdec eX10_luck 23 rfl) rfl ?_
    refine zS_iload_n (zdec eX10_luck 24 rfl) rfl ?_
    refine zS_icmp_ge (tgt := 88) (zdec eX10_luck 25 rfl) rfl (fun cz => ?_) (fun cz => absurd (by omega) cz)
    refine zS_iload (zdec eX10_luck 49 rfl) rfl ?_
    exact zlMI (zdec eX10_luck 50 rfl) rfl ⟨by rw [show e = y by omega], i1⟩
  | succ n ih =>
    intro e h1 a1 a2 i1
    have RD1 : DR h1 0 D := RD.fr i1 (fun k j z => by omega)
    have nb := VD.nb
    have s0 := sumI_nn (f := (fun i => if planP (wT (pb0 D) 2 (bitB (drI D (x + i)))) z < D 0 1 then 1 else 0)) (k := e) (fun j j0 j1 => by split <;> omega)
    have s1 := sumI_le (f := (fun i => if planP (wT (pb0 D) 2 (bitB (drI D (x + i)))) z < D 0 1 then 1 else 0)) (k := e) (B := 1) a1 (fun j j0 j1 => by split <;> omega)
    refine zS_iload (zdec eX10_luck 23 rfl) rfl ?_
    refine zS_iload_n (zdec eX10_luck 24 rfl) rfl ?_
    refine zS_icmp_ge (tgt := 88) (zdec eX10_luck 25 rfl) rfl (fun cz => absurd cz (by omega)) (fun cz => ?_)
    refine zS_aload_n (zdec eX10_luck 26 rfl) rfl rfl ?_
    refine zS_iload_n (zdec eX10_luck 27 rfl) rfl ?_
    refine zS_i2l (zdec eX10_luck 28 rfl) ?_
    refine zS_iload (zdec eX10_luck 29 rfl) rfl ?_
    refine zS_i2l (zdec eX10_luck 30 rfl) ?_
    refine zS_ladd (zdec eX10_luck 31 rfl) ⟨by omega, by omega⟩ ?_
    refine zvMI (M' := mX10_draws) (As := [zJ (x + e)]) (st := []) (zdec eX10_luck 32 rfl) kM_X10_475 kV_X10_draws ⟨by decide, rfl⟩ rfl rfl rfl rfl rfl (by omega) (r_draws (s := x + e) (by omega) VD hd0 RD1 (by omega) (by omega)) (fun x3 h3 ⟨hx3, L3, g3⟩ => ?_)
    have f3 : Fr sQR h h3 := i1.tr g3 (fun k j z => z) (fun k j z => z)
    have V4 : PV (wT (pb0 D) 2 (bitB (drI D (x + e)))) := (pb0_V VD hd0).set' 2 _
    refine zS_pop (zdec eX10_luck 33 rfl) (fun q => by cases q) ?_
    refine zS_iload (zdec eX10_luck 34 rfl) rfl ?_
    refine zS_aload_n (zdec eX10_luck 35 rfl) rfl rfl ?_
    refine zS_getref (i := 69) (zdec eX10_luck 36 rfl) kF_X10_59 ⟨by decide, rfl⟩ rfl rfl rfl rfl rfl ?_
    refine zS_iload_n (zdec eX10_luck 37 rfl) rfl ?_
    refine zS_ialoadE (v := (planP (wT (pb0 D) 2 (bitB (drI D (x + e)))) z)) (zdec eX10_luck 38 rfl) ⟨by decide, rfl⟩ (by omega) (by omega) (L3.2 _ z0 z1) ?_
    refine zS_aload_n (zdec eX10_luck 39 rfl) rfl rfl ?_
    refine zvI (M' := mX10_days) (As := []) (st := [zI (planP (wT (pb0 D) 2 (bitB (drI D (x + e)))) z), zI (sumI (fun i => if planP (wT (pb0 D) 2 (bitB (drI D (x + i)))) z < D 0 1 then 1 else 0) e)]) (zdec eX10_luck 40 rfl) kM_X10_240 kV_X10_days ⟨by decide, rfl⟩ rfl rfl rfl rfl rfl (by omega) (r_days L3.1) ?_
    refine zS_icmp_ge (tgt := 78) (zdec eX10_luck 41 rfl) rfl (fun c1 => ?_) (fun c1 => ?_)
    · refine zS_iconst (zdec eX10_luck 44 rfl) rfl ?_
      refine zS_iadd (zdec eX10_luck 45 rfl) ⟨by omega, by omega⟩ ?_
      refine zS_istore (zdec eX10_luck 46 rfl) rfl ?_
      refine zS_iinc (zdec eX10_luck 47 rfl) rfl rfl ⟨by omega, by omega⟩ ?_
      refine zS_goto (tgt := 42) (zdec eX10_luck 48 rfl) rfl ?_
      have k := ih (e + 1) h3 (by omega) (by omega) f3
      have pd : pDays (wT (pb0 D) 2 (bitB (drI D (x + e)))) = D 0 1 := rfl
      rw [sumI_s _ a1, if_neg (show ¬ ((planP (wT (pb0 D) 2 (bitB (drI D (x + e)))) z) < D 0 1) by omega)] at k
      exact k
    · refine zS_iconst (zdec eX10_luck 42 rfl) rfl ?_
      refine zS_goto (tgt := 79) (zdec eX10_luck 43 rfl) rfl ?_
      refine zS_iadd (zdec eX10_luck 45 rfl) ⟨by omega, by omega⟩ ?_
      refine zS_istore (zdec eX10_luck 46 rfl) rfl ?_
      refine zS_iinc (zdec eX10_luck 47 rfl) rfl rfl ⟨by omega, by omega⟩ ?_
      refine zS_goto (tgt := 42) (zdec eX10_luck 48 rfl) rfl ?_
      have k := ih (e + 1) h3 (by omega) (by omega) f3
      have pd : pDays (wT (pb0 D) 2 (bitB (drI D (x + e)))) = D 0 1 := rfl
      rw [sumI_s _ a1, if_pos (show (planP (wT (pb0 D) 2 (bitB (drI D (x + e)))) z) < D 0 1 by omega)] at k
      exact k
theorem q_luck {d : Nat} {h : zH} {D : Dk} {x y z : Int} (hd : 200 ≤ d) (VD : DV D) (RD : DR h 0 D) : zMI d mX10_luck [zA 108, zI x, zI y, zI z] h (fun r h' => r = a_luck D x y z ∧ Fr sQR h h') := by
  obtain ⟨p, hp⟩ : ∃ p, pb0 D = p := ⟨_, rfl⟩
  obtain ⟨q, hq⟩ : ∃ q, planP p = q := ⟨_, rfl⟩
  have pd : pDays p = D 0 1 := by rw [← hp]; rfl
  have pn : pNb p = D 0 8 := by rw [← hp]; rfl
  have dy := VD.days
  have nb := VD.nb
  have ns := VD.ns
  have nl := VD.nl
  have na := VD.na
  have vfl := VD.fl
  have vfe := VD.fee
  have hin : ∀ b, 0 ≤ b → b < pNb p → pIn p b = true := fun b _ _ => by rw [← hp]; rfl
  refine zmet rfl rfl rfl ?_
  refine zS_aload_n (zdec eX10_luck 0 rfl) rfl rfl ?_
  refine zS_iconst (zdec eX10_luck 1 rfl) rfl ?_
  refine zS_putfield (x := 0) (zdec eX10_luck 2 rfl) kF_X10_71 (Or.inl kf10_0) ⟨by decide, rfl⟩ rfl rfl rfl (Or.inl (fun q => by cases q)) ?_
  obtain ⟨h0, E0⟩ : ∃ x, x = zset h 108 0 0 := ⟨_, rfl⟩
  rw [show zset h 108 0 (0 : Int) = h0 from E0.symm]
  have f0 : Fr sQR h h0 := by rw [E0]; exact Fr.rf.set (by omega)
  have RD0 : DR h0 0 D := RD.fr f0 (fun k j z => by omega)
  refine zS_iload_n (zdec eX10_luck 3 rfl) rfl ?_
  refine zsI (M' := mX10_isSeed) (As := [zI x]) (st := []) (zdec eX10_luck 4 rfl) kM_X10_472 kS_X10_isSeed rfl rfl rfl (by omega) (d_isSeed (by omega)) ?_
  refine zS_if_eq (tgt := 33) (zdec eX10_luck 5 rfl) rfl (fun c1 => ?_) (fun c1 => ?_)
  · have z1 := d2i_0.mp c1
    refine zS_bipush (zdec eX10_luck 17 rfl) rfl rfl ?_
    exact zlMI (zdec eX10_luck 18 rfl) rfl ⟨by unfold a_luck; rw [if_neg (by omega)], f0⟩
  · have z1 := d2i_n.mp c1
    refine zS_iload_n (zdec eX10_luck 6 rfl) rfl ?_
    refine zS_i2l (zdec eX10_luck 7 rfl) ?_
    refine zS_lconst (zdec eX10_luck 8 rfl) ?_
    refine zS_ldc2_w (zdec eX10_luck 9 rfl) kj_X10_479 rfl ?_
    refine zsI (M' := mX10_in) (As := [zJ y, zJ 1, zJ 20]) (st := []) (zdec eX10_luck 10 rfl) kM_X10_76 kS_X10_in rfl rfl rfl (by omega) r_in ?_
    refine zS_if_eq (tgt := 33) (zdec eX10_luck 11 rfl) rfl (fun c2 => ?_) (fun c2 => ?_)
    · have z2 := d2i_0.mp c2
      refine zS_bipush (zdec eX10_luck 17 rfl) rfl rfl ?_
      exact zlMI (zdec eX10_luck 18 rfl) rfl ⟨by unfold a_luck; rw [if_neg (by omega)], f0⟩
    · have z2 := d2i_n.mp c2
      refine zS_aload_n (zdec eX10_luck 12 rfl) rfl rfl ?_
      refine zS_iload_n (zdec eX10_luck 13 rfl) rfl ?_
      refine zS_i2l (zdec eX10_luck 14 rfl) ?_
      refine zvI (M' := mX10_isBill) (As := [zJ z]) (st := []) (zdec eX10_luck 15 rfl) kM_X10_324 kV_X10_isBill ⟨by decide, rfl⟩ rfl rfl rfl rfl rfl (by omega) (d_isBill (by omega) VD RD0) ?_
      refine zS_if_ne (tgt := 36) (zdec eX10_luck 16 rfl) rfl (fun c3 => ?_) (fun c3 => ?_)
      · have z3 := d2i_n.mp c3
        refine zS_iconst (zdec eX10_luck 19 rfl) rfl ?_
        refine zS_istore (zdec eX10_luck 20 rfl) rfl ?_
        refine zS_iconst (zdec eX10_luck 21 rfl) rfl ?_
        refine zS_istore (zdec eX10_luck 22 rfl) rfl ?_
        have hd0 : 0 < D 0 0 := by first | omega | exact VD.bill (show 0 ≤ z by omega) (show z < D 0 8 by omega) | exact VD.day (show 0 ≤ z by omega) (show z < D 0 1 by omega) | exact VD.sup (show 0 ≤ z by omega) (show z < D 0 7 by omega)
        unfold a_luck
        rw [if_pos (by omega)]
        exact K_luck (by omega) VD hd0 RD (by omega) (by omega) (by omega) (by omega) (by omega) y.toNat 0 h0 (by omega) (by omega) f0
      · have z3 := d2i_0.mp c3
        refine zS_bipush (zdec eX10_luck 17 rfl) rfl rfl ?_
        exact zlMI (zdec eX10_luck 18 rfl) rfl ⟨by unfold a_luck; rw [if_neg (by omega)], f0⟩

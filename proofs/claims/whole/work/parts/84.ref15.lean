theorem awyB : ∀ (n : Fin 6) (s : Fin 32) (b : Fin 5), b.val < n.val → bitB (zAnd (zShl 1 (n.val : Int) - 1) (zXor (s.val : Int) (-1))) (b.val : Int) = !bitB (s.val : Int) (b.val : Int) := by decide +kernel
theorem awy_bit {n s b : Int} (n0 : 0 ≤ n) (n1 : n ≤ 5) (s0 : 0 ≤ s) (s1 : s < 32) (b0 : 0 ≤ b) (b1 : b < n) : bitB (zAnd (zShl 1 n - 1) (zXor s (-1))) b = !bitB s b := by
  obtain ⟨n, rfl⟩ := fin_of (n := 6) n0 (by omega)
  obtain ⟨s, rfl⟩ := fin_of (n := 32) s0 s1
  obtain ⟨b, rfl⟩ := fin_of (n := 5) b0 (by omega)
  exact awyB n s b (by omega)
theorem d_every {d : Nat} {h : zH} {D : Dk} (hd : 1 ≤ d) (VD : DV D) (RD : DR h 0 D) : zPI d mX10_every [zA 108] h (zShl 1 (D 0 8) - 1) := by
  have nb := VD.nb
  have ar := all_rng (k := D 0 8) nb.1 (by omega)
  refine zmet rfl rfl rfl ?_
  refine zS_iconst (zdec eX10_every 0 rfl) rfl ?_
  refine zS_aload_n (zdec eX10_every 1 rfl) rfl rfl ?_
  refine zvI (M' := mX10_bills) (As := []) (st := [zI 1]) (zdec eX10_every 2 rfl) kM_X10_236 kV_X10_bills ⟨by decide, rfl⟩ rfl rfl rfl rfl rfl (by omega) (d_bills RD) ?_
  refine zS_ishl (zdec eX10_every 3 rfl) ?_
  refine zS_iconst (zdec eX10_every 4 rfl) rfl ?_
  refine zS_isub (zdec eX10_every 5 rfl) ⟨by omega, by omega⟩ ?_
  exact zlI (zdec eX10_every 6 rfl) rfl rfl
theorem L_rworth {d : Nat} {h h3 : zH} {D : Dk} {v : Int} (hd : 5 ≤ d) (VD : DV D) (V4 : PV (wT (pb0 D) 1 (bitB v))) (RD3 : DR h3 0 D) (L3 : LnR h3 (wT (pb0 D) 1 (bitB v))) (f3 : Fr sQR h h3) : ∀ (n : Nat) (e : Int), 0 ≤ e → e + n = D 0 8 → zS mX10_worthOf (zr d) 24 [zA 108, zI v, zI (-totL (wT (pb0 D) 1 (bitB v)) + sumI (fun b => if bitB v b then netD D b else 0) e), zI e] [] TT h3 (zAnI (fun r h' => r = worL D v ∧ Fr sQR h h')) := by
  intro n
  induction n with
  | zero =>
    intro e a1 a2
    refine zS_iload_n (zdec eX10_worthOf 16 rfl) rfl ?_
    refine zS_aload_n (zdec eX10_worthOf 17 rfl) rfl rfl ?_
    refine zvI (M' := mX10_bills) (As := []) (st := [zI e]) (zdec eX10_worthOf 18 rfl) kM_X10_236 kV_X10_bills ⟨by decide, rfl⟩ rfl rfl rfl rfl rfl (by omega) (d_bills RD3) ?_
    refine zS_icmp_ge (tgt := 59) (zdec eX10_worthOf 19 rfl) rfl (fun cz => ?_) (fun cz => absurd (by omega) cz)
    refine zS_iload_n (zdec eX10_worthOf 35 rfl) rfl ?_
    exact zlMI (zdec eX10_worthOf 36 rfl) rfl ⟨by unfold worL; rw [show e = D 0 8 by omega]; omega, f3⟩
  | succ n ih =>
    intro e a1 a2
    have nb := VD.nb
    have nt := netB VD a1 (show e < D 0 8 by omega)
    have tb := totLB V4
    have s0 := sumI_nn (f := (fun b => if bitB v b then netD D b else 0)) (k := e) (fun j j0 j1 => by have := netB VD j0 (show j < D 0 8 by omega); split <;> omega)
    have s1 := sumI_le (f := (fun b => if bitB v b then netD D b else 0)) (k := e) (B := 3000) a1 (fun j j0 j1 => by have := netB VD j0 (show j < D 0 8 by omega); split <;> omega)
    refine zS_iload_n (zdec eX10_worthOf 16 rfl) rfl ?_
    refine zS_aload_n (zdec eX10_worthOf 17 rfl) rfl rfl ?_
    refine zvI (M' := mX10_bills) (As := []) (st := [zI e]) (zdec eX10_worthOf 18 rfl) kM_X10_236 kV_X10_bills ⟨by decide, rfl⟩ rfl rfl rfl rfl rfl (by omega) (d_bills RD3) ?_
    refine zS_icmp_ge (tgt := 59) (zdec eX10_worthOf 19 rfl) rfl (fun cz => absurd cz (by omega)) (fun cz => ?_)
    refine zS_iload_n (zdec eX10_worthOf 20 rfl) rfl ?_
    refine zS_iload_n (zdec eX10_worthOf 21 rfl) rfl ?_
    refine zS_iload_n (zdec eX10_worthOf 22 rfl) rfl ?_
    refine zsI (M' := mX10_isBit) (As := [zI v, zI e]) (st := [zI (-totL (wT (pb0 D) 1 (bitB v)) + sumI (fun b => if bitB v b then netD D b else 0) e)]) (zdec eX10_worthOf 23 rfl) kM_X10_264 kS_X10_isBit rfl rfl rfl (by omega) r_isBit ?_
    refine zS_if_eq (tgt := 50) (zdec eX10_worthOf 24 rfl) rfl (fun c1 => ?_) (fun c1 => ?_)
    · have z1 := b2i_0.mp c1
      refine zS_iconst (zdec eX10_worthOf 30 rfl) rfl ?_
      refine zS_iadd (zdec eX10_worthOf 31 rfl) ⟨by omega, by omega⟩ ?_
      refine zS_istore_n (zdec eX10_worthOf 32 rfl) rfl ?_
      refine zS_iinc (zdec eX10_worthOf 33 rfl) rfl rfl ⟨by omega, by omega⟩ ?_
      refine zS_goto (tgt := 24) (zdec eX10_worthOf 34 rfl) rfl ?_
      have k := ih (e + 1) (by omega) (by omega)
      rw [sumI_s _ a1, z1] at k
      rw [if_neg (by decide), Int.add_zero] at k
      rw [Int.add_zero]
      exact k
    · have z1 := b2i_n.mp c1
      refine zS_aload_n (zdec eX10_worthOf 25 rfl) rfl rfl ?_
      refine zS_getref (i := 68) (zdec eX10_worthOf 26 rfl) kF_X10_56 ⟨by decide, rfl⟩ rfl rfl rfl rfl rfl ?_
      refine zS_iload_n (zdec eX10_worthOf 27 rfl) rfl ?_
      refine zS_ialoadE (v := (netD D e)) (zdec eX10_worthOf 28 rfl) ⟨by decide, rfl⟩ (by omega) (by omega) (L3.1.net (by omega) (show _ < D 0 8 by omega)) ?_
      refine zS_goto (tgt := 51) (zdec eX10_worthOf 29 rfl) rfl ?_
      refine zS_iadd (zdec eX10_worthOf 31 rfl) ⟨by omega, by omega⟩ ?_
      refine zS_istore_n (zdec eX10_worthOf 32 rfl) rfl ?_
      refine zS_iinc (zdec eX10_worthOf 33 rfl) rfl rfl ⟨by omega, by omega⟩ ?_
      refine zS_goto (tgt := 24) (zdec eX10_worthOf 34 rfl) rfl ?_
      have k := ih (e + 1) (by omega) (by omega)
      rw [sumI_s _ a1, z1] at k
      rw [if_pos rfl, ← Int.add_assoc] at k
      exact k
theorem r_worthOf {d : Nat} {h : zH} {D : Dk} {v : Int} (hd : 15 ≤ d) (VD : DV D) (hd0 : 0 < D 0 0) (RD : DR h 0 D) (v0 : 0 ≤ v) (v1 : v < 32) : zMI d mX10_worthOf [zA 108, zI v] h (fun r h' => r = worL D v ∧ Fr sQR h h') := by
  have nb := VD.nb
  have V4 : PV (wT (pb0 D) 1 (bitB v)) := (pb0_V VD hd0).set' 1 (bitB v)
  have tb := totLB V4
  refine zmet rfl rfl rfl ?_
  refine zS_aload_n (zdec eX10_worthOf 0 rfl) rfl rfl ?_
  refine zvMV (M' := mX10_lays) (As := []) (st := []) (zdec eX10_worthOf 1 rfl) kM_X10_314 kV_X10_lays ⟨by decide, rfl⟩ rfl rfl rfl rfl rfl (by omega) (r_lays (by omega) VD hd0 RD) (fun h2 ⟨R, cl2, g2⟩ => ?_)
  have RD2 : DR h2 0 D := RD.fr g2 (fun k j z => by omega)
  refine zS_aload_n (zdec eX10_worthOf 2 rfl) rfl rfl ?_
  refine zS_aload_n (zdec eX10_worthOf 3 rfl) rfl rfl ?_
  refine zvI (M' := mX10_every) (As := []) (st := [zA 108]) (zdec eX10_worthOf 4 rfl) kM_X10_434 kV_X10_every ⟨by decide, rfl⟩ rfl rfl rfl rfl rfl (by omega) (d_every (by omega) VD RD2) ?_
  refine zS_iload_n (zdec eX10_worthOf 5 rfl) rfl ?_
  refine zS_iconst (zdec eX10_worthOf 6 rfl) rfl ?_
  refine zS_ixor (zdec eX10_worthOf 7 rfl) ?_
  refine zS_iand (zdec eX10_worthOf 8 rfl) ?_
  refine zS_putfield (x := 26) (zdec eX10_worthOf 9 rfl) kF_X10_255 (Or.inl kf10_26) ⟨by decide, rfl⟩ rfl rfl rfl (Or.inl (fun q => by cases q)) ?_
  have R4 : WR (zset h2 108 26 (zAnd (zShl 1 (D 0 8) - 1) (zXor v (-1)))) (wT (pb0 D) 1 (bitB v)) := R.in'' (f := bitB v) (fun b b0 b1 => awy_bit nb.1 nb.2 v0 v1 b0 b1)
  have ff : Fr sQR h (zset h2 108 26 (zAnd (zShl 1 (D 0 8) - 1) (zXor v (-1)))) := (g2.mono (fun k j z => by omega)).set (by omega)
  refine zS_aload_n (zdec eX10_worthOf 10 rfl) rfl rfl ?_
  refine zvMI (M' := mX10_totalBy) (As := []) (st := []) (zdec eX10_worthOf 11 rfl) kM_X10_406 kV_X10_totalBy ⟨by decide, rfl⟩ rfl rfl rfl rfl rfl (by omega) (r_totalBy (p := (wT (pb0 D) 1 (bitB v))) (by omega) V4 R4) (fun x3 h3 ⟨hx3, L3, g3⟩ => ?_)
  have f3 : Fr sQR h h3 := ff.tr g3 (fun k j z => z) (fun k j z => by omega)
  refine zS_ineg (zdec eX10_worthOf 12 rfl) ⟨by omega, by omega⟩ ?_
  refine zS_istore_n (zdec eX10_worthOf 13 rfl) rfl ?_
  refine zS_iconst (zdec eX10_worthOf 14 rfl) rfl ?_
  refine zS_istore_n (zdec eX10_worthOf 15 rfl) rfl ?_
  have k := L_rworth (d := d) (v := v) (by omega) VD V4 (RD.fr f3 (fun k j z => by omega)) L3 f3 (D 0 8).toNat 0 (by omega) (by omega)
  rw [sumI_0 _ (by omega), Int.add_zero, ← hx3] at k
  exact k
theorem q_worth {d : Nat} {h : zH} {D : Dk} {x : Int} (hd : 200 ≤ d) (VD : DV D) (RD : DR h 0 D) : zMI d mX10_worth [zA 108, zI x] h (fun r h' => r = a_worth D x ∧ Fr sQR h h') := by
  obtain ⟨p, hp⟩ : ∃ p, pb0 D = p := ⟨_, rfl⟩
  obtain ⟨q, hq⟩ : ∃ q, planP p = q := ⟨_, rfl⟩
  have pd : pDays p = D 0 1 := by rw [← hp]; rfl
  have pn : pNb p = D 0 8 := by rw [← hp]; rfl
  have dy := VD.days
  have nb := VD.nb
  have ns := VD.ns
  have nl := VD.nl
  have na := VD.na
  have vfl := VD.fl
  have vfe := VD.fee
  have hin : ∀ b, 0 ≤ b → b < pNb p → pIn p b = true := fun b _ _ => by rw [← hp]; rfl
  refine zmet rfl rfl rfl ?_
  refine zS_aload_n (zdec eX10_worth 0 rfl) rfl rfl ?_
  refine zS_iconst (zdec eX10_worth 1 rfl) rfl ?_
  refine zS_putfield (x := 0) (zdec eX10_worth 2 rfl) kF_X10_71 (Or.inl kf10_0) ⟨by decide, rfl⟩ rfl rfl rfl (Or.inl (fun q => by cases q)) ?_
  obtain ⟨h0, E0⟩ : ∃ x, x = zset h 108 0 0 := ⟨_, rfl⟩
  rw [show zset h 108 0 (0 : Int) = h0 from E0.symm]
  have f0 : Fr sQR h h0 := by rw [E0]; exact Fr.rf.set (by omega)
  have RD0 : DR h0 0 D := RD.fr f0 (fun k j z => by omega)
  refine zS_aload_n (zdec eX10_worth 3 rfl) rfl rfl ?_
  refine zvI (M' := mX10_isDesk) (As := []) (st := []) (zdec eX10_worth 4 rfl) kM_X10_332 kV_X10_isDesk ⟨by decide, rfl⟩ rfl rfl rfl rfl rfl (by omega) (d_isDesk VD RD0) ?_
  refine zS_if_eq (tgt := 34) (zdec eX10_worth 5 rfl) rfl (fun c1 => ?_) (fun c1 => ?_)
  · have z1 := d2i_0.mp c1
    refine zS_bipush (zdec eX10_worth 18 rfl) rfl rfl ?_
    exact zlMI (zdec eX10_worth 19 rfl) rfl ⟨by unfold a_worth; rw [if_neg (by omega)], f0⟩
  · have z1 := d2i_n.mp c1
    refine zS_iload_n (zdec eX10_worth 6 rfl) rfl ?_
    refine zS_i2l (zdec eX10_worth 7 rfl) ?_
    refine zS_lconst (zdec eX10_worth 8 rfl) ?_
    refine zS_aload_n (zdec eX10_worth 9 rfl) rfl rfl ?_
    refine zvI (M' := mX10_every) (As := []) (st := [zJ 0, zJ x]) (zdec eX10_worth 10 rfl) kM_X10_434 kV_X10_every ⟨by decide, rfl⟩ rfl rfl rfl rfl rfl (by omega) (d_every (by omega) VD RD0) ?_
    refine zS_i2l (zdec eX10_worth 11 rfl) ?_
    refine zsI (M' := mX10_in) (As := [zJ x, zJ 0, zJ (zShl 1 (D 0 8) - 1)]) (st := []) (zdec eX10_worth 12 rfl) kM_X10_76 kS_X10_in rfl rfl rfl (by omega) r_in ?_
    refine zS_if_eq (tgt := 34) (zdec eX10_worth 13 rfl) rfl (fun c2 => ?_) (fun c2 => ?_)
    · have z2 := d2i_0.mp c2
      refine zS_bipush (zdec eX10_worth 18 rfl) rfl rfl ?_
      exact zlMI (zdec eX10_worth 19 rfl) rfl ⟨by unfold a_worth; rw [if_neg (by omega)], f0⟩
    · have z2 := d2i_n.mp c2
      refine zS_aload_n (zdec eX10_worth 14 rfl) rfl rfl ?_
      refine zS_iload_n (zdec eX10_worth 15 rfl) rfl ?_
      have hd0 : 0 < D 0 0 := by first | omega
      have a5 := allB5 nb.1 nb.2
      refine zvMI (M' := mX10_worthOf) (As := [zI x]) (st := []) (zdec eX10_worth 16 rfl) kM_X10_437 kV_X10_worthOf ⟨by decide, rfl⟩ rfl rfl rfl rfl rfl (by omega) (r_worthOf (by omega) VD hd0 RD0 (by omega) (by omega)) (fun x3 h3 ⟨hx3, g3⟩ => ?_)
      have f3 : Fr sQR h h3 := f0.tr g3 (fun k j z => z) (fun k j z => z)
      have RD3 : DR h3 0 D := RD.fr f3 (fun k j z => by omega)
      have wb3 := worB VD hd0 x
      refine zS_goto (tgt := 36) (zdec eX10_worth 17 rfl) rfl ?_
      exact zlMI (zdec eX10_worth 19 rfl) rfl ⟨by unfold a_worth; rw [if_pos (by omega)]; exact hx3, f3⟩
theorem r_times_0 {d : Nat} {h : zH} (hd : 0 ≤ d) : zPI d mX10_times [zI 0] h 1 := by
  refine zmet rfl rfl rfl ?_
  refine zS_iload_n (zdec eX10_times 0 rfl) rfl ?_
  refine zS_iconst (zdec eX10_times 1 rfl) rfl ?_
  refine zS_icmp_ge (tgt := 9) (zdec eX10_times 2 rfl) rfl (fun cz => absurd cz (by decide)) (fun cz => ?_)
  refine zS_iconst (zdec eX10_times 3 rfl) rfl ?_
  refine zS_goto (tgt := 17) (zdec eX10_times 4 rfl) rfl ?_
  exact zlI (zdec eX10_times 11 rfl) rfl rfl
theorem r_times_1 {d : Nat} {h : zH} (hd : 0 ≤ d) : zPI d mX10_times [zI 1] h 1 := by
  refine zmet rfl rfl rfl ?_
  refine zS_iload_n (zdec eX10_times 0 rfl) rfl ?_
  refine zS_iconst (zdec eX10_times 1 rfl) rfl ?_
  refine zS_icmp_ge (tgt := 9) (zdec eX10_times 2 rfl) rfl (fun cz => absurd cz (by decide)) (fun cz => ?_)
  refine zS_iconst (zdec eX10_times 3 rfl) rfl ?_
  refine zS_goto (tgt := 17) (zdec eX10_times 4 rfl) rfl ?_
  exact zlI (zdec eX10_times 11 rfl) rfl rfl
theorem r_times_2 {d : Nat} {h : zH} (hd : 1 ≤ d) : zPI d mX10_times [zI 2] h 2 := by
  refine zmet rfl rfl rfl ?_
  refine zS_iload_n (zdec eX10_times 0 rfl) rfl ?_
  refine zS_iconst (zdec eX10_times 1 rfl) rfl ?_
  refine zS_icmp_ge (tgt := 9) (zdec eX10_times 2 rfl) rfl (fun cz => ?_) (fun cz => absurd (by decide) cz)
  refine zS_iload_n (zdec eX10_times 5 rfl) rfl ?_
  refine zS_iload_n (zdec eX10_times 6 rfl) rfl ?_
  refine zS_iconst (zdec eX10_times 7 rfl) rfl ?_
  refine zS_isub (zdec eX10_times 8 rfl) (zR_of rfl) ?_
  refine zsI (M' := mX10_times) (As := [zI 1]) (st := [zI 2]) (zdec eX10_times 9 rfl) kM_X10_440 kS_X10_times rfl rfl rfl (by omega) (r_times_1 (by omega)) ?_
  refine zS_imul (zdec eX10_times 10 rfl) (zR_of rfl) ?_
  exact zlI (zdec eX10_times 11 rfl) rfl rfl
theorem r_times_3 {d : Nat} {h : zH} (hd : 2 ≤ d) : zPI d mX10_times [zI 3] h 6 := by
  refine zmet rfl rfl rfl ?_
  refine zS_iload_n (zdec eX10_times 0 rfl) rfl ?_
  refine zS_iconst (zdec eX10_times 1 rfl) rfl ?_
  refine zS_icmp_ge (tgt := 9) (zdec eX10_times 2 rfl) rfl (fun cz => ?_) (fun cz => absurd (by decide) cz)
  refine zS_iload_n (zdec eX10_times 5 rfl) rfl ?_
  refine zS_iload_n (zdec eX10_times 6 rfl) rfl ?_
  refine zS_iconst (zdec eX10_times 7 rfl) rfl ?_
  refine zS_isub (zdec eX10_times 8 rfl) (zR_of rfl) ?_
  refine zsI (M' := mX10_times) (As := [zI 2]) (st := [zI 3]) (zdec eX10_times 9 rfl) kM_X10_440 kS_X10_times rfl rfl rfl (by omega) (r_times_2 (by omega)) ?_
  refine zS_imul (zdec eX10_times 10 rfl) (zR_of rfl) ?_
  exact zlI (zdec eX10_times 11 rfl) rfl rfl
theorem r_times_4 {d : Nat} {h : zH} (hd : 3 ≤ d) : zPI d mX10_times [zI 4] h 24 := by
  refine zmet rfl rfl rfl ?_
  refine zS_iload_n (zdec eX10_times 0 rfl) rfl ?_
  refine zS_iconst (zdec eX10_times 1 rfl) rfl ?_
  refine zS_icmp_ge (tgt := 9) (zdec eX10_times 2 rfl) rfl (fun cz => ?_) (fun cz => absurd (by decide) cz)
  refine zS_iload_n (zdec eX10_times 5 rfl) rfl ?_
  refine zS_iload_n (zdec eX10_times 6 rfl) rfl ?_
  refine zS_iconst (zdec eX10_times 7 rfl) rfl ?_
  refine zS_isub (zdec eX10_times 8 rfl) (zR_of rfl) ?_
  refine zsI (M' := mX10_times) (As := [zI 3]) (st := [zI 4]) (zdec eX10_times 9 rfl) kM_X10_440 kS_X10_times rfl rfl rfl (by omega) (r_times_3 (by omega)) ?_
  refine zS_imul (zdec eX10_times 10 rfl) (zR_of rfl) ?_
  exact zlI (zdec eX10_times 11 rfl) rfl rfl
theorem r_times_5 {d : Nat} {h : zH} (hd : 4 ≤ d) : zPI d mX10_times [zI 5] h 120 := by
  refine zmet rfl rfl rfl ?_
  refine zS_iload_n (zdec eX10_times 0 rfl) rfl ?_
  refine zS_iconst (zdec eX10_times 1 rfl) rfl ?_
  refine zS_icmp_ge (tgt := 9) (zdec eX10_times 2 rfl) rfl (fun cz => ?_) (fun cz => absurd (by decide) cz)
  refine zS_iload_n (zdec eX10_times 5 rfl) rfl ?_
  refine zS_iload_n (zdec eX10_times 6 rfl) rfl ?_
  refine zS_iconst (zdec eX10_times 7 rfl) rfl ?_
  refine zS_isub (zdec eX10_times 8 rfl) (zR_of rfl) ?_
  refine zsI (M' := mX10_times) (As := [zI 4]) (st := [zI 5]) (zdec eX10_times 9 rfl) kM_X10_440 kS_X10_times rfl rfl rfl (by omega) (r_times_4 (by omega)) ?_
  refine zS_imul (zdec eX10_times 10 rfl) (zR_of rfl) ?_
  exact zlI (zdec eX10_times 11 rfl) rfl rfl
theorem r_times {d : Nat} {h : zH} {n : Int} (hd : 5 ≤ d) (n0 : 0 ≤ n) (n1 : n ≤ 5) : zPI d mX10_times [zI n] h (zfa n) := by
  rcases (show n = 0 ∨ n = 1 ∨ n = 2 ∨ n = 3 ∨ n = 4 ∨ n = 5 by omega) with rfl | rfl | rfl | rfl | rfl | rfl
  · exact r_times_0 (by omega)
  · exact r_times_1 (by omega)
  · exact r_times_2 (by omega)
  · exact r_times_3 (by omega)
  · exact r_times_4 (by omega)
  · exact r_times_5 (by omega)
theorem K_share {d : Nat} {h : zH} {D : Dk} {x y : Int} (hd : 150 ≤ d) (VD : DV D) (hd0 : 0 < D 0 0) (RD : DR h 0 D) (x0 : 0 ≤ x) (x1 : x < D 0 8) : ∀ (n : Nat) (e : Int) (h1 : zH), 0 ≤ e → e + n = zShl 1 (D 0 8) → Fr sQR h h1 → zS mX10_share (zr d) 30 [zA 108, zI x, zI y, zJ (sumI (shT D x) e), zN, zI e, zN] [] TT h1 (zAnI (fun r h' => r = zL2I (partP (shA D x) (zfa (D 0 8)) y) ∧ Fr sQR h h')) := by
  intro n
  induction n with
  | zero =>
    intro e h1 a1 a2 i1
    have RD1 : DR h1 0 D := RD.fr i1 (fun k j z => by omega)
    have nb := VD.nb
    have a5 := allB5 nb.1 nb.2
    refine zS_iload (zdec eX10_share 17 rfl) rfl ?_
    refine zS_aload_n (zdec eX10_share 18 rfl) rfl rfl ?_
    refine zvI (M' := mX10_every) (As := []) (st := [zI e]) (zdec eX10_share 19 rfl) kM_X10_434 kV_X10_every ⟨by decide, rfl⟩ rfl rfl rfl rfl rfl (by omega) (d_every (by omega) VD RD1) ?_
    refine zS_icmp_gt (tgt := 106) (zdec eX10_share 20 rfl) rfl (fun cz => ?_) (fun cz => absurd (by omega) cz)
    refine zS_lload_n (zdec eX10_share 59 rfl) rfl ?_
    refine zS_aload_n (zdec eX10_share 60 rfl) rfl rfl ?_
    refine zvI (M' := mX10_bills) (As := []) (st := [zJ (sumI (shT D x) e)]) (zdec eX10_share 61 rfl) kM_X10_236 kV_X10_bills ⟨by decide, rfl⟩ rfl rfl rfl rfl rfl (by omega) (d_bills RD1) ?_
    have zb := zfa_b (n := D 0 8) (by omega) (by omega)
    have sb := shAB VD hd0 x0 x1 a1 (show e ≤ zShl 1 (D 0 8) by omega)
    refine zsI (M' := mX10_times) (As := [zI (D 0 8)]) (st := [zJ (sumI (shT D x) e)]) (zdec eX10_share 62 rfl) kM_X10_440 kS_X10_times rfl rfl rfl (by omega) (r_times (by omega) (by omega) (by omega)) ?_
    refine zS_i2l (zdec eX10_share 63 rfl) ?_
    refine zS_iload_n (zdec eX10_share 64 rfl) rfl ?_
    refine zsJ (M' := mX10_partOf) (As := [zJ (sumI (shT D x) e), zJ (zfa (D 0 8)), zI y]) (st := []) (zdec eX10_share 65 rfl) kM_X10_338 kS_X10_partOf rfl rfl rfl (by omega) (r_partOf (by omega) (by omega) (by omega) (by omega) (by omega)) ?_
    refine zS_l2i (zdec eX10_share 66 rfl) ?_
    exact zlMI (zdec eX10_share 67 rfl) rfl ⟨by unfold shA; rw [show e = zShl 1 (D 0 8) by omega], i1⟩
  | succ n ih =>
    intro e h1 a1 a2 i1
    have RD1 : DR h1 0 D := RD.fr i1 (fun k j z => by omega)
    have nb := VD.nb
    have a5 := allB5 nb.1 nb.2
    have sb := shAB VD hd0 x0 x1 a1 (show e ≤ zShl 1 (D 0 8) by omega)
    refine zS_iload (zdec eX10_share 17 rfl) rfl ?_
    refine zS_aload_n (zdec eX10_share 18 rfl) rfl rfl ?_
    refine zvI (M' := mX10_every) (As := []) (st := [zI e]) (zdec eX10_share 19 rfl) kM_X10_434 kV_X10_every ⟨by decide, rfl⟩ rfl rfl rfl rfl rfl (by omega) (d_every (by omega) VD RD1) ?_
    refine zS_icmp_gt (tgt := 106) (zdec eX10_share 20 rfl) rfl (fun cz => absurd cz (by omega)) (fun cz => ?_)
    refine zS_iload (zdec eX10_share 21 rfl) rfl ?_
    refine zS_iload_n (zdec eX10_share 22 rfl) rfl ?_
    refine zsI (M' := mX10_isBit) (As := [zI e, zI x]) (st := []) (zdec eX10_share 23 rfl) kM_X10_264 kS_X10_isBit rfl rfl rfl (by omega) r_isBit ?_
    refine zS_if_eq (tgt := 51) (zdec eX10_share 24 rfl) rfl (fun c1 => ?_) (fun c1 => ?_)
    · have z1 := b2i_0.mp c1
      have bf : bitB e x = false := z1
      have cl := cnt_le nb.2 x0 x1 a1 (show e < zShl 1 (D 0 8) by omega) (by omega) bf
      have zz := zf2_b nb.2 cl.1 cl.2
      have eo := (or_bit a1 (show e < 32 by omega) x0 (show x < 5 by omega)).1
      have ecm : D 0 8 - cnt5 e - 1 = D 0 8 - 1 - cnt5 e := by omega
      refine zS_iload (zdec eX10_share 26 rfl) rfl ?_
      refine zsI (M' := mX10_sizeOf) (As := [zI e]) (st := []) (zdec eX10_share 27 rfl) kM_X10_364 kS_X10_sizeOf rfl rfl rfl (by omega) (show zPI (d - 1) mX10_sizeOf [zI e] h1 (cnt5 e) from by rw [← ct_cnt5 a1 (by omega)]; exact r_sizeOf a1 (by omega)) ?_
      refine zS_istore (zdec eX10_share 28 rfl) rfl ?_
      refine zS_lload_n (zdec eX10_share 29 rfl) rfl ?_
      refine zS_iload (zdec eX10_share 30 rfl) rfl ?_
      refine zsI (M' := mX10_times) (As := [zI (cnt5 e)]) (st := [zJ (sumI (shT D x) e)]) (zdec eX10_share 31 rfl) kM_X10_440 kS_X10_times rfl rfl rfl (by omega) (r_times (by omega) (by omega) (by omega)) ?_
      refine zS_i2l (zdec eX10_share 32 rfl) ?_
      refine zS_aload_n (zdec eX10_share 33 rfl) rfl rfl ?_
      refine zvI (M' := mX10_bills) (As := []) (st := [zJ (zfa (cnt5 e)), zJ (sumI (shT D x) e)]) (zdec eX10_share 34 rfl) kM_X10_236 kV_X10_bills ⟨by decide, rfl⟩ rfl rfl rfl rfl rfl (by omega) (d_bills RD1) ?_
      refine zS_iload (zdec eX10_share 35 rfl) rfl ?_
      refine zS_isub (zdec eX10_share 36 rfl) ⟨by omega, by omega⟩ ?_
      refine zS_iconst (zdec eX10_share 37 rfl) rfl ?_
      refine zS_isub (zdec eX10_share 38 rfl) ⟨by omega, by omega⟩ ?_
      refine zsI (M' := mX10_times) (As := [zI (((D 0 8) - (cnt5 e)) - 1)]) (st := [zJ (zfa (cnt5 e)), zJ (sumI (shT D x) e)]) (zdec eX10_share 39 rfl) kM_X10_440 kS_X10_times rfl rfl rfl (by omega) (r_times (by omega) (by omega) (by omega)) ?_
      refine zS_i2l (zdec eX10_share 40 rfl) ?_
      rw [ecm]
      refine zS_lmul (zdec eX10_share 41 rfl) ⟨by omega, by omega⟩ ?_
      refine zS_aload_n (zdec eX10_share 42 rfl) rfl rfl ?_
      refine zS_iload (zdec eX10_share 43 rfl) rfl ?_
      refine zS_iconst (zdec eX10_share 44 rfl) rfl ?_
      refine zS_iload_n (zdec eX10_share 45 rfl) rfl ?_
      refine zS_ishl (zdec eX10_share 46 rfl) ?_
      refine zS_ior (zdec eX10_share 47 rfl) ?_
      refine zvMI (M' := mX10_worthOf) (As := [zI (zOr e (zShl 1 x))]) (st := [zJ ((zfa (cnt5 e)) * (zfa (D 0 8 - 1 - cnt5 e))), zJ (sumI (shT D x) e)]) (zdec eX10_share 48 rfl) kM_X10_437 kV_X10_worthOf ⟨by decide, rfl⟩ rfl rfl rfl rfl rfl (by omega) (r_worthOf (by omega) VD hd0 RD1 (by omega) (by omega)) (fun x3 h3 ⟨hx3, g3⟩ => ?_)
      have f3 : Fr sQR h h3 := i1.tr g3 (fun k j z => z) (fun k j z => z)
      have RD3 : DR h3 0 D := RD.fr f3 (fun k j z => by omega)
      have wb3 := worB VD hd0 (zOr e (zShl 1 x))
      refine zS_aload_n (zdec eX10_share 49 rfl) rfl rfl ?_
      refine zS_iload (zdec eX10_share 50 rfl) rfl ?_
      refine zvMI (M' := mX10_worthOf) (As := [zI e]) (st := [zI x3, zJ ((zfa (cnt5 e)) * (zfa (D 0 8 - 1 - cnt5 e))), zJ (sumI (shT D x) e)]) (zdec eX10_share 51 rfl) kM_X10_437 kV_X10_worthOf ⟨by decide, rfl⟩ rfl rfl rfl rfl rfl (by omega) (r_worthOf (by omega) VD hd0 RD3 (by omega) (by omega)) (fun x5 h5 ⟨hx5, g5⟩ => ?_)
      have f5 : Fr sQR h h5 := f3.tr g5 (fun k j z => z) (fun k j z => z)
      have RD5 : DR h5 0 D := RD.fr f5 (fun k j z => by omega)
      have wb5 := worB VD hd0 e
      refine zS_isub (zdec eX10_share 52 rfl) ⟨by omega, by omega⟩ ?_
      refine zS_i2l (zdec eX10_share 53 rfl) ?_
      have wm := mulAB (B := 40000) zz.1 zz.2 (show -40000 ≤ x3 - x5 by omega) (by omega)
      refine zS_lmul (zdec eX10_share 54 rfl) ⟨by omega, by omega⟩ ?_
      refine zS_ladd (zdec eX10_share 55 rfl) ⟨by omega, by omega⟩ ?_
      refine zS_lstore_n (zdec eX10_share 56 rfl) rfl ?_
      refine zS_iinc (zdec eX10_share 57 rfl) rfl rfl ⟨by omega, by omega⟩ ?_
      refine zS_goto (tgt := 30) (zdec eX10_share 58 rfl) rfl ?_
      refine zS_forget (i := 6) ?_
      have k := ih (e + 1) h5 (by omega) (by omega) f5
      rw [sumI_s _ a1, show shT D x e = zfa (cnt5 e) * zfa (D 0 8 - 1 - cnt5 e) * (x3 - x5) by unfold shT; rw [z1, if_neg (by decide), hx3, hx5]] at k
      exact k
    · have z1 := b2i_n.mp c1
      refine zS_goto (tgt := 100) (zdec eX10_share 25 rfl) rfl ?_
      refine zS_iinc (zdec eX10_share 57 rfl) rfl rfl ⟨by omega, by omega⟩ ?_
      refine zS_goto (tgt := 30) (zdec eX10_share 58 rfl) rfl ?_
      have k := ih (e + 1) h1 (by omega) (by omega) i1
      rw [sumI_s _ a1, show shT D x e = 0 by unfold shT; rw [z1, if_pos rfl], Int.add_zero] at k
      exact k
theorem q_share {d : Nat} {h : zH} {D : Dk} {x y : Int} (hd : 200 ≤ d) (VD : DV D) (RD : DR h 0 D) : zMI d mX10_share [zA 108, zI x, zI y] h (fun r h' => r = a_share D x y ∧ Fr sQR h h') := by
  obtain ⟨p, hp⟩ : ∃ p, pb0 D = p := ⟨_, rfl⟩
  obtain ⟨q, hq⟩ : ∃ q, planP p = q := ⟨_, rfl⟩
  have pd : pDays p = D 0 1 := by rw [← hp]; rfl
  have pn : pNb p = D 0 8 := by rw [← hp]; rfl
  have dy := VD.days
  have nb := VD.nb
  have ns := VD.ns
  have nl := VD.nl
  have na := VD.na
  have vfl := VD.fl
  have vfe := VD.fee
  have hin : ∀ b, 0 ≤ b → b < pNb p → pIn p b = true := fun b _ _ => by rw [← hp]; rfl
  refine zmet rfl rfl rfl ?_
  refine zS_aload_n (zdec eX10_share 0 rfl) rfl rfl ?_
  refine zS_iconst (zdec eX10_share 1 rfl) rfl ?_
  refine zS_putfield (x := 0) (zdec eX10_share 2 rfl) kF_X10_71 (Or.inl kf10_0) ⟨by decide, rfl⟩ rfl rfl rfl (Or.inl (fun q => by cases q)) ?_
  obtain ⟨h0, E0⟩ : ∃ x, x = zset h 108 0 0 := ⟨_, rfl⟩
  rw [show zset h 108 0 (0 : Int) = h0 from E0.symm]
  have f0 : Fr sQR h h0 := by rw [E0]; exact Fr.rf.set (by omega)
  have RD0 : DR h0 0 D := RD.fr f0 (fun k j z => by omega)
  refine zS_aload_n (zdec eX10_share 3 rfl) rfl rfl ?_
  refine zS_iload_n (zdec eX10_share 4 rfl) rfl ?_
  refine zS_i2l (zdec eX10_share 5 rfl) ?_
  refine zvI (M' := mX10_isBill) (As := [zJ x]) (st := []) (zdec eX10_share 6 rfl) kM_X10_324 kV_X10_isBill ⟨by decide, rfl⟩ rfl rfl rfl rfl rfl (by omega) (d_isBill (by omega) VD RD0) ?_
  refine zS_if_eq (tgt := 21) (zdec eX10_share 7 rfl) rfl (fun c1 => ?_) (fun c1 => ?_)
  · have z1 := d2i_0.mp c1
    refine zS_ldc_w (zdec eX10_share 11 rfl) kc_X10_443 rfl ?_
    exact zlMI (zdec eX10_share 12 rfl) rfl ⟨by unfold a_share; rw [if_neg (by omega)], f0⟩
  · have z1 := d2i_n.mp c1
    refine zS_iload_n (zdec eX10_share 8 rfl) rfl ?_
    refine zsI (M' := mX10_isHalf) (As := [zI y]) (st := []) (zdec eX10_share 9 rfl) kM_X10_335 kS_X10_isHalf rfl rfl rfl (by omega) (d_isHalf (by omega)) ?_
    refine zS_if_ne (tgt := 25) (zdec eX10_share 10 rfl) rfl (fun c2 => ?_) (fun c2 => ?_)
    · have z2 := d2i_n.mp c2
      refine zS_lconst (zdec eX10_share 13 rfl) ?_
      refine zS_lstore_n (zdec eX10_share 14 rfl) rfl ?_
      refine zS_iconst (zdec eX10_share 15 rfl) rfl ?_
      refine zS_istore (zdec eX10_share 16 rfl) rfl ?_
      have hd0 : 0 < D 0 0 := by first | omega | exact VD.bill (show 0 ≤ x by omega) (show x < D 0 8 by omega) | exact VD.day (show 0 ≤ x by omega) (show x < D 0 1 by omega) | exact VD.sup (show 0 ≤ x by omega) (show x < D 0 7 by omega)
      have a5 := all_rng (k := D 0 8) (by omega) (by omega)
      unfold a_share
      rw [if_pos (by omega)]
      exact K_share (by omega) VD hd0 RD (by omega) (by omega) (zShl 1 (D 0 8)).toNat 0 h0 (by omega) (by omega) f0
    · have z2 := d2i_0.mp c2
      refine zS_ldc_w (zdec eX10_share 11 rfl) kc_X10_443 rfl ?_
      exact zlMI (zdec eX10_share 12 rfl) rfl ⟨by unfold a_share; rw [if_neg (by omega)], f0⟩
theorem L_rgn {d : Nat} {h h3 : zH} {D : Dk} {w a b x y : Int} (hd : 5 ≤ d) (VD : DV D) (V3 : PV (gmX D a b x y)) (RD3 : DR h3 0 D) (S3 : PlR h3 (gmX D a b x y) (planP (gmX D a b x y))) (f3 : Fr sQR h h3) : ∀ (n : Nat) (e : Int), 0 ≤ e → e + n = D 0 8 → zS mX10_hasBy (zr d) 92 [zA 108, zI w, zI a, zI b, zI x, zI y, zI (toP (gmX D a b x y) (planP (gmX D a b x y)) w - sumI (fun c => if D (3 + c) 0 = w then 10 * planP (gmX D a b x y) c else 0) e), zI e] [] TT h3 (zAnI (fun r h' => r = gnG D a b x y w ∧ Fr sQR h h')) := by
  intro n
  induction n with
  | zero =>
    intro e a1 a2
    refine zS_iload (zdec eX10_hasBy 54 rfl) rfl ?_
    refine zS_aload_n (zdec eX10_hasBy 55 rfl) rfl rfl ?_
    refine zvI (M' := mX10_bills) (As := []) (st := [zI e]) (zdec eX10_hasBy 56 rfl) kM_X10_236 kV_X10_bills ⟨by decide, rfl⟩ rfl rfl rfl rfl rfl (by omega) (d_bills RD3) ?_
    refine zS_icmp_ge (tgt := 140) (zdec eX10_hasBy 57 rfl) rfl (fun cz => ?_) (fun cz => absurd (by omega) cz)
    refine zS_iload (zdec eX10_hasBy 79 rfl) rfl ?_
    exact zlMI (zdec eX10_hasBy 80 rfl) rfl ⟨by unfold gnG gnL; rw [show e = D 0 8 by omega], f3⟩
  | succ n ih =>
    intro e a1 a2
    have nb := VD.nb
    have dy := VD.days
    have pd : pDays (gmX D a b x y) = D 0 1 := rfl
    have qe := planP_rng V3 e
    have s0 := sumI_nn (f := (fun c => if D (3 + c) 0 = w then 10 * planP (gmX D a b x y) c else 0)) (k := e) (fun j _ _ => by have := planP_rng V3 j; split <;> omega)
    have s1 := sumI_le (f := (fun c => if D (3 + c) 0 = w then 10 * planP (gmX D a b x y) c else 0)) (k := e) (B := 70) a1 (fun j _ _ => by have := planP_rng V3 j; split <;> omega)
    have tb := toB V3 (q := planP (gmX D a b x y)) (fun b => by have := planP_rng V3 b; omega) w (k := D 0 8) nb.1 (Int.le_refl _)
    have td : toP (gmX D a b x y) (planP (gmX D a b x y)) w = sumI (fun b_1 => if pOf (gmX D a b x y) b_1 = w ∧ planP (gmX D a b x y) b_1 < pDays (gmX D a b x y) then priceP (gmX D a b x y) b_1 (planP (gmX D a b x y) b_1) else 0) (D 0 8) := rfl
    refine zS_iload (zdec eX10_hasBy 54 rfl) rfl ?_
    refine zS_aload_n (zdec eX10_hasBy 55 rfl) rfl rfl ?_
    refine zvI (M' := mX10_bills) (As := []) (st := [zI e]) (zdec eX10_hasBy 56 rfl) kM_X10_236 kV_X10_bills ⟨by decide, rfl⟩ rfl rfl rfl rfl rfl (by omega) (d_bills RD3) ?_
    refine zS_icmp_ge (tgt := 140) (zdec eX10_hasBy 57 rfl) rfl (fun cz => absurd cz (by omega)) (fun cz => ?_)
    refine zS_iload (zdec eX10_hasBy 58 rfl) rfl ?_
    refine zS_aload_n (zdec eX10_hasBy 59 rfl) rfl rfl ?_
    refine zS_getref (i := 63) (zdec eX10_hasBy 60 rfl) kF_X10_40 ⟨by decide, rfl⟩ rfl rfl rfl rfl rfl ?_
    refine zS_bipush (zdec eX10_hasBy 61 rfl) rfl rfl ?_
    refine zS_iload (zdec eX10_hasBy 62 rfl) rfl ?_
    refine zS_imul (zdec eX10_hasBy 63 rfl) ⟨by omega, by omega⟩ ?_
    refine zS_ialoadE (v := (D (3 + e) 0)) (zdec eX10_hasBy 64 rfl) ⟨by decide, rfl⟩ (by omega) (by omega) (RD3.row0 (by omega) (by omega) (by omega)) ?_
    refine zS_iload_n (zdec eX10_hasBy 65 rfl) rfl ?_
    refine zS_icmp_ne (tgt := 130) (zdec eX10_hasBy 66 rfl) rfl (fun c1 => ?_) (fun c1 => ?_)
    · refine zS_iconst (zdec eX10_hasBy 74 rfl) rfl ?_
      refine zS_isub (zdec eX10_hasBy 75 rfl) ⟨by omega, by omega⟩ ?_
      refine zS_istore (zdec eX10_hasBy 76 rfl) rfl ?_
      refine zS_iinc (zdec eX10_hasBy 77 rfl) rfl rfl ⟨by omega, by omega⟩ ?_
      refine zS_goto (tgt := 92) (zdec eX10_hasBy 78 rfl) rfl ?_
      have k := ih (e + 1) (by omega) (by omega)
      rw [sumI_s _ a1] at k
      rw [if_neg c1, Int.add_zero] at k
      rw [Int.sub_zero]
      exact k
    · refine zS_bipush (zdec eX10_hasBy 67 rfl) rfl rfl ?_
      refine zS_aload_n (zdec eX10_hasBy 68 rfl) rfl rfl ?_
      refine zS_getref (i := 69) (zdec eX10_hasBy 69 rfl) kF_X10_59 ⟨by decide, rfl⟩ rfl rfl rfl rfl rfl ?_
      refine zS_iload (zdec eX10_hasBy 70 rfl) rfl ?_
      refine zS_ialoadE (v := (planP (gmX D a b x y) e)) (zdec eX10_hasBy 71 rfl) ⟨by decide, rfl⟩ (by omega) (by omega) (S3 _ (by omega) (show _ < D 0 8 by omega)) ?_
      refine zS_imul (zdec eX10_hasBy 72 rfl) ⟨by omega, by omega⟩ ?_
      refine zS_goto (tgt := 131) (zdec eX10_hasBy 73 rfl) rfl ?_
      refine zS_isub (zdec eX10_hasBy 75 rfl) ⟨by omega, by omega⟩ ?_
      refine zS_istore (zdec eX10_hasBy 76 rfl) rfl ?_
      refine zS_iinc (zdec eX10_hasBy 77 rfl) rfl rfl ⟨by omega, by omega⟩ ?_
      refine zS_goto (tgt := 92) (zdec eX10_hasBy 78 rfl) rfl ?_
      have k := ih (e + 1) (by omega) (by omega)
      rw [sumI_s _ a1] at k
      rw [if_pos c1, ← Int.sub_sub] at k
      exact k
theorem L_rgm {d : Nat} {h : zH} {D : Dk} {w a b x y : Int} (hd : 15 ≤ d) (VD : DV D) (hd0 : 0 < D 0 0) (RD : DR h 0 D) (hab : a ≠ b) (x0 : 0 ≤ x) (x1 : x ≤ 1) (y0 : 0 ≤ y) (y1 : y ≤ 1) {h2 : zH} (R : WR h2 (pb0 D)) : ∀ (n : Nat) (e : Int) (h1 : zH), 0 ≤ e → e + n = D 0 8 → Fr sQR h h1 → (∀ k j, k ≠ 121 → h1 k j = h2 k j) → (∀ c, 0 ≤ c → c < D 0 8 → h1 121 c = if c < e then gmO D a b x y c else D (3 + c) 2) → zS mX10_hasBy (zr d) 7 [zA 108, zI w, zI a, zI b, zI x, zI y, zI e, zN] [] TT h1 (zAnI (fun r h' => r = gnG D a b x y w ∧ Fr sQR h h')) := by
  intro n
  induction n with
  | zero =>
    intro e h1 a1 a2 i1 i3 i2
    have RD1 : DR h1 0 D := RD.fr i1 (fun k j z => by omega)
    have nb := VD.nb
    refine zS_iload (zdec eX10_hasBy 4 rfl) rfl ?_
    refine zS_aload_n (zdec eX10_hasBy 5 rfl) rfl rfl ?_
    refine zvI (M' := mX10_bills) (As := []) (st := [zI e]) (zdec eX10_hasBy 6 rfl) kM_X10_236 kV_X10_bills ⟨by decide, rfl⟩ rfl rfl rfl rfl rfl (by omega) (d_bills RD1) ?_
    refine zS_icmp_ge (tgt := 78) (zdec eX10_hasBy 7 rfl) rfl (fun cz => ?_) (fun cz => absurd (by omega) cz)
    have R3 : WR h1 (gmX D a b x y) := by
        refine R.off' (f := gmO D a b x y) (fun k j z => i3 k j z) (fun c c0 c1 => ?_)
        rw [i2 c c0 c1, if_pos (show c < e by have : c < D 0 8 := c1; omega)]
    have V3 : PV (gmX D a b x y) := gmV VD hd0 hab x0 x1 y0 y1
    refine zS_aload_n (zdec eX10_hasBy 46 rfl) rfl rfl ?_
    refine zvMV (M' := mX10_runs) (As := []) (st := []) (zdec eX10_hasBy 47 rfl) kM_X10_317 kV_X10_runs ⟨by decide, rfl⟩ rfl rfl rfl rfl rfl (by omega) (r_runs (by omega) V3 R3) (fun h3 ⟨S3, O3, g3⟩ => ?_)
    have f3 : Fr sQR h h3 := i1.tr g3 (fun k j z => z) (fun k j z => by omega)
    have RD3 : DR h3 0 D := RD.fr f3 (fun k j z => by omega)
    have R5 : WR h3 (gmX D a b x y) := R3.fr g3 (fun k j z => by unfold wrP; omega)
    refine zS_aload_n (zdec eX10_hasBy 48 rfl) rfl rfl ?_
    refine zS_iload_n (zdec eX10_hasBy 49 rfl) rfl ?_
    refine zvI (M' := mX10_paidTo) (As := [zI w]) (st := []) (zdec eX10_hasBy 50 rfl) kM_X10_361 kV_X10_paidTo ⟨by decide, rfl⟩ rfl rfl rfl rfl rfl (by omega) (r_paidTo (by omega) V3 R5 S3 (fun c => (planP_rng V3 c).1) (fun c => (planP_rng V3 c).2)) ?_
    refine zS_istore (zdec eX10_hasBy 51 rfl) rfl ?_
    refine zS_iconst (zdec eX10_hasBy 52 rfl) rfl ?_
    refine zS_istore (zdec eX10_hasBy 53 rfl) rfl ?_
    have k := L_rgn (d := d) (w := w) (by omega) VD V3 RD3 S3 f3 (D 0 8).toNat 0 (by omega) (by omega)
    rw [sumI_0 _ (by omega), Int.sub_zero] at k
    exact k
  | succ n ih =>
    intro e h1 a1 a2 i1 i3 i2
    have RD1 : DR h1 0 D := RD.fr i1 (fun k j z => by omega)
    have nb := VD.nb
    have rwx := VD.row a1 (show e < D 0 8 by omega)
    refine zS_iload (zdec eX10_hasBy 4 rfl) rfl ?_
    refine zS_aload_n (zdec eX10_hasBy 5 rfl) rfl rfl ?_
    refine zvI (M' := mX10_bills) (As := []) (st := [zI e]) (zdec eX10_hasBy 6 rfl) kM_X10_236 kV_X10_bills ⟨by decide, rfl⟩ rfl rfl rfl rfl rfl (by omega) (d_bills RD1) ?_
    refine zS_icmp_ge (tgt := 78) (zdec eX10_hasBy 7 rfl) rfl (fun cz => absurd cz (by omega)) (fun cz => ?_)
    refine zS_aload_n (zdec eX10_hasBy 8 rfl) rfl rfl ?_
    refine zS_getref (i := 63) (zdec eX10_hasBy 9 rfl) kF_X10_40 ⟨by decide, rfl⟩ rfl rfl rfl rfl rfl ?_
    refine zS_bipush (zdec eX10_hasBy 10 rfl) rfl rfl ?_
    refine zS_iload (zdec eX10_hasBy 11 rfl) rfl ?_
    refine zS_imul (zdec eX10_hasBy 12 rfl) ⟨by omega, by omega⟩ ?_
    refine zS_ialoadE (v := (D (3 + e) 0)) (zdec eX10_hasBy 13 rfl) ⟨by decide, rfl⟩ (by omega) (by omega) (RD1.row0 (by omega) (by omega) (by omega)) ?_
    refine zS_iload_n (zdec eX10_hasBy 14 rfl) rfl ?_
    refine zS_icmp_ne (tgt := 44) (zdec eX10_hasBy 15 rfl) rfl (fun c1 => ?_) (fun c1 => ?_)
    · refine zS_aload_n (zdec eX10_hasBy 26 rfl) rfl rfl ?_
      refine zS_getref (i := 63) (zdec eX10_hasBy 27 rfl) kF_X10_40 ⟨by decide, rfl⟩ rfl rfl rfl rfl rfl ?_
      refine zS_bipush (zdec eX10_hasBy 28 rfl) rfl rfl ?_
      refine zS_iload (zdec eX10_hasBy 29 rfl) rfl ?_
      refine zS_imul (zdec eX10_hasBy 30 rfl) ⟨by omega, by omega⟩ ?_
      refine zS_ialoadE (v := (D (3 + e) 0)) (zdec eX10_hasBy 31 rfl) ⟨by decide, rfl⟩ (by omega) (by omega) (RD1.row0 (by omega) (by omega) (by omega)) ?_
      refine zS_iload_n (zdec eX10_hasBy 32 rfl) rfl ?_
      refine zS_icmp_ne (tgt := 72) (zdec eX10_hasBy 33 rfl) rfl (fun c2 => ?_) (fun c2 => ?_)
      · refine zS_iinc (zdec eX10_hasBy 44 rfl) rfl rfl ⟨by omega, by omega⟩ ?_
        refine zS_goto (tgt := 7) (zdec eX10_hasBy 45 rfl) rfl ?_
        refine ih (e + 1) h1 (by omega) (by omega) i1 i3 (fun c k0 k1 => ?_)
        rw [i2 c k0 k1]
        by_cases w0 : c = e
        · rw [w0, if_neg (by omega), if_pos (by omega)]; unfold gmO; rw [if_neg c1, if_neg c2]; omega
        · by_cases w1 : c < e
          · rw [if_pos w1, if_pos (by omega)]
          · rw [if_neg w1, if_neg (by omega)]
      · refine zS_aload_n (zdec eX10_hasBy 34 rfl) rfl rfl ?_
        refine zS_getref (i := 67) (zdec eX10_hasBy 35 rfl) kF_X10_53 ⟨by decide, rfl⟩ rfl rfl rfl rfl rfl ?_
        refine zS_iload (zdec eX10_hasBy 36 rfl) rfl ?_
        refine zS_dup2 (zdec eX10_hasBy 37 rfl) (fun q => by cases q) (fun q => by cases q) ?_
        refine zS_ialoadE (v := (D (3 + e) 2)) (zdec eX10_hasBy 38 rfl) ⟨by decide, rfl⟩ (by omega) (by omega) ((i2 e (by omega) (by omega)).trans (if_neg (by omega))) ?_
        refine zS_iconst (zdec eX10_hasBy 39 rfl) rfl ?_
        refine zS_iload (zdec eX10_hasBy 40 rfl) rfl ?_
        refine zS_imul (zdec eX10_hasBy 41 rfl) ⟨by omega, by omega⟩ ?_
        refine zS_iadd (zdec eX10_hasBy 42 rfl) ⟨by omega, by omega⟩ ?_
        refine zS_iastore (zdec eX10_hasBy 43 rfl) ⟨by decide, rfl⟩ (by omega) (by omega) ?_
        refine zS_iinc (zdec eX10_hasBy 44 rfl) rfl rfl ⟨by omega, by omega⟩ ?_
        refine zS_goto (tgt := 7) (zdec eX10_hasBy 45 rfl) rfl ?_
        refine ih (e + 1) _ (by omega) (by omega) (i1.set (by omega)) (fun k j z => by rw [zset_k z]; exact i3 k j z) (fun c k0 k1 => ?_)
        by_cases w0 : c = e
        · rw [w0, zset_s, if_pos (by omega)]; unfold gmO; rw [if_neg c1, if_pos c2]; omega
        · rw [zset_j w0]; rw [i2 c k0 k1]
          by_cases w1 : c < e
          · rw [if_pos w1, if_pos (by omega)]
          · rw [if_neg w1, if_neg (by omega)]
    · refine zS_aload_n (zdec eX10_hasBy 16 rfl) rfl rfl ?_
      refine zS_getref (i := 67) (zdec eX10_hasBy 17 rfl) kF_X10_53 ⟨by decide, rfl⟩ rfl rfl rfl rfl rfl ?_
      refine zS_iload (zdec eX10_hasBy 18 rfl) rfl ?_
      refine zS_dup2 (zdec eX10_hasBy 19 rfl) (fun q => by cases q) (fun q => by cases q) ?_
      refine zS_ialoadE (v := (D (3 + e) 2)) (zdec eX10_hasBy 20 rfl) ⟨by decide, rfl⟩ (by omega) (by omega) ((i2 e (by omega) (by omega)).trans (if_neg (by omega))) ?_
      refine zS_iconst (zdec eX10_hasBy 21 rfl) rfl ?_
      refine zS_iload (zdec eX10_hasBy 22 rfl) rfl ?_
      refine zS_imul (zdec eX10_hasBy 23 rfl) ⟨by omega, by omega⟩ ?_
      refine zS_iadd (zdec eX10_hasBy 24 rfl) ⟨by omega, by omega⟩ ?_
      refine zS_iastore (zdec eX10_hasBy 25 rfl) ⟨by decide, rfl⟩ (by omega) (by omega) ?_
      refine zS_aload_n (zdec eX10_hasBy 26 rfl) rfl rfl ?_
      refine zS_getref (i := 63) (zdec eX10_hasBy 27 rfl) kF_X10_40 ⟨by decide, rfl⟩ rfl rfl rfl rfl rfl ?_
      refine zS_bipush (zdec eX10_hasBy 28 rfl) rfl rfl ?_
      refine zS_iload (zdec eX10_hasBy 29 rfl) rfl ?_
      refine zS_imul (zdec eX10_hasBy 30 rfl) ⟨by omega, by omega⟩ ?_
      refine zS_ialoadE (v := (D (3 + e) 0)) (zdec eX10_hasBy 31 rfl) ⟨by decide, rfl⟩ (by omega) (by omega) ((congrFun (zset_k (by decide)) _).trans (RD1.row0 (by omega) (by omega) (by omega))) ?_
      refine zS_iload_n (zdec eX10_hasBy 32 rfl) rfl ?_
      refine zS_icmp_ne (tgt := 72) (zdec eX10_hasBy 33 rfl) rfl (fun c2 => ?_) (fun c2 => absurd c2 (by omega))
      refine zS_iinc (zdec eX10_hasBy 44 rfl) rfl rfl ⟨by omega, by omega⟩ ?_
      refine zS_goto (tgt := 7) (zdec eX10_hasBy 45 rfl) rfl ?_
      refine ih (e + 1) _ (by omega) (by omega) (i1.set (by omega)) (fun k j z => by rw [zset_k z]; exact i3 k j z) (fun c k0 k1 => ?_)
      by_cases w0 : c = e
      · rw [w0, zset_s, if_pos (by omega)]; unfold gmO; rw [if_pos c1, if_neg c2]; omega
      · rw [zset_j w0]; rw [i2 c k0 k1]
        by_cases w1 : c < e
        · rw [if_pos w1, if_pos (by omega)]
        · rw [if_neg w1, if_neg (by omega)]
theorem r_hasBy {d : Nat} {h : zH} {D : Dk} {w a b x y : Int} (hd : 15 ≤ d) (VD : DV D) (hd0 : 0 < D 0 0) (RD : DR h 0 D) (hab : a ≠ b) (x0 : 0 ≤ x) (x1 : x ≤ 1) (y0 : 0 ≤ y) (y1 : y ≤ 1) : zMI d mX10_hasBy [zA 108, zI w, zI a, zI b, zI x, zI y] h (fun r h' => r = gnG D a b x y w ∧ Fr sQR h h') := by
  have nb := VD.nb
  refine zmet rfl rfl rfl ?_
  refine zS_aload_n (zdec eX10_hasBy 0 rfl) rfl rfl ?_
  refine zvMV (M' := mX10_lays) (As := []) (st := []) (zdec eX10_hasBy 1 rfl) kM_X10_314 kV_X10_lays ⟨by decide, rfl⟩ rfl rfl rfl rfl rfl (by omega) (r_lays (by omega) VD hd0 RD) (fun h2 ⟨R, cl2, g2⟩ => ?_)
  have RD2 : DR h2 0 D := RD.fr g2 (fun k j z => by omega)
  refine zS_iconst (zdec eX10_hasBy 2 rfl) rfl ?_
  refine zS_istore (zdec eX10_hasBy 3 rfl) rfl ?_
  exact L_rgm hd VD hd0 RD hab x0 x1 y0 y1 R (D 0 8).toNat 0 h2 (by omega) (by omega) (g2.mono (fun k j z => by omega)) (fun k j z => rfl) (fun c c0 c1 => by rw [if_neg (by omega)]; exact R.off c0 c1)
theorem q_has {d : Nat} {h : zH} {D : Dk} {a b x y : Int} (hd : 200 ≤ d) (VD : DV D) (RD : DR h 0 D) : zMI d mX10_has [zA 108, zI a, zI b, zI x, zI y] h (fun r h' => r = a_has D a b x y ∧ Fr sQR h h') := by
  obtain ⟨p, hp⟩ : ∃ p, pb0 D = p := ⟨_, rfl⟩
  obtain ⟨q, hq⟩ : ∃ q, planP p = q := ⟨_, rfl⟩
  have pd : pDays p = D 0 1 := by rw [← hp]; rfl
  have pn : pNb p = D 0 8 := by rw [← hp]; rfl
  have dy := VD.days
  have nb := VD.nb
  have ns := VD.ns
  have nl := VD.nl
  have na := VD.na
  have vfl := VD.fl
  have vfe := VD.fee
  have hin : ∀ b, 0 ≤ b → b < pNb p → pIn p b = true := fun b _ _ => by rw [← hp]; rfl
  refine zmet rfl rfl rfl ?_
  refine zS_aload_n (zdec eX10_has 0 rfl) rfl rfl ?_
  refine zS_iconst (zdec eX10_has 1 rfl) rfl ?_
  refine zS_putfield (x := 0) (zdec eX10_has 2 rfl) kF_X10_71 (Or.inl kf10_0) ⟨by decide, rfl⟩ rfl rfl rfl (Or.inl (fun q => by cases q)) ?_
  obtain ⟨h0, E0⟩ : ∃ x, x = zset h 108 0 0 := ⟨_, rfl⟩
  rw [show zset h 108 0 (0 : Int) = h0 from E0.symm]
  have f0 : Fr sQR h h0 := by rw [E0]; exact Fr.rf.set (by omega)
  have RD0 : DR h0 0 D := RD.fr f0 (fun k j z => by omega)
  refine zS_aload_n (zdec eX10_has 3 rfl) rfl rfl ?_
  refine zS_iload_n (zdec eX10_has 4 rfl) rfl ?_
  refine zS_iload_n (zdec eX10_has 5 rfl) rfl ?_
  refine zvI (M' := mX10_areTwo) (As := [zI a, zI b]) (st := []) (zdec eX10_has 6 rfl) kM_X10_444 kV_X10_areTwo ⟨by decide, rfl⟩ rfl rfl rfl rfl rfl (by omega) (d_areTwo (by omega) VD RD0) ?_
  refine zS_if_eq (tgt := 42) (zdec eX10_has 7 rfl) rfl (fun c1 => ?_) (fun c1 => ?_)
  · have z1 := d2i_0.mp c1
    refine zS_ldc_w (zdec eX10_has 22 rfl) kc_X10_351 rfl ?_
    exact zlMI (zdec eX10_has 23 rfl) rfl ⟨by unfold a_has; rw [if_neg (by omega)], f0⟩
  · have z1 := d2i_n.mp c1
    refine zS_iload_n (zdec eX10_has 8 rfl) rfl ?_
    refine zsI (M' := mX10_isHalf) (As := [zI x]) (st := []) (zdec eX10_has 9 rfl) kM_X10_335 kS_X10_isHalf rfl rfl rfl (by omega) (d_isHalf (by omega)) ?_
    refine zS_if_eq (tgt := 42) (zdec eX10_has 10 rfl) rfl (fun c2 => ?_) (fun c2 => ?_)
    · have z2 := d2i_0.mp c2
      refine zS_ldc_w (zdec eX10_has 22 rfl) kc_X10_351 rfl ?_
      exact zlMI (zdec eX10_has 23 rfl) rfl ⟨by unfold a_has; rw [if_neg (by omega)], f0⟩
    · have z2 := d2i_n.mp c2
      refine zS_iload (zdec eX10_has 11 rfl) rfl ?_
      refine zsI (M' := mX10_isHalf) (As := [zI y]) (st := []) (zdec eX10_has 12 rfl) kM_X10_335 kS_X10_isHalf rfl rfl rfl (by omega) (d_isHalf (by omega)) ?_
      refine zS_if_eq (tgt := 42) (zdec eX10_has 13 rfl) rfl (fun c3 => ?_) (fun c3 => ?_)
      · have z3 := d2i_0.mp c3
        refine zS_ldc_w (zdec eX10_has 22 rfl) kc_X10_351 rfl ?_
        exact zlMI (zdec eX10_has 23 rfl) rfl ⟨by unfold a_has; rw [if_neg (by omega)], f0⟩
      · have z3 := d2i_n.mp c3
        refine zS_aload_n (zdec eX10_has 14 rfl) rfl rfl ?_
        refine zS_iload_n (zdec eX10_has 15 rfl) rfl ?_
        refine zS_iload_n (zdec eX10_has 16 rfl) rfl ?_
        refine zS_iload_n (zdec eX10_has 17 rfl) rfl ?_
        refine zS_iload_n (zdec eX10_has 18 rfl) rfl ?_
        refine zS_iload (zdec eX10_has 19 rfl) rfl ?_
        have hd0 : 0 < D 0 0 := by first | omega | exact VD.bill (show 0 ≤ a by omega) (show a < D 0 8 by omega) | exact VD.day (show 0 ≤ a by omega) (show a < D 0 1 by omega) | exact VD.sup (show 0 ≤ a by omega) (show a < D 0 7 by omega)
        refine zvMI (M' := mX10_hasBy) (As := [zI a, zI a, zI b, zI x, zI y]) (st := []) (zdec eX10_has 20 rfl) kM_X10_447 kV_X10_hasBy ⟨by decide, rfl⟩ rfl rfl rfl rfl rfl (by omega) (r_hasBy (by omega) VD hd0 RD0 (by omega) (by omega) (by omega) (by omega) (by omega)) (fun x3 h3 ⟨hx3, g3⟩ => ?_)
        have f3 : Fr sQR h h3 := f0.tr g3 (fun k j z => z) (fun k j z => z)
        have RD3 : DR h3 0 D := RD.fr f3 (fun k j z => by omega)
        refine zS_goto (tgt := 45) (zdec eX10_has 21 rfl) rfl ?_
        exact zlMI (zdec eX10_has 23 rfl) rfl ⟨by unfold a_has; rw [if_pos (by omega)]; exact hx3, f3⟩
theorem xr_k {k : Int} (h0 : 0 ≤ k) (h1 : k < 4) : (zXor k 1 % 2 = 1 - k % 2 ∧ zXor k 1 / 2 = k / 2) ∧ (zXor k 2 % 2 = k % 2 ∧ zXor k 2 / 2 = 1 - k / 2) ∧ (k.tmod 2 = k % 2 ∧ k.tdiv 2 = k / 2) := by
  rcases (show k = 0 ∨ k = 1 ∨ k = 2 ∨ k = 3 by omega) with rfl | rfl | rfl | rfl <;> decide
theorem K_rests {d : Nat} {h : zH} {D : Dk} {a b : Int} (hd : 150 ≤ d) (VD : DV D) (hd0 : 0 < D 0 0) (RD : DR h 0 D) (hab : a ≠ b) : ∀ (n : Nat) (e : Int) (h1 : zH), 0 ≤ e → e + n = 4 → Fr sQR h h1 → zS mX10_rests (zr d) 22 [zA 108, zI a, zI b, zI (bitsI (fun k => decide (gnG D a b (zXor k 1 % 2) (zXor k 1 / 2) a ≤ gnG D a b (k % 2) (k / 2) a) && decide (gnG D a b (zXor k 2 % 2) (zXor k 2 / 2) b ≤ gnG D a b (k % 2) (k / 2) b)) e), zI e, zN, zN, zN] [] TT h1 (zAnI (fun r h' => r = rsL D a b ∧ Fr sQR h h')) := by
  intro n
  induction n with
  | zero =>
    intro e h1 a1 a2 i1
    refine zS_iload (zdec eX10_rests 14 rfl) rfl ?_
    refine zS_iconst (zdec eX10_rests 15 rfl) rfl ?_
    refine zS_icmp_ge (tgt := 123) (zdec eX10_rests 16 rfl) rfl (fun cz => ?_) (fun cz => absurd (by omega) cz)
    refine zS_iload_n (zdec eX10_rests 75 rfl) rfl ?_
    exact zlMI (zdec eX10_rests 76 rfl) rfl ⟨by unfold rsL; rw [show e = 4 by omega], i1⟩
  | succ n ih =>
    intro e h1 a1 a2 i1
    have RD1 : DR h1 0 D := RD.fr i1 (fun k j z => by omega)
    have xk := xr_k a1 (show e < 4 by omega)
    refine zS_iload (zdec eX10_rests 14 rfl) rfl ?_
    refine zS_iconst (zdec eX10_rests 15 rfl) rfl ?_
    refine zS_icmp_ge (tgt := 123) (zdec eX10_rests 16 rfl) rfl (fun cz => absurd cz (by omega)) (fun cz => ?_)
    refine zS_iload (zdec eX10_rests 17 rfl) rfl ?_
    refine zS_iconst (zdec eX10_rests 18 rfl) rfl ?_
    refine zS_irem (zdec eX10_rests 19 rfl) (by decide) (fun q => absurd q.2 (by decide)) ?_
    rw [xk.2.2.1]
    refine zS_istore (zdec eX10_rests 20 rfl) rfl ?_
    refine zS_iload (zdec eX10_rests 21 rfl) rfl ?_
    refine zS_iconst (zdec eX10_rests 22 rfl) rfl ?_
    refine zS_idiv (zdec eX10_rests 23 rfl) (by decide) (fun q => absurd q.2 (by decide)) ?_
    rw [xk.2.2.2]
    refine zS_istore (zdec eX10_rests 24 rfl) rfl ?_
    refine zS_aload_n (zdec eX10_rests 25 rfl) rfl rfl ?_
    refine zS_iload_n (zdec eX10_rests 26 rfl) rfl ?_
    refine zS_iload_n (zdec eX10_rests 27 rfl) rfl ?_
    refine zS_iload_n (zdec eX10_rests 28 rfl) rfl ?_
    refine zS_iconst (zdec eX10_rests 29 rfl) rfl ?_
    refine zS_iload (zdec eX10_rests 30 rfl) rfl ?_
    refine zS_isub (zdec eX10_rests 31 rfl) ⟨by omega, by omega⟩ ?_
    refine zS_iload (zdec eX10_rests 32 rfl) rfl ?_
    refine zvMI (M' := mX10_hasBy) (As := [zI a, zI a, zI b, zI (1 - (e % 2)), zI (e / 2)]) (st := []) (zdec eX10_rests 33 rfl) kM_X10_447 kV_X10_hasBy ⟨by decide, rfl⟩ rfl rfl rfl rfl rfl (by omega) (r_hasBy (by omega) VD hd0 RD1 (by omega) (by omega) (by omega) (by omega) (by omega)) (fun x3 h3 ⟨hx3, g3⟩ => ?_)
    have f3 : Fr sQR h h3 := i1.tr g3 (fun k j z => z) (fun k j z => z)
    have RD3 : DR h3 0 D := RD.fr f3 (fun k j z => by omega)
    refine zS_aload_n (zdec eX10_rests 34 rfl) rfl rfl ?_
    refine zS_iload_n (zdec eX10_rests 35 rfl) rfl ?_
    refine zS_iload_n (zdec eX10_rests 36 rfl) rfl ?_
    refine zS_iload_n (zdec eX10_rests 37 rfl) rfl ?_
    refine zS_iload (zdec eX10_rests 38 rfl) rfl ?_
    refine zS_iload (zdec eX10_rests 39 rfl) rfl ?_
    refine zvMI (M' := mX10_hasBy) (As := [zI a, zI a, zI b, zI (e % 2), zI (e / 2)]) (st := [zI x3]) (zdec eX10_rests 40 rfl) kM_X10_447 kV_X10_hasBy ⟨by decide, rfl⟩ rfl rfl rfl rfl rfl (by omega) (r_hasBy (by omega) VD hd0 RD3 (by omega) (by omega) (by omega) (by omega) (by omega)) (fun x5 h5 ⟨hx5, g5⟩ => ?_)
    have f5 : Fr sQR h h5 := f3.tr g5 (fun k j z => z) (fun k j z => z)
    have RD5 : DR h5 0 D := RD.fr f5 (fun k j z => by omega)
    refine zS_icmp_gt (tgt := 98) (zdec eX10_rests 41 rfl) rfl (fun c1 => ?_) (fun c1 => ?_)
    · refine zS_iconst (zdec eX10_rests 61 rfl) rfl ?_
      refine zS_istore (zdec eX10_rests 62 rfl) rfl ?_
      refine zS_iload_n (zdec eX10_rests 63 rfl) rfl ?_
      refine zS_iload (zdec eX10_rests 64 rfl) rfl ?_
      refine zS_if_eq (tgt := 114) (zdec eX10_rests 65 rfl) rfl (fun cz => ?_) (fun cz => absurd (by decide) cz)
      refine zS_iconst (zdec eX10_rests 70 rfl) rfl ?_
      refine zS_ior (zdec eX10_rests 71 rfl) ?_
      refine zS_istore_n (zdec eX10_rests 72 rfl) rfl ?_
      refine zS_iinc (zdec eX10_rests 73 rfl) rfl rfl ⟨by omega, by omega⟩ ?_
      refine zS_goto (tgt := 22) (zdec eX10_rests 74 rfl) rfl ?_
      refine zS_forget (i := 5) ?_
      refine zS_forget (i := 6) ?_
      refine zS_forget (i := 7) ?_
      have k := ih (e + 1) h5 (by omega) (by omega) f5
      rw [bitsI_s _ a1] at k
      rw [if_neg (show ¬ (_ = true) from by rw [xk.1.1, xk.1.2, xk.2.1.1, xk.2.1.2, decide_eq_false (by omega), Bool.false_and]; decide)] at k
      rw [bits_or0 a1 (by omega)]
      exact k
    · refine zS_aload_n (zdec eX10_rests 42 rfl) rfl rfl ?_
      refine zS_iload_n (zdec eX10_rests 43 rfl) rfl ?_
      refine zS_iload_n (zdec eX10_rests 44 rfl) rfl ?_
      refine zS_iload_n (zdec eX10_rests 45 rfl) rfl ?_
      refine zS_iload (zdec eX10_rests 46 rfl) rfl ?_
      refine zS_iconst (zdec eX10_rests 47 rfl) rfl ?_
      refine zS_iload (zdec eX10_rests 48 rfl) rfl ?_
      refine zS_isub (zdec eX10_rests 49 rfl) ⟨by omega, by omega⟩ ?_
      refine zvMI (M' := mX10_hasBy) (As := [zI b, zI a, zI b, zI (e % 2), zI (1 - (e / 2))]) (st := []) (zdec eX10_rests 50 rfl) kM_X10_447 kV_X10_hasBy ⟨by decide, rfl⟩ rfl rfl rfl rfl rfl (by omega) (r_hasBy (by omega) VD hd0 RD5 (by omega) (by omega) (by omega) (by omega) (by omega)) (fun x7 h7 ⟨hx7, g7⟩ => ?_)
      have f7 : Fr sQR h h7 := f5.tr g7 (fun k j z => z) (fun k j z => z)
      have RD7 : DR h7 0 D := RD.fr f7 (fun k j z => by omega)
      refine zS_aload_n (zdec eX10_rests 51 rfl) rfl rfl ?_
      refine zS_iload_n (zdec eX10_rests 52 rfl) rfl ?_
      refine zS_iload_n (zdec eX10_rests 53 rfl) rfl ?_
      refine zS_iload_n (zdec eX10_rests 54 rfl) rfl ?_
      refine zS_iload (zdec eX10_rests 55 rfl) rfl ?_
      refine zS_iload (zdec eX10_rests 56 rfl) rfl ?_
      refine zvMI (M' := mX10_hasBy) (As := [zI b, zI a, zI b, zI (e % 2), zI (e / 2)]) (st := [zI x7]) (zdec eX10_rests 57 rfl) kM_X10_447 kV_X10_hasBy ⟨by decide, rfl⟩ rfl rfl rfl rfl rfl (by omega) (r_hasBy (by omega) VD hd0 RD7 (by omega) (by omega) (by omega) (by omega) (by omega)) (fun x9 h9 ⟨hx9, g9⟩ => ?_)
      have f9 : Fr sQR h h9 := f7.tr g9 (fun k j z => z) (fun k j z => z)
      have RD9 : DR h9 0 D := RD.fr f9 (fun k j z => by omega)
      refine zS_icmp_gt (tgt := 98) (zdec eX10_rests 58 rfl) rfl (fun c2 => ?_) (fun c2 => ?_)
      · refine zS_iconst (zdec eX10_rests 61 rfl) rfl ?_
        refine zS_istore (zdec eX10_rests 62 rfl) rfl ?_
        refine zS_iload_n (zdec eX10_rests 63 rfl) rfl ?_
        refine zS_iload (zdec eX10_rests 64 rfl) rfl ?_
        refine zS_if_eq (tgt := 114) (zdec eX10_rests 65 rfl) rfl (fun cz => ?_) (fun cz => absurd (by decide) cz)
        refine zS_iconst (zdec eX10_rests 70 rfl) rfl ?_
        refine zS_ior (zdec eX10_rests 71 rfl) ?_
        refine zS_istore_n (zdec eX10_rests 72 rfl) rfl ?_
        refine zS_iinc (zdec eX10_rests 73 rfl) rfl rfl ⟨by omega, by omega⟩ ?_
        refine zS_goto (tgt := 22) (zdec eX10_rests 74 rfl) rfl ?_
        refine zS_forget (i := 5) ?_
        refine zS_forget (i := 6) ?_
        refine zS_forget (i := 7) ?_
        have k := ih (e + 1) h9 (by omega) (by omega) f9
        rw [bitsI_s _ a1] at k
        rw [if_neg (show ¬ (_ = true) from by rw [xk.1.1, xk.1.2, xk.2.1.1, xk.2.1.2, decide_eq_true (by omega), Bool.true_and, decide_eq_false (by omega)]; decide)] at k
        rw [bits_or0 a1 (by omega)]
        exact k
      · refine zS_iconst (zdec eX10_rests 59 rfl) rfl ?_
        refine zS_goto (tgt := 99) (zdec eX10_rests 60 rfl) rfl ?_
        refine zS_istore (zdec eX10_rests 62 rfl) rfl ?_
        refine zS_iload_n (zdec eX10_rests 63 rfl) rfl ?_
        refine zS_iload (zdec eX10_rests 64 rfl) rfl ?_
        refine zS_if_eq (tgt := 114) (zdec eX10_rests 65 rfl) rfl (fun cz => absurd cz (by decide)) (fun cz => ?_)
        refine zS_iconst (zdec eX10_rests 66 rfl) rfl ?_
        refine zS_iload (zdec eX10_rests 67 rfl) rfl ?_
        refine zS_ishl (zdec eX10_rests 68 rfl) ?_
        refine zS_goto (tgt := 115) (zdec eX10_rests 69 rfl) rfl ?_
        refine zS_ior (zdec eX10_rests 71 rfl) ?_
        refine zS_istore_n (zdec eX10_rests 72 rfl) rfl ?_
        refine zS_iinc (zdec eX10_rests 73 rfl) rfl rfl ⟨by omega, by omega⟩ ?_
        refine zS_goto (tgt := 22) (zdec eX10_rests 74 rfl) rfl ?_
        refine zS_forget (i := 5) ?_
        refine zS_forget (i := 6) ?_
        refine zS_forget (i := 7) ?_
        have k := ih (e + 1) h9 (by omega) (by omega) f9
        rw [bitsI_s _ a1] at k
        rw [if_pos (show _ = true from by rw [xk.1.1, xk.1.2, xk.2.1.1, xk.2.1.2, decide_eq_true (by omega), Bool.true_and, decide_eq_true (by omega)])] at k
        exact k
theorem q_rests {d : Nat} {h : zH} {D : Dk} {a b : Int} (hd : 200 ≤ d) (VD : DV D) (RD : DR h 0 D) : zMI d mX10_rests [zA 108, zI a, zI b] h (fun r h' => r = a_rests D a b ∧ Fr sQR h h') := by
  obtain ⟨p, hp⟩ : ∃ p, pb0 D = p := ⟨_, rfl⟩
  obtain ⟨q, hq⟩ : ∃ q, planP p = q := ⟨_, rfl⟩
  have pd : pDays p = D 0 1 := by rw [← hp]; rfl
  have pn : pNb p = D 0 8 := by rw [← hp]; rfl
  have dy := VD.days
  have nb := VD.nb
  have ns := VD.ns
  have nl := VD.nl
  have na := VD.na
  have vfl := VD.fl
  have vfe := VD.fee
  have hin : ∀ b, 0 ≤ b → b < pNb p → pIn p b = true := fun b _ _ => by rw [← hp]; rfl
  refine zmet rfl rfl rfl ?_
  refine zS_aload_n (zdec eX10_rests 0 rfl) rfl rfl ?_
  refine zS_iconst (zdec eX10_rests 1 rfl) rfl ?_
  refine zS_putfield (x := 0) (zdec eX10_rests 2 rfl) kF_X10_71 (Or.inl kf10_0) ⟨by decide, rfl⟩ rfl rfl rfl (Or.inl (fun q => by cases q)) ?_
  obtain ⟨h0, E0⟩ : ∃ x, x = zset h 108 0 0 := ⟨_, rfl⟩
  rw [show zset h 108 0 (0 : Int) = h0 from E0.symm]
  have f0 : Fr sQR h h0 := by rw [E0]; exact Fr.rf.set (by omega)
  have RD0 : DR h0 0 D := RD.fr f0 (fun k j z => by omega)
  refine zS_aload_n (zdec eX10_rests 3 rfl) rfl rfl ?_
  refine zS_iload_n (zdec eX10_rests 4 rfl) rfl ?_
  refine zS_iload_n (zdec eX10_rests 5 rfl) rfl ?_
  refine zvI (M' := mX10_areTwo) (As := [zI a, zI b]) (st := []) (zdec eX10_rests 6 rfl) kM_X10_444 kV_X10_areTwo ⟨by decide, rfl⟩ rfl rfl rfl rfl rfl (by omega) (d_areTwo (by omega) VD RD0) ?_
  refine zS_if_ne (tgt := 17) (zdec eX10_rests 7 rfl) rfl (fun c1 => ?_) (fun c1 => ?_)
  · have z1 := d2i_n.mp c1
    refine zS_iconst (zdec eX10_rests 10 rfl) rfl ?_
    refine zS_istore_n (zdec eX10_rests 11 rfl) rfl ?_
    refine zS_iconst (zdec eX10_rests 12 rfl) rfl ?_
    refine zS_istore (zdec eX10_rests 13 rfl) rfl ?_
    have hd0 : 0 < D 0 0 := by first | omega | exact VD.bill (show 0 ≤ a by omega) (show a < D 0 8 by omega) | exact VD.day (show 0 ≤ a by omega) (show a < D 0 1 by omega) | exact VD.sup (show 0 ≤ a by omega) (show a < D 0 7 by omega)
    unfold a_rests
    rw [if_pos (by omega)]
    exact K_rests (by omega) VD hd0 RD (by omega) 4 0 h0 (by omega) (by omega) f0
  · have z1 := d2i_0.mp c1
    refine zS_bipush (zdec eX10_rests 8 rfl) rfl rfl ?_
    exact zlMI (zdec eX10_rests 9 rfl) rfl ⟨by unfold a_rests; rw [if_neg (by omega)], f0⟩

theorem K_fees {d : Nat} {h h2 : zH} {D : Dk} {p : Pb} {q : Int → Int} {A : Int} (hd : 150 ≤ d) (VD : DV D) (hp : pb0 D = p) (V : PV p) (R : WR h2 p) (S : PlR h2 p q) (q0 : ∀ b, 0 ≤ q b) (q1 : ∀ b, q b ≤ pDays p) (RD2 : DR h2 0 D) (f2 : Fr sQR h h2) (hA : A = sumI (fun d => if usedP p q d then pFee p else 0) (pDays p)) : ∀ (n : Nat) (e : Int), 0 ≤ e → e + n = pDays p → zS mX10_fees (zr d) 23 [zA 108, zI (sumI (fun d => if usedP p q d then pFee p else 0) e), zI e] [] TT h2 (zAnI (fun r h' => r = A ∧ Fr sQR h h')) := by
  intro n
  induction n with
  | zero =>
    intro e a1 a2
    have dy := V.days
    have nb := V.nb
    have ns := VD.ns
    have pd : pDays p = D 0 1 := by rw [← hp]; rfl
    have pn : pNb p = D 0 8 := by rw [← hp]; rfl
    have hin : ∀ b, 0 ≤ b → b < pNb p → pIn p b = true := fun b _ _ => by rw [← hp]; rfl
    refine zS_iload_n (zdec eX10_fees 14 rfl) rfl ?_
    refine zS_aload_n (zdec eX10_fees 15 rfl) rfl rfl ?_
    refine zvI (M' := mX10_days) (As := []) (st := [zI e]) (zdec eX10_fees 16 rfl) kM_X10_240 kV_X10_days ⟨by decide, rfl⟩ rfl rfl rfl rfl rfl (by omega) (r_days R) ?_
    refine zS_icmp_ge (tgt := 58) (zdec eX10_fees 17 rfl) rfl (fun cz => ?_) (fun cz => absurd (by omega) cz)
    refine zS_iload_n (zdec eX10_fees 33 rfl) rfl ?_
    exact zlMI (zdec eX10_fees 34 rfl) rfl ⟨by rw [hA, show e = pDays p by omega], f2⟩
  | succ n ih =>
    intro e a1 a2
    have dy := V.days
    have nb := V.nb
    have ns := VD.ns
    have pd : pDays p = D 0 1 := by rw [← hp]; rfl
    have pn : pNb p = D 0 8 := by rw [← hp]; rfl
    have hin : ∀ b, 0 ≤ b → b < pNb p → pIn p b = true := fun b _ _ => by rw [← hp]; rfl
    have fb := feesB V q a1 (show e ≤ 7 by omega)
    have fe := V.fee
    refine zS_iload_n (zdec eX10_fees 14 rfl) rfl ?_
    refine zS_aload_n (zdec eX10_fees 15 rfl) rfl rfl ?_
    refine zvI (M' := mX10_days) (As := []) (st := [zI e]) (zdec eX10_fees 16 rfl) kM_X10_240 kV_X10_days ⟨by decide, rfl⟩ rfl rfl rfl rfl rfl (by omega) (r_days R) ?_
    refine zS_icmp_ge (tgt := 58) (zdec eX10_fees 17 rfl) rfl (fun cz => absurd cz (by omega)) (fun cz => ?_)
    refine zS_iload_n (zdec eX10_fees 18 rfl) rfl ?_
    refine zS_aload_n (zdec eX10_fees 19 rfl) rfl rfl ?_
    refine zS_iload_n (zdec eX10_fees 20 rfl) rfl ?_
    refine zvI (M' := mX10_isUsed) (As := [zI e]) (st := [zI (sumI (fun d => if usedP p q d then pFee p else 0) e)]) (zdec eX10_fees 21 rfl) kM_X10_280 kV_X10_isUsed ⟨by decide, rfl⟩ rfl rfl rfl rfl rfl (by omega) (r_isUsed (by omega) V R S) ?_
    refine zS_if_eq (tgt := 49) (zdec eX10_fees 22 rfl) rfl (fun c1 => ?_) (fun c1 => ?_)
    · have z1 := b2i_0.mp c1
      refine zS_iconst (zdec eX10_fees 28 rfl) rfl ?_
      refine zS_iadd (zdec eX10_fees 29 rfl) ⟨by omega, by omega⟩ ?_
      refine zS_istore_n (zdec eX10_fees 30 rfl) rfl ?_
      refine zS_iinc (zdec eX10_fees 31 rfl) rfl rfl ⟨by omega, by omega⟩ ?_
      refine zS_goto (tgt := 23) (zdec eX10_fees 32 rfl) rfl ?_
      have k := ih (e + 1) (by omega) (by omega)
      rw [sumI_s _ a1, z1, if_neg (by decide)] at k
      exact k
    · have z1 := b2i_n.mp c1
      refine zS_aload_n (zdec eX10_fees 23 rfl) rfl rfl ?_
      refine zS_getref (i := 61) (zdec eX10_fees 24 rfl) kF_X10_34 ⟨by decide, rfl⟩ rfl rfl rfl rfl rfl ?_
      refine zS_iconst (zdec eX10_fees 25 rfl) rfl ?_
      refine zS_ialoadE (v := (pFee p)) (zdec eX10_fees 26 rfl) ⟨by decide, rfl⟩ (by decide) (by decide) R.fee ?_
      refine zS_goto (tgt := 50) (zdec eX10_fees 27 rfl) rfl ?_
      refine zS_iadd (zdec eX10_fees 29 rfl) ⟨by omega, by omega⟩ ?_
      refine zS_istore_n (zdec eX10_fees 30 rfl) rfl ?_
      refine zS_iinc (zdec eX10_fees 31 rfl) rfl rfl ⟨by omega, by omega⟩ ?_
      refine zS_goto (tgt := 23) (zdec eX10_fees 32 rfl) rfl ?_
      have k := ih (e + 1) (by omega) (by omega)
      rw [sumI_s _ a1, z1, if_pos rfl] at k
      exact k
theorem q_fees {d : Nat} {h : zH} {D : Dk} (hd : 200 ≤ d) (VD : DV D) (RD : DR h 0 D) : zMI d mX10_fees [zA 108] h (fun r h' => r = a_fees D ∧ Fr sQR h h') := by
  obtain ⟨p, hp⟩ : ∃ p, pb0 D = p := ⟨_, rfl⟩
  obtain ⟨q, hq⟩ : ∃ q, planP p = q := ⟨_, rfl⟩
  have pd : pDays p = D 0 1 := by rw [← hp]; rfl
  have pn : pNb p = D 0 8 := by rw [← hp]; rfl
  have dy := VD.days
  have nb := VD.nb
  have ns := VD.ns
  have nl := VD.nl
  have na := VD.na
  have vfl := VD.fl
  have vfe := VD.fee
  have hin : ∀ b, 0 ≤ b → b < pNb p → pIn p b = true := fun b _ _ => by rw [← hp]; rfl
  refine zmet rfl rfl rfl ?_
  refine zS_aload_n (zdec eX10_fees 0 rfl) rfl rfl ?_
  refine zS_iconst (zdec eX10_fees 1 rfl) rfl ?_
  refine zS_putfield (x := 0) (zdec eX10_fees 2 rfl) kF_X10_71 (Or.inl kf10_0) ⟨by decide, rfl⟩ rfl rfl rfl (Or.inl (fun q => by cases q)) ?_
  obtain ⟨h0, E0⟩ : ∃ x, x = zset h 108 0 0 := ⟨_, rfl⟩
  rw [show zset h 108 0 (0 : Int) = h0 from E0.symm]
  have f0 : Fr sQR h h0 := by rw [E0]; exact Fr.rf.set (by omega)
  have RD0 : DR h0 0 D := RD.fr f0 (fun k j z => by omega)
  refine zS_aload_n (zdec eX10_fees 3 rfl) rfl rfl ?_
  refine zvI (M' := mX10_isDesk) (As := []) (st := []) (zdec eX10_fees 4 rfl) kM_X10_332 kV_X10_isDesk ⟨by decide, rfl⟩ rfl rfl rfl rfl rfl (by omega) (d_isDesk VD RD0) ?_
  refine zS_if_ne (tgt := 15) (zdec eX10_fees 5 rfl) rfl (fun c1 => ?_) (fun c1 => ?_)
  · have z1 := d2i_n.mp c1
    refine zS_aload_n (zdec eX10_fees 8 rfl) rfl rfl ?_
    have hd0 : 0 < D 0 0 := by first | omega
    refine zvMV (M' := mX10_laysNow) (As := []) (st := []) (zdec eX10_fees 9 rfl) kM_X10_342 kV_X10_laysNow ⟨by decide, rfl⟩ rfl rfl rfl rfl rfl (by omega) (r_laysNow hp hq (by omega) VD hd0 RD0) (fun h2 ⟨⟨V, R, S, O, CA⟩, ⟨q0, q1⟩, g2, RD2⟩ => ?_)
    have f2 : Fr sQR h h2 := f0.tr g2 (fun k j z => z) (fun k j z => z)
    refine zS_iconst (zdec eX10_fees 10 rfl) rfl ?_
    refine zS_istore_n (zdec eX10_fees 11 rfl) rfl ?_
    refine zS_iconst (zdec eX10_fees 12 rfl) rfl ?_
    refine zS_istore_n (zdec eX10_fees 13 rfl) rfl ?_
    exact K_fees (by omega) VD hp V R S q0 q1 RD2 f2 (by unfold a_fees; rw [hp, hq, if_pos (by omega)]; rfl) (pDays p).toNat 0 (by omega) (by omega)
  · have z1 := d2i_0.mp c1
    refine zS_bipush (zdec eX10_fees 6 rfl) rfl rfl ?_
    exact zlMI (zdec eX10_fees 7 rfl) rfl ⟨by unfold a_fees; (try rw [hp]); (try rw [hq]); first | rw [if_pos (by omega)] | rw [if_neg (by omega)], f0⟩
theorem K_caught {d : Nat} {h h2 : zH} {D : Dk} {p : Pb} {q : Int → Int} {A : Int} (hd : 150 ≤ d) (VD : DV D) (hp : pb0 D = p) (V : PV p) (R : WR h2 p) (S : PlR h2 p q) (q0 : ∀ b, 0 ≤ q b) (q1 : ∀ b, q b ≤ pDays p) (RD2 : DR h2 0 D) (f2 : Fr sQR h h2) (hA : A = bitsI (fun b => decide (0 < D (3 + b) 2) && decide (q b < pDays p ∧ q b ≤ pBy p b)) (pNb p)) : ∀ (n : Nat) (e : Int), 0 ≤ e → e + n = pNb p → zS mX10_caught (zr d) 23 [zA 108, zI (bitsI (fun b => decide (0 < D (3 + b) 2) && decide (q b < pDays p ∧ q b ≤ pBy p b)) e), zI e] [] TT h2 (zAnI (fun r h' => r = A ∧ Fr sQR h h')) := by
  intro n
  induction n with
  | zero =>
    intro e a1 a2
    have dy := V.days
    have nb := V.nb
    have ns := VD.ns
    have pd : pDays p = D 0 1 := by rw [← hp]; rfl
    have pn : pNb p = D 0 8 := by rw [← hp]; rfl
    have hin : ∀ b, 0 ≤ b → b < pNb p → pIn p b = true := fun b _ _ => by rw [← hp]; rfl
    refine zS_iload_n (zdec eX10_caught 14 rfl) rfl ?_
    refine zS_aload_n (zdec eX10_caught 15 rfl) rfl rfl ?_
    refine zvI (M' := mX10_bills) (As := []) (st := [zI e]) (zdec eX10_caught 16 rfl) kM_X10_236 kV_X10_bills ⟨by decide, rfl⟩ rfl rfl rfl rfl rfl (by omega) (r_bills R) ?_
    refine zS_icmp_ge (tgt := 64) (zdec eX10_caught 17 rfl) rfl (fun cz => ?_) (fun cz => absurd (by omega) cz)
    refine zS_iload_n (zdec eX10_caught 37 rfl) rfl ?_
    exact zlMI (zdec eX10_caught 38 rfl) rfl ⟨by rw [hA, show e = pNb p by omega], f2⟩
  | succ n ih =>
    intro e a1 a2
    have dy := V.days
    have nb := V.nb
    have ns := VD.ns
    have pd : pDays p = D 0 1 := by rw [← hp]; rfl
    have pn : pNb p = D 0 8 := by rw [← hp]; rfl
    have hin : ∀ b, 0 ≤ b → b < pNb p → pIn p b = true := fun b _ _ => by rw [← hp]; rfl
    refine zS_iload_n (zdec eX10_caught 14 rfl) rfl ?_
    refine zS_aload_n (zdec eX10_caught 15 rfl) rfl rfl ?_
    refine zvI (M' := mX10_bills) (As := []) (st := [zI e]) (zdec eX10_caught 16 rfl) kM_X10_236 kV_X10_bills ⟨by decide, rfl⟩ rfl rfl rfl rfl rfl (by omega) (r_bills R) ?_
    refine zS_icmp_ge (tgt := 64) (zdec eX10_caught 17 rfl) rfl (fun cz => absurd cz (by omega)) (fun cz => ?_)
    refine zS_iload_n (zdec eX10_caught 18 rfl) rfl ?_
    refine zS_aload_n (zdec eX10_caught 19 rfl) rfl rfl ?_
    refine zS_iload_n (zdec eX10_caught 20 rfl) rfl ?_
    refine zvI (M' := mX10_isCaught) (As := [zI e]) (st := [zI (bitsI (fun b => decide (0 < D (3 + b) 2) && decide (q b < pDays p ∧ q b ≤ pBy p b)) e)]) (zdec eX10_caught 21 rfl) kM_X10_355 kV_X10_isCaught ⟨by decide, rfl⟩ rfl rfl rfl rfl rfl (by omega) (r_isCaught (by omega) V R S (by omega) (by omega)) ?_
    refine zS_if_eq (tgt := 55) (zdec eX10_caught 22 rfl) rfl (fun c1 => ?_) (fun c1 => ?_)
    · have z1 := d2i_0.mp c1
      refine zS_iconst (zdec eX10_caught 32 rfl) rfl ?_
      refine zS_ior (zdec eX10_caught 33 rfl) ?_
      refine zS_istore_n (zdec eX10_caught 34 rfl) rfl ?_
      refine zS_iinc (zdec eX10_caught 35 rfl) rfl rfl ⟨by omega, by omega⟩ ?_
      refine zS_goto (tgt := 23) (zdec eX10_caught 36 rfl) rfl ?_
      have k := ih (e + 1) (by omega) (by omega)
      rw [bitsI_s _ a1] at k
      have po : pOff p e = D (3 + e) 2 := by rw [← hp]; rfl
      rw [if_neg (by rw [decide_eq_false z1, Bool.and_false]; decide)] at k
      rw [bits_or0 a1 (by omega)]
      exact k
    · have z1 := d2i_n.mp c1
      refine zS_aload_n (zdec eX10_caught 23 rfl) rfl rfl ?_
      refine zS_getref (i := 67) (zdec eX10_caught 24 rfl) kF_X10_53 ⟨by decide, rfl⟩ rfl rfl rfl rfl rfl ?_
      refine zS_iload_n (zdec eX10_caught 25 rfl) rfl ?_
      refine zS_ialoadE (v := (pOff p e)) (zdec eX10_caught 26 rfl) ⟨by decide, rfl⟩ (by omega) (by omega) (R.off (by omega) (by omega)) ?_
      refine zS_if_le (tgt := 55) (zdec eX10_caught 27 rfl) rfl (fun c2 => ?_) (fun c2 => ?_)
      · refine zS_iconst (zdec eX10_caught 32 rfl) rfl ?_
        refine zS_ior (zdec eX10_caught 33 rfl) ?_
        refine zS_istore_n (zdec eX10_caught 34 rfl) rfl ?_
        refine zS_iinc (zdec eX10_caught 35 rfl) rfl rfl ⟨by omega, by omega⟩ ?_
        refine zS_goto (tgt := 23) (zdec eX10_caught 36 rfl) rfl ?_
        have k := ih (e + 1) (by omega) (by omega)
        rw [bitsI_s _ a1] at k
        have po : pOff p e = D (3 + e) 2 := by rw [← hp]; rfl
        rw [if_neg (by rw [decide_eq_false (by omega), Bool.false_and]; decide)] at k
        rw [bits_or0 a1 (by omega)]
        exact k
      · refine zS_iconst (zdec eX10_caught 28 rfl) rfl ?_
        refine zS_iload_n (zdec eX10_caught 29 rfl) rfl ?_
        refine zS_ishl (zdec eX10_caught 30 rfl) ?_
        refine zS_goto (tgt := 56) (zdec eX10_caught 31 rfl) rfl ?_
        refine zS_ior (zdec eX10_caught 33 rfl) ?_
        refine zS_istore_n (zdec eX10_caught 34 rfl) rfl ?_
        refine zS_iinc (zdec eX10_caught 35 rfl) rfl rfl ⟨by omega, by omega⟩ ?_
        refine zS_goto (tgt := 23) (zdec eX10_caught 36 rfl) rfl ?_
        have k := ih (e + 1) (by omega) (by omega)
        rw [bitsI_s _ a1] at k
        have po : pOff p e = D (3 + e) 2 := by rw [← hp]; rfl
        rw [if_pos (by rw [decide_eq_true (by omega), decide_eq_true z1]; rfl)] at k
        exact k
theorem q_caught {d : Nat} {h : zH} {D : Dk} (hd : 200 ≤ d) (VD : DV D) (RD : DR h 0 D) : zMI d mX10_caught [zA 108] h (fun r h' => r = a_caught D ∧ Fr sQR h h') := by
  obtain ⟨p, hp⟩ : ∃ p, pb0 D = p := ⟨_, rfl⟩
  obtain ⟨q, hq⟩ : ∃ q, planP p = q := ⟨_, rfl⟩
  have pd : pDays p = D 0 1 := by rw [← hp]; rfl
  have pn : pNb p = D 0 8 := by rw [← hp]; rfl
  have dy := VD.days
  have nb := VD.nb
  have ns := VD.ns
  have nl := VD.nl
  have na := VD.na
  have vfl := VD.fl
  have vfe := VD.fee
  have hin : ∀ b, 0 ≤ b → b < pNb p → pIn p b = true := fun b _ _ => by rw [← hp]; rfl
  refine zmet rfl rfl rfl ?_
  refine zS_aload_n (zdec eX10_caught 0 rfl) rfl rfl ?_
  refine zS_iconst (zdec eX10_caught 1 rfl) rfl ?_
  refine zS_putfield (x := 0) (zdec eX10_caught 2 rfl) kF_X10_71 (Or.inl kf10_0) ⟨by decide, rfl⟩ rfl rfl rfl (Or.inl (fun q => by cases q)) ?_
  obtain ⟨h0, E0⟩ : ∃ x, x = zset h 108 0 0 := ⟨_, rfl⟩
  rw [show zset h 108 0 (0 : Int) = h0 from E0.symm]
  have f0 : Fr sQR h h0 := by rw [E0]; exact Fr.rf.set (by omega)
  have RD0 : DR h0 0 D := RD.fr f0 (fun k j z => by omega)
  refine zS_aload_n (zdec eX10_caught 3 rfl) rfl rfl ?_
  refine zvI (M' := mX10_isDesk) (As := []) (st := []) (zdec eX10_caught 4 rfl) kM_X10_332 kV_X10_isDesk ⟨by decide, rfl⟩ rfl rfl rfl rfl rfl (by omega) (d_isDesk VD RD0) ?_
  refine zS_if_ne (tgt := 15) (zdec eX10_caught 5 rfl) rfl (fun c1 => ?_) (fun c1 => ?_)
  · have z1 := d2i_n.mp c1
    refine zS_aload_n (zdec eX10_caught 8 rfl) rfl rfl ?_
    have hd0 : 0 < D 0 0 := by first | omega
    refine zvMV (M' := mX10_laysNow) (As := []) (st := []) (zdec eX10_caught 9 rfl) kM_X10_342 kV_X10_laysNow ⟨by decide, rfl⟩ rfl rfl rfl rfl rfl (by omega) (r_laysNow hp hq (by omega) VD hd0 RD0) (fun h2 ⟨⟨V, R, S, O, CA⟩, ⟨q0, q1⟩, g2, RD2⟩ => ?_)
    have f2 : Fr sQR h h2 := f0.tr g2 (fun k j z => z) (fun k j z => z)
    refine zS_iconst (zdec eX10_caught 10 rfl) rfl ?_
    refine zS_istore_n (zdec eX10_caught 11 rfl) rfl ?_
    refine zS_iconst (zdec eX10_caught 12 rfl) rfl ?_
    refine zS_istore_n (zdec eX10_caught 13 rfl) rfl ?_
    exact K_caught (by omega) VD hp V R S q0 q1 RD2 f2 (by unfold a_caught; rw [hp, hq, if_pos (by omega), pn]) (pNb p).toNat 0 (by omega) (by omega)
  · have z1 := d2i_0.mp c1
    refine zS_bipush (zdec eX10_caught 6 rfl) rfl rfl ?_
    exact zlMI (zdec eX10_caught 7 rfl) rfl ⟨by unfold a_caught; (try rw [hp]); (try rw [hq]); first | rw [if_pos (by omega)] | rw [if_neg (by omega)], f0⟩
theorem K_late {d : Nat} {h h2 : zH} {D : Dk} {p : Pb} {q : Int → Int} {A : Int} (hd : 150 ≤ d) (VD : DV D) (hp : pb0 D = p) (V : PV p) (R : WR h2 p) (S : PlR h2 p q) (q0 : ∀ b, 0 ≤ q b) (q1 : ∀ b, q b ≤ pDays p) (RD2 : DR h2 0 D) (f2 : Fr sQR h h2) (hA : A = bitsI (fun b => decide (q b < pDays p ∧ D (3 + b) 4 < q b)) (pNb p)) : ∀ (n : Nat) (e : Int), 0 ≤ e → e + n = pNb p → zS mX10_late (zr d) 23 [zA 108, zI (bitsI (fun b => decide (q b < pDays p ∧ D (3 + b) 4 < q b)) e), zI e] [] TT h2 (zAnI (fun r h' => r = A ∧ Fr sQR h h')) := by
  intro n
  induction n with
  | zero =>
    intro e a1 a2
    have dy := V.days
    have nb := V.nb
    have ns := VD.ns
    have pd : pDays p = D 0 1 := by rw [← hp]; rfl
    have pn : pNb p = D 0 8 := by rw [← hp]; rfl
    have hin : ∀ b, 0 ≤ b → b < pNb p → pIn p b = true := fun b _ _ => by rw [← hp]; rfl
    refine zS_iload_n (zdec eX10_late 14 rfl) rfl ?_
    refine zS_aload_n (zdec eX10_late 15 rfl) rfl rfl ?_
    refine zvI (M' := mX10_bills) (As := []) (st := [zI e]) (zdec eX10_late 16 rfl) kM_X10_236 kV_X10_bills ⟨by decide, rfl⟩ rfl rfl rfl rfl rfl (by omega) (r_bills R) ?_
    refine zS_icmp_ge (tgt := 80) (zdec eX10_late 17 rfl) rfl (fun cz => ?_) (fun cz => absurd (by omega) cz)
    refine zS_iload_n (zdec eX10_late 48 rfl) rfl ?_
    exact zlMI (zdec eX10_late 49 rfl) rfl ⟨by rw [hA, show e = pNb p by omega], f2⟩
  | succ n ih =>
    intro e a1 a2
    have dy := V.days
    have nb := V.nb
    have ns := VD.ns
    have pd : pDays p = D 0 1 := by rw [← hp]; rfl
    have pn : pNb p = D 0 8 := by rw [← hp]; rfl
    have hin : ∀ b, 0 ≤ b → b < pNb p → pIn p b = true := fun b _ _ => by rw [← hp]; rfl
    refine zS_iload_n (zdec eX10_late 14 rfl) rfl ?_
    refine zS_aload_n (zdec eX10_late 15 rfl) rfl rfl ?_
    refine zvI (M' := mX10_bills) (As := []) (st := [zI e]) (zdec eX10_late 16 rfl) kM_X10_236 kV_X10_bills ⟨by decide, rfl⟩ rfl rfl rfl rfl rfl (by omega) (r_bills R) ?_
    refine zS_icmp_ge (tgt := 80) (zdec eX10_late 17 rfl) rfl (fun cz => absurd cz (by omega)) (fun cz => ?_)
    refine zS_iload_n (zdec eX10_late 18 rfl) rfl ?_
    refine zS_aload_n (zdec eX10_late 19 rfl) rfl rfl ?_
    refine zS_getref (i := 69) (zdec eX10_late 20 rfl) kF_X10_59 ⟨by decide, rfl⟩ rfl rfl rfl rfl rfl ?_
    refine zS_iload_n (zdec eX10_late 21 rfl) rfl ?_
    refine zS_ialoadE (v := (q e)) (zdec eX10_late 22 rfl) ⟨by decide, rfl⟩ (by omega) (by omega) (S e (by omega) (by omega)) ?_
    refine zS_aload_n (zdec eX10_late 23 rfl) rfl rfl ?_
    refine zvI (M' := mX10_days) (As := []) (st := [zI (q e), zI (bitsI (fun b => decide (q b < pDays p ∧ D (3 + b) 4 < q b)) e)]) (zdec eX10_late 24 rfl) kM_X10_240 kV_X10_days ⟨by decide, rfl⟩ rfl rfl rfl rfl rfl (by omega) (r_days R) ?_
    refine zS_icmp_ge (tgt := 71) (zdec eX10_late 25 rfl) rfl (fun c1 => ?_) (fun c1 => ?_)
    · refine zS_iconst (zdec eX10_late 43 rfl) rfl ?_
      refine zS_ior (zdec eX10_late 44 rfl) ?_
      refine zS_istore_n (zdec eX10_late 45 rfl) rfl ?_
      refine zS_iinc (zdec eX10_late 46 rfl) rfl rfl ⟨by omega, by omega⟩ ?_
      refine zS_goto (tgt := 23) (zdec eX10_late 47 rfl) rfl ?_
      have k := ih (e + 1) (by omega) (by omega)
      rw [bitsI_s _ a1] at k
      have po : pDue p e = D (3 + e) 4 := by rw [← hp]; rfl
      rw [if_neg (by rw [decide_eq_false (by omega)]; decide)] at k
      rw [bits_or0 a1 (by omega)]
      exact k
    · refine zS_aload_n (zdec eX10_late 26 rfl) rfl rfl ?_
      refine zS_getref (i := 69) (zdec eX10_late 27 rfl) kF_X10_59 ⟨by decide, rfl⟩ rfl rfl rfl rfl rfl ?_
      refine zS_iload_n (zdec eX10_late 28 rfl) rfl ?_
      refine zS_ialoadE (v := (q e)) (zdec eX10_late 29 rfl) ⟨by decide, rfl⟩ (by omega) (by omega) (S e (by omega) (by omega)) ?_
      refine zS_aload_n (zdec eX10_late 30 rfl) rfl rfl ?_
      refine zS_getref (i := 63) (zdec eX10_late 31 rfl) kF_X10_40 ⟨by decide, rfl⟩ rfl rfl rfl rfl rfl ?_
      refine zS_bipush (zdec eX10_late 32 rfl) rfl rfl ?_
      refine zS_iload_n (zdec eX10_late 33 rfl) rfl ?_
      refine zS_imul (zdec eX10_late 34 rfl) ⟨by omega, by omega⟩ ?_
      refine zS_iconst (zdec eX10_late 35 rfl) rfl ?_
      refine zS_iadd (zdec eX10_late 36 rfl) ⟨by omega, by omega⟩ ?_
      refine zS_ialoadE (v := (pDue p e)) (zdec eX10_late 37 rfl) ⟨by decide, rfl⟩ (by omega) (by omega) (R.due (by omega) (by omega)) ?_
      refine zS_icmp_le (tgt := 71) (zdec eX10_late 38 rfl) rfl (fun c2 => ?_) (fun c2 => ?_)
      · refine zS_iconst (zdec eX10_late 43 rfl) rfl ?_
        refine zS_ior (zdec eX10_late 44 rfl) ?_
        refine zS_istore_n (zdec eX10_late 45 rfl) rfl ?_
        refine zS_iinc (zdec eX10_late 46 rfl) rfl rfl ⟨by omega, by omega⟩ ?_
        refine zS_goto (tgt := 23) (zdec eX10_late 47 rfl) rfl ?_
        have k := ih (e + 1) (by omega) (by omega)
        rw [bitsI_s _ a1] at k
        have po : pDue p e = D (3 + e) 4 := by rw [← hp]; rfl
        rw [if_neg (by rw [decide_eq_false (by omega)]; decide)] at k
        rw [bits_or0 a1 (by omega)]
        exact k
      · refine zS_iconst (zdec eX10_late 39 rfl) rfl ?_
        refine zS_iload_n (zdec eX10_late 40 rfl) rfl ?_
        refine zS_ishl (zdec eX10_late 41 rfl) ?_
        refine zS_goto (tgt := 72) (zdec eX10_late 42 rfl) rfl ?_
        refine zS_ior (zdec eX10_late 44 rfl) ?_
        refine zS_istore_n (zdec eX10_late 45 rfl) rfl ?_
        refine zS_iinc (zdec eX10_late 46 rfl) rfl rfl ⟨by omega, by omega⟩ ?_
        refine zS_goto (tgt := 23) (zdec eX10_late 47 rfl) rfl ?_
        have k := ih (e + 1) (by omega) (by omega)
        rw [bitsI_s _ a1] at k
        have po : pDue p e = D (3 + e) 4 := by rw [← hp]; rfl
        rw [if_pos (decide_eq_true (by omega))] at k
        exact k
theorem q_late {d : Nat} {h : zH} {D : Dk} (hd : 200 ≤ d) (VD : DV D) (RD : DR h 0 D) : zMI d mX10_late [zA 108] h (fun r h' => r = a_late D ∧ Fr sQR h h') := by
  obtain ⟨p, hp⟩ : ∃ p, pb0 D = p := ⟨_, rfl⟩
  obtain ⟨q, hq⟩ : ∃ q, planP p = q := ⟨_, rfl⟩
  have pd : pDays p = D 0 1 := by rw [← hp]; rfl
  have pn : pNb p = D 0 8 := by rw [← hp]; rfl
  have dy := VD.days
  have nb := VD.nb
  have ns := VD.ns
  have nl := VD.nl
  have na := VD.na
  have vfl := VD.fl
  have vfe := VD.fee
  have hin : ∀ b, 0 ≤ b → b < pNb p → pIn p b = true := fun b _ _ => by rw [← hp]; rfl
  refine zmet rfl rfl rfl ?_
  refine zS_aload_n (zdec eX10_late 0 rfl) rfl rfl ?_
  refine zS_iconst (zdec eX10_late 1 rfl) rfl ?_
  refine zS_putfield (x := 0) (zdec eX10_late 2 rfl) kF_X10_71 (Or.inl kf10_0) ⟨by decide, rfl⟩ rfl rfl rfl (Or.inl (fun q => by cases q)) ?_
  obtain ⟨h0, E0⟩ : ∃ x, x = zset h 108 0 0 := ⟨_, rfl⟩
  rw [show zset h 108 0 (0 : Int) = h0 from E0.symm]
  have f0 : Fr sQR h h0 := by rw [E0]; exact Fr.rf.set (by omega)
  have RD0 : DR h0 0 D := RD.fr f0 (fun k j z => by omega)
  refine zS_aload_n (zdec eX10_late 3 rfl) rfl rfl ?_
  refine zvI (M' := mX10_isDesk) (As := []) (st := []) (zdec eX10_late 4 rfl) kM_X10_332 kV_X10_isDesk ⟨by decide, rfl⟩ rfl rfl rfl rfl rfl (by omega) (d_isDesk VD RD0) ?_
  refine zS_if_ne (tgt := 15) (zdec eX10_late 5 rfl) rfl (fun c1 => ?_) (fun c1 => ?_)
  · have z1 := d2i_n.mp c1
    refine zS_aload_n (zdec eX10_late 8 rfl) rfl rfl ?_
    have hd0 : 0 < D 0 0 := by first | omega
    refine zvMV (M' := mX10_laysNow) (As := []) (st := []) (zdec eX10_late 9 rfl) kM_X10_342 kV_X10_laysNow ⟨by decide, rfl⟩ rfl rfl rfl rfl rfl (by omega) (r_laysNow hp hq (by omega) VD hd0 RD0) (fun h2 ⟨⟨V, R, S, O, CA⟩, ⟨q0, q1⟩, g2, RD2⟩ => ?_)
    have f2 : Fr sQR h h2 := f0.tr g2 (fun k j z => z) (fun k j z => z)
    refine zS_iconst (zdec eX10_late 10 rfl) rfl ?_
    refine zS_istore_n (zdec eX10_late 11 rfl) rfl ?_
    refine zS_iconst (zdec eX10_late 12 rfl) rfl ?_
    refine zS_istore_n (zdec eX10_late 13 rfl) rfl ?_
    exact K_late (by omega) VD hp V R S q0 q1 RD2 f2 (by unfold a_late; rw [hp, hq, if_pos (by omega), pn]) (pNb p).toNat 0 (by omega) (by omega)
  · have z1 := d2i_0.mp c1
    refine zS_bipush (zdec eX10_late 6 rfl) rfl rfl ?_
    exact zlMI (zdec eX10_late 7 rfl) rfl ⟨by unfold a_late; (try rw [hp]); (try rw [hq]); first | rw [if_pos (by omega)] | rw [if_neg (by omega)], f0⟩
theorem K_saved {d : Nat} {h h2 : zH} {D : Dk} {p : Pb} {q : Int → Int} {A : Int} (hd : 150 ≤ d) (VD : DV D) (hp : pb0 D = p) (V : PV p) (R : WR h2 p) (S : PlR h2 p q) (q0 : ∀ b, 0 ≤ q b) (q1 : ∀ b, q b ≤ pDays p) (RD2 : DR h2 0 D) (f2 : Fr sQR h h2) (hA : A = sumI (fun b => if q b < pDays p ∧ q b ≤ pBy p b then gainP p b else 0) (pNb p)) : ∀ (n : Nat) (e : Int), 0 ≤ e → e + n = pNb p → zS mX10_saved (zr d) 23 [zA 108, zI (sumI (fun b => if q b < pDays p ∧ q b ≤ pBy p b then gainP p b else 0) e), zI e] [] TT h2 (zAnI (fun r h' => r = A ∧ Fr sQR h h')) := by
  intro n
  induction n with
  | zero =>
    intro e a1 a2
    have dy := V.days
    have nb := V.nb
    have ns := VD.ns
    have pd : pDays p = D 0 1 := by rw [← hp]; rfl
    have pn : pNb p = D 0 8 := by rw [← hp]; rfl
    have hin : ∀ b, 0 ≤ b → b < pNb p → pIn p b = true := fun b _ _ => by rw [← hp]; rfl
    refine zS_iload_n (zdec eX10_saved 14 rfl) rfl ?_
    refine zS_aload_n (zdec eX10_saved 15 rfl) rfl rfl ?_
    refine zvI (M' := mX10_bills) (As := []) (st := [zI e]) (zdec eX10_saved 16 rfl) kM_X10_236 kV_X10_bills ⟨by decide, rfl⟩ rfl rfl rfl rfl rfl (by omega) (r_bills R) ?_
    refine zS_icmp_ge (tgt := 57) (zdec eX10_saved 17 rfl) rfl (fun cz => ?_) (fun cz => absurd (by omega) cz)
    refine zS_iload_n (zdec eX10_saved 32 rfl) rfl ?_
    exact zlMI (zdec eX10_saved 33 rfl) rfl ⟨by rw [hA, show e = pNb p by omega], f2⟩
  | succ n ih =>
    intro e a1 a2
    have dy := V.days
    have nb := V.nb
    have ns := VD.ns
    have pd : pDays p = D 0 1 := by rw [← hp]; rfl
    have pn : pNb p = D 0 8 := by rw [← hp]; rfl
    have hin : ∀ b, 0 ≤ b → b < pNb p → pIn p b = true := fun b _ _ => by rw [← hp]; rfl
    have sb0 := sumI_nn (f := (fun b => if q b < pDays p ∧ q b ≤ pBy p b then gainP p b else 0)) (k := e) (fun j j0 j1 => by have := gainB V j0 (show j < pNb p by omega); split <;> omega)
    have sb1 := sumI_le (f := (fun b => if q b < pDays p ∧ q b ≤ pBy p b then gainP p b else 0)) (k := e) (B := 750) a1 (fun j j0 j1 => by have := gainB V j0 (show j < pNb p by omega); have := V.net j0 (show j < pNb p by omega); split <;> omega)
    have gb := gainB V a1 (show e < pNb p by omega)
    have nn := V.net a1 (show e < pNb p by omega)
    refine zS_iload_n (zdec eX10_saved 14 rfl) rfl ?_
    refine zS_aload_n (zdec eX10_saved 15 rfl) rfl rfl ?_
    refine zvI (M' := mX10_bills) (As := []) (st := [zI e]) (zdec eX10_saved 16 rfl) kM_X10_236 kV_X10_bills ⟨by decide, rfl⟩ rfl rfl rfl rfl rfl (by omega) (r_bills R) ?_
    refine zS_icmp_ge (tgt := 57) (zdec eX10_saved 17 rfl) rfl (fun cz => absurd cz (by omega)) (fun cz => ?_)
    refine zS_iload_n (zdec eX10_saved 18 rfl) rfl ?_
    refine zS_aload_n (zdec eX10_saved 19 rfl) rfl rfl ?_
    refine zS_iload_n (zdec eX10_saved 20 rfl) rfl ?_
    refine zvI (M' := mX10_isCaught) (As := [zI e]) (st := [zI (sumI (fun b => if q b < pDays p ∧ q b ≤ pBy p b then gainP p b else 0) e)]) (zdec eX10_saved 21 rfl) kM_X10_355 kV_X10_isCaught ⟨by decide, rfl⟩ rfl rfl rfl rfl rfl (by omega) (r_isCaught (by omega) V R S (by omega) (by omega)) ?_
    refine zS_if_eq (tgt := 48) (zdec eX10_saved 22 rfl) rfl (fun c1 => ?_) (fun c1 => ?_)
    · have z1 := d2i_0.mp c1
      refine zS_iconst (zdec eX10_saved 27 rfl) rfl ?_
      refine zS_iadd (zdec eX10_saved 28 rfl) ⟨by omega, by omega⟩ ?_
      refine zS_istore_n (zdec eX10_saved 29 rfl) rfl ?_
      refine zS_iinc (zdec eX10_saved 30 rfl) rfl rfl ⟨by omega, by omega⟩ ?_
      refine zS_goto (tgt := 23) (zdec eX10_saved 31 rfl) rfl ?_
      have k := ih (e + 1) (by omega) (by omega)
      rw [sumI_s _ a1, if_neg z1] at k
      exact k
    · have z1 := d2i_n.mp c1
      refine zS_aload_n (zdec eX10_saved 23 rfl) rfl rfl ?_
      refine zS_iload_n (zdec eX10_saved 24 rfl) rfl ?_
      refine zvI (M' := mX10_offOf) (As := [zI e]) (st := [zI (sumI (fun b => if q b < pDays p ∧ q b ≤ pBy p b then gainP p b else 0) e)]) (zdec eX10_saved 25 rfl) kM_X10_271 kV_X10_offOf ⟨by decide, rfl⟩ rfl rfl rfl rfl rfl (by omega) (r_offOf V R (by omega) (by omega)) ?_
      refine zS_goto (tgt := 49) (zdec eX10_saved 26 rfl) rfl ?_
      refine zS_iadd (zdec eX10_saved 28 rfl) ⟨by omega, by omega⟩ ?_
      refine zS_istore_n (zdec eX10_saved 29 rfl) rfl ?_
      refine zS_iinc (zdec eX10_saved 30 rfl) rfl rfl ⟨by omega, by omega⟩ ?_
      refine zS_goto (tgt := 23) (zdec eX10_saved 31 rfl) rfl ?_
      have k := ih (e + 1) (by omega) (by omega)
      rw [sumI_s _ a1, if_pos z1] at k
      exact k
theorem q_saved {d : Nat} {h : zH} {D : Dk} (hd : 200 ≤ d) (VD : DV D) (RD : DR h 0 D) : zMI d mX10_saved [zA 108] h (fun r h' => r = a_saved D ∧ Fr sQR h h') := by
  obtain ⟨p, hp⟩ : ∃ p, pb0 D = p := ⟨_, rfl⟩
  obtain ⟨q, hq⟩ : ∃ q, planP p = q := ⟨_, rfl⟩
  have pd : pDays p = D 0 1 := by rw [← hp]; rfl
  have pn : pNb p = D 0 8 := by rw [← hp]; rfl
  have dy := VD.days
  have nb := VD.nb
  have ns := VD.ns
  have nl := VD.nl
  have na := VD.na
  have vfl := VD.fl
  have vfe := VD.fee
  have hin : ∀ b, 0 ≤ b → b < pNb p → pIn p b = true := fun b _ _ => by rw [← hp]; rfl
  refine zmet rfl rfl rfl ?_
  refine zS_aload_n (zdec eX10_saved 0 rfl) rfl rfl ?_
  refine zS_iconst (zdec eX10_saved 1 rfl) rfl ?_
  refine zS_putfield (x := 0) (zdec eX10_saved 2 rfl) kF_X10_71 (Or.inl kf10_0) ⟨by decide, rfl⟩ rfl rfl rfl (Or.inl (fun q => by cases q)) ?_
  obtain ⟨h0, E0⟩ : ∃ x, x = zset h 108 0 0 := ⟨_, rfl⟩
  rw [show zset h 108 0 (0 : Int) = h0 from E0.symm]
  have f0 : Fr sQR h h0 := by rw [E0]; exact Fr.rf.set (by omega)
  have RD0 : DR h0 0 D := RD.fr f0 (fun k j z => by omega)
  refine zS_aload_n (zdec eX10_saved 3 rfl) rfl rfl ?_
  refine zvI (M' := mX10_isDesk) (As := []) (st := []) (zdec eX10_saved 4 rfl) kM_X10_332 kV_X10_isDesk ⟨by decide, rfl⟩ rfl rfl rfl rfl rfl (by omega) (d_isDesk VD RD0) ?_
  refine zS_if_ne (tgt := 15) (zdec eX10_saved 5 rfl) rfl (fun c1 => ?_) (fun c1 => ?_)
  · have z1 := d2i_n.mp c1
    refine zS_aload_n (zdec eX10_saved 8 rfl) rfl rfl ?_
    have hd0 : 0 < D 0 0 := by first | omega
    refine zvMV (M' := mX10_laysNow) (As := []) (st := []) (zdec eX10_saved 9 rfl) kM_X10_342 kV_X10_laysNow ⟨by decide, rfl⟩ rfl rfl rfl rfl rfl (by omega) (r_laysNow hp hq (by omega) VD hd0 RD0) (fun h2 ⟨⟨V, R, S, O, CA⟩, ⟨q0, q1⟩, g2, RD2⟩ => ?_)
    have f2 : Fr sQR h h2 := f0.tr g2 (fun k j z => z) (fun k j z => z)
    refine zS_iconst (zdec eX10_saved 10 rfl) rfl ?_
    refine zS_istore_n (zdec eX10_saved 11 rfl) rfl ?_
    refine zS_iconst (zdec eX10_saved 12 rfl) rfl ?_
    refine zS_istore_n (zdec eX10_saved 13 rfl) rfl ?_
    exact K_saved (by omega) VD hp V R S q0 q1 RD2 f2 (by unfold a_saved; rw [hp, hq, if_pos (by omega), pn]) (pNb p).toNat 0 (by omega) (by omega)
  · have z1 := d2i_0.mp c1
    refine zS_bipush (zdec eX10_saved 6 rfl) rfl rfl ?_
    exact zlMI (zdec eX10_saved 7 rfl) rfl ⟨by unfold a_saved; (try rw [hp]); (try rw [hq]); first | rw [if_pos (by omega)] | rw [if_neg (by omega)], f0⟩
theorem K_lost {d : Nat} {h h2 : zH} {D : Dk} {p : Pb} {q : Int → Int} {A : Int} (hd : 150 ≤ d) (VD : DV D) (hp : pb0 D = p) (V : PV p) (R : WR h2 p) (S : PlR h2 p q) (q0 : ∀ b, 0 ≤ q b) (q1 : ∀ b, q b ≤ pDays p) (RD2 : DR h2 0 D) (f2 : Fr sQR h h2) (hA : A = sumI (fun b => penP p b (q b)) (pNb p)) : ∀ (n : Nat) (e : Int), 0 ≤ e → e + n = pNb p → zS mX10_lost (zr d) 23 [zA 108, zI (sumI (fun b => penP p b (q b)) e), zI e] [] TT h2 (zAnI (fun r h' => r = A ∧ Fr sQR h h')) := by
  intro n
  induction n with
  | zero =>
    intro e a1 a2
    have dy := V.days
    have nb := V.nb
    have ns := VD.ns
    have pd : pDays p = D 0 1 := by rw [← hp]; rfl
    have pn : pNb p = D 0 8 := by rw [← hp]; rfl
    have hin : ∀ b, 0 ≤ b → b < pNb p → pIn p b = true := fun b _ _ => by rw [← hp]; rfl
    refine zS_iload_n (zdec eX10_lost 14 rfl) rfl ?_
    refine zS_aload_n (zdec eX10_lost 15 rfl) rfl rfl ?_
    refine zvI (M' := mX10_bills) (As := []) (st := [zI e]) (zdec eX10_lost 16 rfl) kM_X10_236 kV_X10_bills ⟨by decide, rfl⟩ rfl rfl rfl rfl rfl (by omega) (r_bills R) ?_
    refine zS_icmp_ge (tgt := 51) (zdec eX10_lost 17 rfl) rfl (fun cz => ?_) (fun cz => absurd (by omega) cz)
    refine zS_iload_n (zdec eX10_lost 30 rfl) rfl ?_
    exact zlMI (zdec eX10_lost 31 rfl) rfl ⟨by rw [hA, show e = pNb p by omega], f2⟩
  | succ n ih =>
    intro e a1 a2
    have dy := V.days
    have nb := V.nb
    have ns := VD.ns
    have pd : pDays p = D 0 1 := by rw [← hp]; rfl
    have pn : pNb p = D 0 8 := by rw [← hp]; rfl
    have hin : ∀ b, 0 ≤ b → b < pNb p → pIn p b = true := fun b _ _ => by rw [← hp]; rfl
    have qe0 := q0 e
    have qe1 := q1 e
    have sb0 := sumI_nn (f := (fun b => penP p b (q b))) (k := e) (fun j j0 j1 => (penB V j0 (show j < pNb p by omega) (show q j ≤ 7 by have := q1 j; omega)).1)
    have sb1 := sumI_le (f := (fun b => penP p b (q b))) (k := e) (B := 693) a1 (fun j j0 j1 => (penB V j0 (show j < pNb p by omega) (show q j ≤ 7 by have := q1 j; omega)).2)
    have gb := penB V a1 (show e < pNb p by omega) (show q e ≤ 7 by omega)
    refine zS_iload_n (zdec eX10_lost 14 rfl) rfl ?_
    refine zS_aload_n (zdec eX10_lost 15 rfl) rfl rfl ?_
    refine zvI (M' := mX10_bills) (As := []) (st := [zI e]) (zdec eX10_lost 16 rfl) kM_X10_236 kV_X10_bills ⟨by decide, rfl⟩ rfl rfl rfl rfl rfl (by omega) (r_bills R) ?_
    refine zS_icmp_ge (tgt := 51) (zdec eX10_lost 17 rfl) rfl (fun cz => absurd cz (by omega)) (fun cz => ?_)
    refine zS_iload_n (zdec eX10_lost 18 rfl) rfl ?_
    refine zS_aload_n (zdec eX10_lost 19 rfl) rfl rfl ?_
    refine zS_iload_n (zdec eX10_lost 20 rfl) rfl ?_
    refine zS_aload_n (zdec eX10_lost 21 rfl) rfl rfl ?_
    refine zS_getref (i := 69) (zdec eX10_lost 22 rfl) kF_X10_59 ⟨by decide, rfl⟩ rfl rfl rfl rfl rfl ?_
    refine zS_iload_n (zdec eX10_lost 23 rfl) rfl ?_
    refine zS_ialoadE (v := (q e)) (zdec eX10_lost 24 rfl) ⟨by decide, rfl⟩ (by omega) (by omega) (S e (by omega) (by omega)) ?_
    refine zvI (M' := mX10_lateOf) (As := [zI e, zI (q e)]) (st := [zI (sumI (fun b => penP p b (q b)) e)]) (zdec eX10_lost 25 rfl) kM_X10_274 kV_X10_lateOf ⟨by decide, rfl⟩ rfl rfl rfl rfl rfl (by omega) (r_lateOf (by omega) V R (by omega) (by omega) (by omega) (by omega)) ?_
    refine zS_iadd (zdec eX10_lost 26 rfl) ⟨by omega, by omega⟩ ?_
    refine zS_istore_n (zdec eX10_lost 27 rfl) rfl ?_
    refine zS_iinc (zdec eX10_lost 28 rfl) rfl rfl ⟨by omega, by omega⟩ ?_
    refine zS_goto (tgt := 23) (zdec eX10_lost 29 rfl) rfl ?_
    have k := ih (e + 1) (by omega) (by omega)
    rw [sumI_s _ a1] at k
    exact k
theorem q_lost {d : Nat} {h : zH} {D : Dk} (hd : 200 ≤ d) (VD : DV D) (RD : DR h 0 D) : zMI d mX10_lost [zA 108] h (fun r h' => r = a_lost D ∧ Fr sQR h h') := by
  obtain ⟨p, hp⟩ : ∃ p, pb0 D = p := ⟨_, rfl⟩
  obtain ⟨q, hq⟩ : ∃ q, planP p = q := ⟨_, rfl⟩
  have pd : pDays p = D 0 1 := by rw [← hp]; rfl
  have pn : pNb p = D 0 8 := by rw [← hp]; rfl
  have dy := VD.days
  have nb := VD.nb
  have ns := VD.ns
  have nl := VD.nl
  have na := VD.na
  have vfl := VD.fl
  have vfe := VD.fee
  have hin : ∀ b, 0 ≤ b → b < pNb p → pIn p b = true := fun b _ _ => by rw [← hp]; rfl
  refine zmet rfl rfl rfl ?_
  refine zS_aload_n (zdec eX10_lost 0 rfl) rfl rfl ?_
  refine zS_iconst (zdec eX10_lost 1 rfl) rfl ?_
  refine zS_putfield (x := 0) (zdec eX10_lost 2 rfl) kF_X10_71 (Or.inl kf10_0) ⟨by decide, rfl⟩ rfl rfl rfl (Or.inl (fun q => by cases q)) ?_
  obtain ⟨h0, E0⟩ : ∃ x, x = zset h 108 0 0 := ⟨_, rfl⟩
  rw [show zset h 108 0 (0 : Int) = h0 from E0.symm]
  have f0 : Fr sQR h h0 := by rw [E0]; exact Fr.rf.set (by omega)
  have RD0 : DR h0 0 D := RD.fr f0 (fun k j z => by omega)
  refine zS_aload_n (zdec eX10_lost 3 rfl) rfl rfl ?_
  refine zvI (M' := mX10_isDesk) (As := []) (st := []) (zdec eX10_lost 4 rfl) kM_X10_332 kV_X10_isDesk ⟨by decide, rfl⟩ rfl rfl rfl rfl rfl (by omega) (d_isDesk VD RD0) ?_
  refine zS_if_ne (tgt := 15) (zdec eX10_lost 5 rfl) rfl (fun c1 => ?_) (fun c1 => ?_)
  · have z1 := d2i_n.mp c1
    refine zS_aload_n (zdec eX10_lost 8 rfl) rfl rfl ?_
    have hd0 : 0 < D 0 0 := by first | omega
    refine zvMV (M' := mX10_laysNow) (As := []) (st := []) (zdec eX10_lost 9 rfl) kM_X10_342 kV_X10_laysNow ⟨by decide, rfl⟩ rfl rfl rfl rfl rfl (by omega) (r_laysNow hp hq (by omega) VD hd0 RD0) (fun h2 ⟨⟨V, R, S, O, CA⟩, ⟨q0, q1⟩, g2, RD2⟩ => ?_)
    have f2 : Fr sQR h h2 := f0.tr g2 (fun k j z => z) (fun k j z => z)
    refine zS_iconst (zdec eX10_lost 10 rfl) rfl ?_
    refine zS_istore_n (zdec eX10_lost 11 rfl) rfl ?_
    refine zS_iconst (zdec eX10_lost 12 rfl) rfl ?_
    refine zS_istore_n (zdec eX10_lost 13 rfl) rfl ?_
    exact K_lost (by omega) VD hp V R S q0 q1 RD2 f2 (by unfold a_lost; rw [hp, hq, if_pos (by omega), pn]) (pNb p).toNat 0 (by omega) (by omega)
  · have z1 := d2i_0.mp c1
    refine zS_bipush (zdec eX10_lost 6 rfl) rfl rfl ?_
    exact zlMI (zdec eX10_lost 7 rfl) rfl ⟨by unfold a_lost; (try rw [hp]); (try rw [hq]); first | rw [if_pos (by omega)] | rw [if_neg (by omega)], f0⟩
theorem mxI_v {f : Int → Int} {m : Int} : ∀ k : Int, 0 ≤ k → ((mxI f m k).1 = -1 ∧ (mxI f m k).2 = m) ∨ ((0 ≤ (mxI f m k).1 ∧ (mxI f m k).1 < k) ∧ (mxI f m k).2 = f (mxI f m k).1) := by
  refine up_ind (Or.inl ⟨rfl, rfl⟩) (fun j hj ih => ?_)
  rw [mxI_s _ _ hj]
  split
  · exact Or.inr ⟨⟨hj, by show j < j + 1; omega⟩, rfl⟩
  · rcases ih with z | z
    · exact Or.inl z
    · exact Or.inr ⟨⟨z.1.1, by omega⟩, z.2⟩
theorem K_dear {d : Nat} {h h2 : zH} {D : Dk} {p : Pb} {q : Int → Int} {A : Int} (hd : 150 ≤ d) (VD : DV D) (hp : pb0 D = p) (V : PV p) (R : WR h2 p) (S : PlR h2 p q) (q0 : ∀ b, 0 ≤ q b) (q1 : ∀ b, q b ≤ pDays p) (RD2 : DR h2 0 D) (f2 : Fr sQR h h2) (hA : A = (mxI (toP p q) (-1) (D 0 7)).1) : ∀ (n : Nat) (e : Int), 0 ≤ e → e + n = D 0 7 → zS mX10_dear (zr d) 23 [zA 108, zI ((mxI (toP p q) (-1) e).1), zI e] [] TT h2 (zAnI (fun r h' => r = A ∧ Fr sQR h h')) := by
  intro n
  induction n with
  | zero =>
    intro e a1 a2
    have dy := V.days
    have nb := V.nb
    have ns := VD.ns
    have pd : pDays p = D 0 1 := by rw [← hp]; rfl
    have pn : pNb p = D 0 8 := by rw [← hp]; rfl
    have hin : ∀ b, 0 ≤ b → b < pNb p → pIn p b = true := fun b _ _ => by rw [← hp]; rfl
    refine zS_iload_n (zdec eX10_dear 14 rfl) rfl ?_
    refine zS_aload_n (zdec eX10_dear 15 rfl) rfl rfl ?_
    refine zS_getref (i := 61) (zdec eX10_dear 16 rfl) kF_X10_34 ⟨by decide, rfl⟩ rfl rfl rfl rfl rfl ?_
    refine zS_bipush (zdec eX10_dear 17 rfl) rfl rfl ?_
    refine zS_ialoadE (v := (D 0 7)) (zdec eX10_dear 18 rfl) ⟨by decide, rfl⟩ (by decide) (by decide) (RD2.s (by decide) (by decide) (by decide)) ?_
    refine zS_icmp_ge (tgt := 60) (zdec eX10_dear 19 rfl) rfl (fun cz => ?_) (fun cz => absurd (by omega) cz)
    refine zS_iload_n (zdec eX10_dear 34 rfl) rfl ?_
    exact zlMI (zdec eX10_dear 35 rfl) rfl ⟨by rw [hA, show e = D 0 7 by omega], f2⟩
  | succ n ih =>
    intro e a1 a2
    have dy := V.days
    have nb := V.nb
    have ns := VD.ns
    have pd : pDays p = D 0 1 := by rw [← hp]; rfl
    have pn : pNb p = D 0 8 := by rw [← hp]; rfl
    have hin : ∀ b, 0 ≤ b → b < pNb p → pIn p b = true := fun b _ _ => by rw [← hp]; rfl
    have mv := mxI_v (f := (toP p q)) (m := -1) e a1
    have tb := toB V (q := q) (fun b => by have := q1 b; omega) e (k := pNb p) nb.1 (by omega)
    have td : toP p q e = sumI (fun b => if pOf p b = e ∧ q b < pDays p then priceP p b (q b) else 0) (pNb p) := rfl
    refine zS_iload_n (zdec eX10_dear 14 rfl) rfl ?_
    refine zS_aload_n (zdec eX10_dear 15 rfl) rfl rfl ?_
    refine zS_getref (i := 61) (zdec eX10_dear 16 rfl) kF_X10_34 ⟨by decide, rfl⟩ rfl rfl rfl rfl rfl ?_
    refine zS_bipush (zdec eX10_dear 17 rfl) rfl rfl ?_
    refine zS_ialoadE (v := (D 0 7)) (zdec eX10_dear 18 rfl) ⟨by decide, rfl⟩ (by decide) (by decide) (RD2.s (by decide) (by decide) (by decide)) ?_
    refine zS_icmp_ge (tgt := 60) (zdec eX10_dear 19 rfl) rfl (fun cz => absurd cz (by omega)) (fun cz => ?_)
    refine zS_iload_n (zdec eX10_dear 20 rfl) rfl ?_
    refine zS_iconst (zdec eX10_dear 21 rfl) rfl ?_
    refine zS_icmp_eq (tgt := 52) (zdec eX10_dear 22 rfl) rfl (fun c1 => ?_) (fun c1 => ?_)
    · refine zS_iload_n (zdec eX10_dear 30 rfl) rfl ?_
      refine zS_istore_n (zdec eX10_dear 31 rfl) rfl ?_
      refine zS_iinc (zdec eX10_dear 32 rfl) rfl rfl ⟨by omega, by omega⟩ ?_
      refine zS_goto (tgt := 23) (zdec eX10_dear 33 rfl) rfl ?_
      have k := ih (e + 1) (by omega) (by omega)
      rw [mxI_s _ _ a1] at k
      rw [if_pos (by rcases mv with z | z <;> omega)] at k
      exact k
    · refine zS_aload_n (zdec eX10_dear 23 rfl) rfl rfl ?_
      refine zS_iload_n (zdec eX10_dear 24 rfl) rfl ?_
      refine zvI (M' := mX10_paidTo) (As := [zI e]) (st := []) (zdec eX10_dear 25 rfl) kM_X10_361 kV_X10_paidTo ⟨by decide, rfl⟩ rfl rfl rfl rfl rfl (by omega) (r_paidTo (by omega) V R S q0 q1) ?_
      refine zS_aload_n (zdec eX10_dear 26 rfl) rfl rfl ?_
      refine zS_iload_n (zdec eX10_dear 27 rfl) rfl ?_
      refine zvI (M' := mX10_paidTo) (As := [zI ((mxI (toP p q) (-1) e).1)]) (st := [zI (toP p q e)]) (zdec eX10_dear 28 rfl) kM_X10_361 kV_X10_paidTo ⟨by decide, rfl⟩ rfl rfl rfl rfl rfl (by omega) (r_paidTo (by omega) V R S q0 q1) ?_
      refine zS_icmp_le (tgt := 54) (zdec eX10_dear 29 rfl) rfl (fun c2 => ?_) (fun c2 => ?_)
      · refine zS_iinc (zdec eX10_dear 32 rfl) rfl rfl ⟨by omega, by omega⟩ ?_
        refine zS_goto (tgt := 23) (zdec eX10_dear 33 rfl) rfl ?_
        have k := ih (e + 1) (by omega) (by omega)
        rw [mxI_s _ _ a1] at k
        rw [if_neg (by rcases mv with z | z <;> omega)] at k
        exact k
      · refine zS_iload_n (zdec eX10_dear 30 rfl) rfl ?_
        refine zS_istore_n (zdec eX10_dear 31 rfl) rfl ?_
        refine zS_iinc (zdec eX10_dear 32 rfl) rfl rfl ⟨by omega, by omega⟩ ?_
        refine zS_goto (tgt := 23) (zdec eX10_dear 33 rfl) rfl ?_
        have k := ih (e + 1) (by omega) (by omega)
        rw [mxI_s _ _ a1] at k
        rw [if_pos (by rcases mv with z | z <;> omega)] at k
        exact k
theorem q_dear {d : Nat} {h : zH} {D : Dk} (hd : 200 ≤ d) (VD : DV D) (RD : DR h 0 D) : zMI d mX10_dear [zA 108] h (fun r h' => r = a_dear D ∧ Fr sQR h h') := by
  obtain ⟨p, hp⟩ : ∃ p, pb0 D = p := ⟨_, rfl⟩
  obtain ⟨q, hq⟩ : ∃ q, planP p = q := ⟨_, rfl⟩
  have pd : pDays p = D 0 1 := by rw [← hp]; rfl
  have pn : pNb p = D 0 8 := by rw [← hp]; rfl
  have dy := VD.days
  have nb := VD.nb
  have ns := VD.ns
  have nl := VD.nl
  have na := VD.na
  have vfl := VD.fl
  have vfe := VD.fee
  have hin : ∀ b, 0 ≤ b → b < pNb p → pIn p b = true := fun b _ _ => by rw [← hp]; rfl
  refine zmet rfl rfl rfl ?_
  refine zS_aload_n (zdec eX10_dear 0 rfl) rfl rfl ?_
  refine zS_iconst (zdec eX10_dear 1 rfl) rfl ?_
  refine zS_putfield (x := 0) (zdec eX10_dear 2 rfl) kF_X10_71 (Or.inl kf10_0) ⟨by decide, rfl⟩ rfl rfl rfl (Or.inl (fun q => by cases q)) ?_
  obtain ⟨h0, E0⟩ : ∃ x, x = zset h 108 0 0 := ⟨_, rfl⟩
  rw [show zset h 108 0 (0 : Int) = h0 from E0.symm]
  have f0 : Fr sQR h h0 := by rw [E0]; exact Fr.rf.set (by omega)
  have RD0 : DR h0 0 D := RD.fr f0 (fun k j z => by omega)
  refine zS_aload_n (zdec eX10_dear 3 rfl) rfl rfl ?_
  refine zvI (M' := mX10_isDesk) (As := []) (st := []) (zdec eX10_dear 4 rfl) kM_X10_332 kV_X10_isDesk ⟨by decide, rfl⟩ rfl rfl rfl rfl rfl (by omega) (d_isDesk VD RD0) ?_
  refine zS_if_ne (tgt := 15) (zdec eX10_dear 5 rfl) rfl (fun c1 => ?_) (fun c1 => ?_)
  · have z1 := d2i_n.mp c1
    refine zS_aload_n (zdec eX10_dear 8 rfl) rfl rfl ?_
    have hd0 : 0 < D 0 0 := by first | omega
    refine zvMV (M' := mX10_laysNow) (As := []) (st := []) (zdec eX10_dear 9 rfl) kM_X10_342 kV_X10_laysNow ⟨by decide, rfl⟩ rfl rfl rfl rfl rfl (by omega) (r_laysNow hp hq (by omega) VD hd0 RD0) (fun h2 ⟨⟨V, R, S, O, CA⟩, ⟨q0, q1⟩, g2, RD2⟩ => ?_)
    have f2 : Fr sQR h h2 := f0.tr g2 (fun k j z => z) (fun k j z => z)
    refine zS_iconst (zdec eX10_dear 10 rfl) rfl ?_
    refine zS_istore_n (zdec eX10_dear 11 rfl) rfl ?_
    refine zS_iconst (zdec eX10_dear 12 rfl) rfl ?_
    refine zS_istore_n (zdec eX10_dear 13 rfl) rfl ?_
    exact K_dear (by omega) VD hp V R S q0 q1 RD2 f2 (by unfold a_dear; rw [hp, hq, if_pos (by omega)]) (D 0 7).toNat 0 (by omega) (by omega)
  · have z1 := d2i_0.mp c1
    refine zS_bipush (zdec eX10_dear 6 rfl) rfl rfl ?_
    exact zlMI (zdec eX10_dear 7 rfl) rfl ⟨by unfold a_dear; (try rw [hp]); (try rw [hq]); first | rw [if_pos (by omega)] | rw [if_neg (by omega)], f0⟩
theorem bits_32 {p : Pb} {q : Int → Int} (V : PV p) (x : Int) : 0 ≤ bitsI (onP p q x) (pNb p) ∧ bitsI (onP p q x) (pNb p) < 32 := (bitsI_is (f := onP p q x) (k := pNb p) V.nb.1 V.nb.2).1
theorem K_busy {d : Nat} {h h2 : zH} {D : Dk} {p : Pb} {q : Int → Int} {A : Int} (hd : 150 ≤ d) (VD : DV D) (hp : pb0 D = p) (V : PV p) (R : WR h2 p) (S : PlR h2 p q) (q0 : ∀ b, 0 ≤ q b) (q1 : ∀ b, q b ≤ pDays p) (RD2 : DR h2 0 D) (f2 : Fr sQR h h2) (hA : A = (mxI (fun d => cnt5 (bitsI (onP p q d) (pNb p))) 0 (pDays p)).1) : ∀ (n : Nat) (e : Int), 0 ≤ e → e + n = pDays p → zS mX10_busy (zr d) 23 [zA 108, zI ((mxI (fun d => cnt5 (bitsI (onP p q d) (pNb p))) 0 e).1), zI e] [] TT h2 (zAnI (fun r h' => r = A ∧ Fr sQR h h')) := by
  intro n
  induction n with
  | zero =>
    intro e a1 a2
    have dy := V.days
    have nb := V.nb
    have ns := VD.ns
    have pd : pDays p = D 0 1 := by rw [← hp]; rfl
    have pn : pNb p = D 0 8 := by rw [← hp]; rfl
    have hin : ∀ b, 0 ≤ b → b < pNb p → pIn p b = true := fun b _ _ => by rw [← hp]; rfl
    refine zS_iload_n (zdec eX10_busy 14 rfl) rfl ?_
    refine zS_aload_n (zdec eX10_busy 15 rfl) rfl rfl ?_
    refine zvI (M' := mX10_days) (As := []) (st := [zI e]) (zdec eX10_busy 16 rfl) kM_X10_240 kV_X10_days ⟨by decide, rfl⟩ rfl rfl rfl rfl rfl (by omega) (r_days R) ?_
    refine zS_icmp_ge (tgt := 67) (zdec eX10_busy 17 rfl) rfl (fun cz => ?_) (fun cz => absurd (by omega) cz)
    refine zS_iload_n (zdec eX10_busy 36 rfl) rfl ?_
    exact zlMI (zdec eX10_busy 37 rfl) rfl ⟨by rw [hA, show e = pDays p by omega], f2⟩
  | succ n ih =>
    intro e a1 a2
    have dy := V.days
    have nb := V.nb
    have ns := VD.ns
    have pd : pDays p = D 0 1 := by rw [← hp]; rfl
    have pn : pNb p = D 0 8 := by rw [← hp]; rfl
    have hin : ∀ b, 0 ≤ b → b < pNb p → pIn p b = true := fun b _ _ => by rw [← hp]; rfl
    have mv := mxI_v (f := (fun d => cnt5 (bitsI (onP p q d) (pNb p)))) (m := 0) e a1
    refine zS_iload_n (zdec eX10_busy 14 rfl) rfl ?_
    refine zS_aload_n (zdec eX10_busy 15 rfl) rfl rfl ?_
    refine zvI (M' := mX10_days) (As := []) (st := [zI e]) (zdec eX10_busy 16 rfl) kM_X10_240 kV_X10_days ⟨by decide, rfl⟩ rfl rfl rfl rfl rfl (by omega) (r_days R) ?_
    refine zS_icmp_ge (tgt := 67) (zdec eX10_busy 17 rfl) rfl (fun cz => absurd cz (by omega)) (fun cz => ?_)
    refine zS_aload_n (zdec eX10_busy 18 rfl) rfl rfl ?_
    refine zS_iload_n (zdec eX10_busy 19 rfl) rfl ?_
    refine zvI (M' := mX10_fileOn) (As := [zI e]) (st := []) (zdec eX10_busy 20 rfl) kM_X10_348 kV_X10_fileOn ⟨by decide, rfl⟩ rfl rfl rfl rfl rfl (by omega) (r_fileOn (by omega) V R S hin) ?_
    refine zsI (M' := mX10_sizeOf) (As := [zI (bitsI (onP p q e) (pNb p))]) (st := []) (zdec eX10_busy 21 rfl) kM_X10_364 kS_X10_sizeOf rfl rfl rfl (by omega) (show zPI (d - 1) mX10_sizeOf [zI (bitsI (onP p q e) (pNb p))] h2 (cnt5 (bitsI (onP p q e) (pNb p))) from by rw [← ct_cnt5 (bits_32 V e).1 (bits_32 V e).2]; exact r_sizeOf (bits_32 V e).1 (by have := (bits_32 V (q := q) e).2; omega)) ?_
    refine zS_iload_n (zdec eX10_busy 22 rfl) rfl ?_
    refine zS_iconst (zdec eX10_busy 23 rfl) rfl ?_
    refine zS_icmp_ne (tgt := 48) (zdec eX10_busy 24 rfl) rfl (fun c1 => ?_) (fun c1 => ?_)
    · refine zS_aload_n (zdec eX10_busy 27 rfl) rfl rfl ?_
      refine zS_iload_n (zdec eX10_busy 28 rfl) rfl ?_
      refine zvI (M' := mX10_fileOn) (As := [zI ((mxI (fun d => cnt5 (bitsI (onP p q d) (pNb p))) 0 e).1)]) (st := [zI (cnt5 (bitsI (onP p q e) (pNb p)))]) (zdec eX10_busy 29 rfl) kM_X10_348 kV_X10_fileOn ⟨by decide, rfl⟩ rfl rfl rfl rfl rfl (by omega) (r_fileOn (by omega) V R S hin) ?_
      refine zsI (M' := mX10_sizeOf) (As := [zI (bitsI (onP p q ((mxI (fun d => cnt5 (bitsI (onP p q d) (pNb p))) 0 e).1)) (pNb p))]) (st := [zI (cnt5 (bitsI (onP p q e) (pNb p)))]) (zdec eX10_busy 30 rfl) kM_X10_364 kS_X10_sizeOf rfl rfl rfl (by omega) (show zPI (d - 1) mX10_sizeOf [zI (bitsI (onP p q (mxI (fun d => cnt5 (bitsI (onP p q d) (pNb p))) 0 e).1) (pNb p))] h2 (cnt5 (bitsI (onP p q (mxI (fun d => cnt5 (bitsI (onP p q d) (pNb p))) 0 e).1) (pNb p))) from by rw [← ct_cnt5 (bits_32 V (mxI (fun d => cnt5 (bitsI (onP p q d) (pNb p))) 0 e).1).1 (bits_32 V (mxI (fun d => cnt5 (bitsI (onP p q d) (pNb p))) 0 e).1).2]; exact r_sizeOf (bits_32 V (mxI (fun d => cnt5 (bitsI (onP p q d) (pNb p))) 0 e).1).1 (by have := (bits_32 V (q := q) (mxI (fun d => cnt5 (bitsI (onP p q d) (pNb p))) 0 e).1).2; omega)) ?_
      refine zS_icmp_le (tgt := 61) (zdec eX10_busy 31 rfl) rfl (fun c2 => ?_) (fun c2 => ?_)
      · refine zS_iinc (zdec eX10_busy 34 rfl) rfl rfl ⟨by omega, by omega⟩ ?_
        refine zS_goto (tgt := 23) (zdec eX10_busy 35 rfl) rfl ?_
        have k := ih (e + 1) (by omega) (by omega)
        rw [mxI_s _ _ a1] at k
        rw [if_neg (by rcases mv with z | z <;> omega)] at k
        exact k
      · refine zS_iload_n (zdec eX10_busy 32 rfl) rfl ?_
        refine zS_istore_n (zdec eX10_busy 33 rfl) rfl ?_
        refine zS_iinc (zdec eX10_busy 34 rfl) rfl rfl ⟨by omega, by omega⟩ ?_
        refine zS_goto (tgt := 23) (zdec eX10_busy 35 rfl) rfl ?_
        have k := ih (e + 1) (by omega) (by omega)
        rw [mxI_s _ _ a1] at k
        rw [if_pos (by rcases mv with z | z <;> omega)] at k
        exact k
    · refine zS_iconst (zdec eX10_busy 25 rfl) rfl ?_
      refine zS_goto (tgt := 56) (zdec eX10_busy 26 rfl) rfl ?_
      refine zS_icmp_le (tgt := 61) (zdec eX10_busy 31 rfl) rfl (fun c2 => ?_) (fun c2 => ?_)
      · refine zS_iinc (zdec eX10_busy 34 rfl) rfl rfl ⟨by omega, by omega⟩ ?_
        refine zS_goto (tgt := 23) (zdec eX10_busy 35 rfl) rfl ?_
        have k := ih (e + 1) (by omega) (by omega)
        rw [mxI_s _ _ a1] at k
        rw [if_neg (by rcases mv with z | z <;> omega)] at k
        exact k
      · refine zS_iload_n (zdec eX10_busy 32 rfl) rfl ?_
        refine zS_istore_n (zdec eX10_busy 33 rfl) rfl ?_
        refine zS_iinc (zdec eX10_busy 34 rfl) rfl rfl ⟨by omega, by omega⟩ ?_
        refine zS_goto (tgt := 23) (zdec eX10_busy 35 rfl) rfl ?_
        have k := ih (e + 1) (by omega) (by omega)
        rw [mxI_s _ _ a1] at k
        rw [if_pos (by rcases mv with z | z <;> omega)] at k
        exact k
theorem q_busy {d : Nat} {h : zH} {D : Dk} (hd : 200 ≤ d) (VD : DV D) (RD : DR h 0 D) : zMI d mX10_busy [zA 108] h (fun r h' => r = a_busy D ∧ Fr sQR h h') := by
  obtain ⟨p, hp⟩ : ∃ p, pb0 D = p := ⟨_, rfl⟩
  obtain ⟨q, hq⟩ : ∃ q, planP p = q := ⟨_, rfl⟩
  have pd : pDays p = D 0 1 := by rw [← hp]; rfl
  have pn : pNb p = D 0 8 := by rw [← hp]; rfl
  have dy := VD.days
  have nb := VD.nb
  have ns := VD.ns
  have nl := VD.nl
  have na := VD.na
  have vfl := VD.fl
  have vfe := VD.fee
  have hin : ∀ b, 0 ≤ b → b < pNb p → pIn p b = true := fun b _ _ => by rw [← hp]; rfl
  refine zmet rfl rfl rfl ?_
  refine zS_aload_n (zdec eX10_busy 0 rfl) rfl rfl ?_
  refine zS_iconst (zdec eX10_busy 1 rfl) rfl ?_
  refine zS_putfield (x := 0) (zdec eX10_busy 2 rfl) kF_X10_71 (Or.inl kf10_0) ⟨by decide, rfl⟩ rfl rfl rfl (Or.inl (fun q => by cases q)) ?_
  obtain ⟨h0, E0⟩ : ∃ x, x = zset h 108 0 0 := ⟨_, rfl⟩
  rw [show zset h 108 0 (0 : Int) = h0 from E0.symm]
  have f0 : Fr sQR h h0 := by rw [E0]; exact Fr.rf.set (by omega)
  have RD0 : DR h0 0 D := RD.fr f0 (fun k j z => by omega)
  refine zS_aload_n (zdec eX10_busy 3 rfl) rfl rfl ?_
  refine zvI (M' := mX10_isDesk) (As := []) (st := []) (zdec eX10_busy 4 rfl) kM_X10_332 kV_X10_isDesk ⟨by decide, rfl⟩ rfl rfl rfl rfl rfl (by omega) (d_isDesk VD RD0) ?_
  refine zS_if_ne (tgt := 15) (zdec eX10_busy 5 rfl) rfl (fun c1 => ?_) (fun c1 => ?_)
  · have z1 := d2i_n.mp c1
    refine zS_aload_n (zdec eX10_busy 8 rfl) rfl rfl ?_
    have hd0 : 0 < D 0 0 := by first | omega
    refine zvMV (M' := mX10_laysNow) (As := []) (st := []) (zdec eX10_busy 9 rfl) kM_X10_342 kV_X10_laysNow ⟨by decide, rfl⟩ rfl rfl rfl rfl rfl (by omega) (r_laysNow hp hq (by omega) VD hd0 RD0) (fun h2 ⟨⟨V, R, S, O, CA⟩, ⟨q0, q1⟩, g2, RD2⟩ => ?_)
    have f2 : Fr sQR h h2 := f0.tr g2 (fun k j z => z) (fun k j z => z)
    refine zS_iconst (zdec eX10_busy 10 rfl) rfl ?_
    refine zS_istore_n (zdec eX10_busy 11 rfl) rfl ?_
    refine zS_iconst (zdec eX10_busy 12 rfl) rfl ?_
    refine zS_istore_n (zdec eX10_busy 13 rfl) rfl ?_
    exact K_busy (by omega) VD hp V R S q0 q1 RD2 f2 (by unfold a_busy; rw [hp, hq, if_pos (by omega), pd]) (pDays p).toNat 0 (by omega) (by omega)
  · have z1 := d2i_0.mp c1
    refine zS_bipush (zdec eX10_busy 6 rfl) rfl rfl ?_
    exact zlMI (zdec eX10_busy 7 rfl) rfl ⟨by unfold a_busy; (try rw [hp]); (try rw [hq]); first | rw [if_pos (by omega)] | rw [if_neg (by omega)], f0⟩
theorem K_comes {d : Nat} {h h0 : zH} {D : Dk} {x : Int} (VD : DV D) (RD0 : DR h0 0 D) (f0 : Fr sQR h h0) : ∀ (n : Nat) (e : Int), 0 ≤ e → e + n = D 0 9 → zS mX10_comes (zr d) 20 [zA 108, zI x, zI (sumI (fun i => if D 9 i = x then D 8 i else 0) e), zI e] [] TT h0 (zAnI (fun r h' => r = comD D x ∧ Fr sQR h h')) := by
  intro n
  induction n with
  | zero =>
    intro e a1 a2
    refine zS_iload_n (zdec eX10_comes 13 rfl) rfl ?_
    refine zS_aload_n (zdec eX10_comes 14 rfl) rfl rfl ?_
    refine zS_getref (i := 61) (zdec eX10_comes 15 rfl) kF_X10_34 ⟨by decide, rfl⟩ rfl rfl rfl rfl rfl ?_
    refine zS_bipush (zdec eX10_comes 16 rfl) rfl rfl ?_
    refine zS_ialoadE (v := (D 0 9)) (zdec eX10_comes 17 rfl) ⟨by decide, rfl⟩ (by decide) (by decide) (RD0.s (by decide) (by decide) (by decide)) ?_
    refine zS_icmp_ge (tgt := 66) (zdec eX10_comes 18 rfl) rfl (fun cz => ?_) (fun cz => absurd (by omega) cz)
    refine zS_iload_n (zdec eX10_comes 42 rfl) rfl ?_
    exact zlMI (zdec eX10_comes 43 rfl) rfl ⟨by rw [show e = D 0 9 by omega]; rfl, f0⟩
  | succ n ih =>
    intro e a1 a2
    have nl := VD.nl
    have lx := VD.ln a1 (show e < D 0 9 by omega)
    have s0 := sumI_nn (f := (fun i => if D 9 i = x then D 8 i else 0)) (k := e) (fun j j0 j1 => by have := VD.ln j0 (show j < D 0 9 by omega); split <;> omega)
    have s1 := sumI_le (f := (fun i => if D 9 i = x then D 8 i else 0)) (k := e) (B := 3000) a1 (fun j j0 j1 => by have := VD.ln j0 (show j < D 0 9 by omega); split <;> omega)
    refine zS_iload_n (zdec eX10_comes 13 rfl) rfl ?_
    refine zS_aload_n (zdec eX10_comes 14 rfl) rfl rfl ?_
    refine zS_getref (i := 61) (zdec eX10_comes 15 rfl) kF_X10_34 ⟨by decide, rfl⟩ rfl rfl rfl rfl rfl ?_
    refine zS_bipush (zdec eX10_comes 16 rfl) rfl rfl ?_
    refine zS_ialoadE (v := (D 0 9)) (zdec eX10_comes 17 rfl) ⟨by decide, rfl⟩ (by decide) (by decide) (RD0.s (by decide) (by decide) (by decide)) ?_
    refine zS_icmp_ge (tgt := 66) (zdec eX10_comes 18 rfl) rfl (fun cz => absurd cz (by omega)) (fun cz => ?_)
    refine zS_iload_n (zdec eX10_comes 19 rfl) rfl ?_
    refine zS_aload_n (zdec eX10_comes 20 rfl) rfl rfl ?_
    refine zS_getref (i := 64) (zdec eX10_comes 21 rfl) kF_X10_43 ⟨by decide, rfl⟩ rfl rfl rfl rfl rfl ?_
    refine zS_iconst (zdec eX10_comes 22 rfl) rfl ?_
    refine zS_iload_n (zdec eX10_comes 23 rfl) rfl ?_
    refine zS_imul (zdec eX10_comes 24 rfl) ⟨by omega, by omega⟩ ?_
    refine zS_iconst (zdec eX10_comes 25 rfl) rfl ?_
    refine zS_iadd (zdec eX10_comes 26 rfl) ⟨by omega, by omega⟩ ?_
    refine zS_ialoadE (v := (D 9 e)) (zdec eX10_comes 27 rfl) ⟨by decide, rfl⟩ (by omega) (by omega) (RD0.on' (by omega) (by omega) (by omega)) ?_
    refine zS_iload_n (zdec eX10_comes 28 rfl) rfl ?_
    refine zS_icmp_ne (tgt := 57) (zdec eX10_comes 29 rfl) rfl (fun c1 => ?_) (fun c1 => ?_)
    · refine zS_iconst (zdec eX10_comes 37 rfl) rfl ?_
      refine zS_iadd (zdec eX10_comes 38 rfl) ⟨by omega, by omega⟩ ?_
      refine zS_istore_n (zdec eX10_comes 39 rfl) rfl ?_
      refine zS_iinc (zdec eX10_comes 40 rfl) rfl rfl ⟨by omega, by omega⟩ ?_
      refine zS_goto (tgt := 20) (zdec eX10_comes 41 rfl) rfl ?_
      have k := ih (e + 1) (by omega) (by omega)
      rw [sumI_s _ a1, if_neg c1] at k
      exact k
    · refine zS_aload_n (zdec eX10_comes 30 rfl) rfl rfl ?_
      refine zS_getref (i := 64) (zdec eX10_comes 31 rfl) kF_X10_43 ⟨by decide, rfl⟩ rfl rfl rfl rfl rfl ?_
      refine zS_iconst (zdec eX10_comes 32 rfl) rfl ?_
      refine zS_iload_n (zdec eX10_comes 33 rfl) rfl ?_
      refine zS_imul (zdec eX10_comes 34 rfl) ⟨by omega, by omega⟩ ?_
      refine zS_ialoadE (v := (D 8 e)) (zdec eX10_comes 35 rfl) ⟨by decide, rfl⟩ (by omega) (by omega) (RD0.amt (by omega) (by omega) (by omega)) ?_
      refine zS_goto (tgt := 58) (zdec eX10_comes 36 rfl) rfl ?_
      refine zS_iadd (zdec eX10_comes 38 rfl) ⟨by omega, by omega⟩ ?_
      refine zS_istore_n (zdec eX10_comes 39 rfl) rfl ?_
      refine zS_iinc (zdec eX10_comes 40 rfl) rfl rfl ⟨by omega, by omega⟩ ?_
      refine zS_goto (tgt := 20) (zdec eX10_comes 41 rfl) rfl ?_
      have k := ih (e + 1) (by omega) (by omega)
      rw [sumI_s _ a1, if_pos c1] at k
      exact k
theorem q_comes {d : Nat} {h : zH} {D : Dk} {x : Int} (hd : 200 ≤ d) (VD : DV D) (RD : DR h 0 D) : zMI d mX10_comes [zA 108, zI x] h (fun r h' => r = a_comes D x ∧ Fr sQR h h') := by
  obtain ⟨p, hp⟩ : ∃ p, pb0 D = p := ⟨_, rfl⟩
  obtain ⟨q, hq⟩ : ∃ q, planP p = q := ⟨_, rfl⟩
  have pd : pDays p = D 0 1 := by rw [← hp]; rfl
  have pn : pNb p = D 0 8 := by rw [← hp]; rfl
  have dy := VD.days
  have nb := VD.nb
  have ns := VD.ns
  have nl := VD.nl
  have na := VD.na
  have vfl := VD.fl
  have vfe := VD.fee
  have hin : ∀ b, 0 ≤ b → b < pNb p → pIn p b = true := fun b _ _ => by rw [← hp]; rfl
  refine zmet rfl rfl rfl ?_
  refine zS_aload_n (zdec eX10_comes 0 rfl) rfl rfl ?_
  refine zS_iconst (zdec eX10_comes 1 rfl) rfl ?_
  refine zS_putfield (x := 0) (zdec eX10_comes 2 rfl) kF_X10_71 (Or.inl kf10_0) ⟨by decide, rfl⟩ rfl rfl rfl (Or.inl (fun q => by cases q)) ?_
  obtain ⟨h0, E0⟩ : ∃ x, x = zset h 108 0 0 := ⟨_, rfl⟩
  rw [show zset h 108 0 (0 : Int) = h0 from E0.symm]
  have f0 : Fr sQR h h0 := by rw [E0]; exact Fr.rf.set (by omega)
  have RD0 : DR h0 0 D := RD.fr f0 (fun k j z => by omega)
  refine zS_aload_n (zdec eX10_comes 3 rfl) rfl rfl ?_
  refine zS_iload_n (zdec eX10_comes 4 rfl) rfl ?_
  refine zvI (M' := mX10_isDay) (As := [zI x]) (st := []) (zdec eX10_comes 5 rfl) kM_X10_329 kV_X10_isDay ⟨by decide, rfl⟩ rfl rfl rfl rfl rfl (by omega) (d_isDay (by omega) VD RD0) ?_
  refine zS_if_ne (tgt := 16) (zdec eX10_comes 6 rfl) rfl (fun c1 => ?_) (fun c1 => ?_)
  · have z1 := d2i_n.mp c1
    refine zS_iconst (zdec eX10_comes 9 rfl) rfl ?_
    refine zS_istore_n (zdec eX10_comes 10 rfl) rfl ?_
    refine zS_iconst (zdec eX10_comes 11 rfl) rfl ?_
    refine zS_istore_n (zdec eX10_comes 12 rfl) rfl ?_
    unfold a_comes
    rw [if_pos z1]
    exact K_comes VD RD0 f0 (D 0 9).toNat 0 (by omega) (by omega)
  · have z1 := d2i_0.mp c1
    refine zS_bipush (zdec eX10_comes 7 rfl) rfl rfl ?_
    exact zlMI (zdec eX10_comes 8 rfl) rfl ⟨by unfold a_comes; (try rw [hp]); (try rw [hq]); first | rw [if_pos (by omega)] | rw [if_neg (by omega)], f0⟩
theorem WR.law' {h : zH} {p : Pb} (R : WR h p) (v : Int) : WR (zset h 108 23 v) (wS p 4 v) := by
  obtain ⟨r1, r2, r3, r4, r5, r6, r7, r8, r9, r10, r11, r12⟩ := R
  exact ⟨(zset_n (by omega)).trans r1, (zset_n (by omega)).trans r2, (zset_n (by omega)).trans r3, (zset_n (by omega)).trans r4, zset_s _ _ _ _, (zset_n (by omega)).trans r6, (zset_n (by omega)).trans r7, fun b b0 b1 => by rw [zset_n (by omega), zset_n (by omega), zset_n (by omega), zset_n (by omega), zset_n (by omega), zset_n (by omega), zset_n (by omega)]; exact r8 b b0 b1, fun i i0 i1 => by rw [zset_n (by omega), zset_n (by omega)]; exact r9 i i0 i1, fun d d0 d1 => by rw [zset_n (by omega)]; exact r10 d d0 d1, fun b b0 b1 => by rw [zset_n (by omega)]; exact r11 b b0 b1, fun i i0 i1 => by rw [zset_n (by omega)]; exact r12 i i0 i1⟩
theorem K_worthy {d : Nat} {h h3 : zH} {p : Pb} (hd : 50 ≤ d) (V : PV p) (R : WR h3 p) (hin : ∀ b, 0 ≤ b → b < pNb p → pIn p b = true) (f3 : Fr sQR h h3) : ∀ (n : Nat) (e x : Int), 0 ≤ e → e + n = pNb p → selP p [] e x → zS mX10_worthy (zr d) 28 [zA 108, zI x, zI e] [] TT h3 (zAnI (fun r h' => r = (if 0 < ((ordP p).length : Int) then (ordP p).getD 0 0 else -1) ∧ Fr sQR h h')) := by
  intro n
  induction n with
  | zero =>
    intro e x a1 a2 sl
    refine zS_iload_n (zdec eX10_worthy 17 rfl) rfl ?_
    refine zS_aload_n (zdec eX10_worthy 18 rfl) rfl rfl ?_
    refine zvI (M' := mX10_bills) (As := []) (st := [zI e]) (zdec eX10_worthy 19 rfl) kM_X10_236 kV_X10_bills ⟨by decide, rfl⟩ rfl rfl rfl rfl rfl (by omega) (r_bills R) ?_
    refine zS_icmp_ge (tgt := 58) (zdec eX10_worthy 20 rfl) rfl (fun cz => ?_) (fun cz => absurd (by omega) cz)
    refine zS_iload_n (zdec eX10_worthy 33 rfl) rfl ?_
    exact zlMI (zdec eX10_worthy 34 rfl) rfl ⟨by
        rw [show e = pNb p by omega] at sl
        by_cases w : x = -1
        · rw [w] at sl ⊢
          have := sel_none V (i := 0) (by omega) sl
          rw [if_neg (by omega)]
        · have so := sel_some V (i := 0) (by omega) w sl
          rw [if_pos (by omega), so.2], f3⟩
  | succ n ih =>
    intro e x a1 a2 sl
    have nb := V.nb
    refine zS_iload_n (zdec eX10_worthy 17 rfl) rfl ?_
    refine zS_aload_n (zdec eX10_worthy 18 rfl) rfl rfl ?_
    refine zvI (M' := mX10_bills) (As := []) (st := [zI e]) (zdec eX10_worthy 19 rfl) kM_X10_236 kV_X10_bills ⟨by decide, rfl⟩ rfl rfl rfl rfl rfl (by omega) (r_bills R) ?_
    refine zS_icmp_ge (tgt := 58) (zdec eX10_worthy 20 rfl) rfl (fun cz => absurd cz (by omega)) (fun cz => ?_)
    refine zS_iload_n (zdec eX10_worthy 21 rfl) rfl ?_
    refine zS_iconst (zdec eX10_worthy 22 rfl) rfl ?_
    refine zS_icmp_eq (tgt := 50) (zdec eX10_worthy 23 rfl) rfl (fun c1 => ?_) (fun c1 => ?_)
    · refine zS_iload_n (zdec eX10_worthy 29 rfl) rfl ?_
      refine zS_istore_n (zdec eX10_worthy 30 rfl) rfl ?_
      refine zS_iinc (zdec eX10_worthy 31 rfl) rfl rfl ⟨by omega, by omega⟩ ?_
      refine zS_goto (tgt := 28) (zdec eX10_worthy 32 rfl) rfl ?_
      exact ih (e + 1) e (by omega) (by omega) (sel_new a1 (by rw [c1] at sl; exact sl) (rem_t.mpr ⟨hin e a1 (by omega), List.not_mem_nil⟩))
    · have xr : 0 ≤ x ∧ x < e := by rcases sl with z | z; exact absurd z.1 c1; exact z.1
      refine zS_aload_n (zdec eX10_worthy 24 rfl) rfl rfl ?_
      refine zS_iload_n (zdec eX10_worthy 25 rfl) rfl ?_
      refine zS_iload_n (zdec eX10_worthy 26 rfl) rfl ?_
      refine zvI (M' := mX10_isFirst) (As := [zI e, zI x]) (st := []) (zdec eX10_worthy 27 rfl) kM_X10_301 kV_X10_isFirst ⟨by decide, rfl⟩ rfl rfl rfl rfl rfl (by omega) (r_isFirst (by omega) V R (by omega) (by omega) (by omega) (by omega)) ?_
      refine zS_if_eq (tgt := 52) (zdec eX10_worthy 28 rfl) rfl (fun c2 => ?_) (fun c2 => ?_)
      · have z2 := b2i_0.mp c2
        refine zS_iinc (zdec eX10_worthy 31 rfl) rfl rfl ⟨by omega, by omega⟩ ?_
        refine zS_goto (tgt := 28) (zdec eX10_worthy 32 rfl) rfl ?_
        exact ih (e + 1) x (by omega) (by omega) (sel_old sl c1 z2)
      · have z2 := b2i_n.mp c2
        refine zS_iload_n (zdec eX10_worthy 29 rfl) rfl ?_
        refine zS_istore_n (zdec eX10_worthy 30 rfl) rfl ?_
        refine zS_iinc (zdec eX10_worthy 31 rfl) rfl rfl ⟨by omega, by omega⟩ ?_
        refine zS_goto (tgt := 28) (zdec eX10_worthy 32 rfl) rfl ?_
        exact ih (e + 1) e (by omega) (by omega) (sel_yes V a1 (by omega) sl c1 (rem_t.mpr ⟨hin e a1 (by omega), List.not_mem_nil⟩) z2)
theorem q_worthy {d : Nat} {h : zH} {D : Dk} (hd : 200 ≤ d) (VD : DV D) (RD : DR h 0 D) : zMI d mX10_worthy [zA 108] h (fun r h' => r = a_worthy D ∧ Fr sQR h h') := by
  obtain ⟨p, hp⟩ : ∃ p, pb0 D = p := ⟨_, rfl⟩
  obtain ⟨q, hq⟩ : ∃ q, planP p = q := ⟨_, rfl⟩
  have pd : pDays p = D 0 1 := by rw [← hp]; rfl
  have pn : pNb p = D 0 8 := by rw [← hp]; rfl
  have dy := VD.days
  have nb := VD.nb
  have ns := VD.ns
  have nl := VD.nl
  have na := VD.na
  have vfl := VD.fl
  have vfe := VD.fee
  have hin : ∀ b, 0 ≤ b → b < pNb p → pIn p b = true := fun b _ _ => by rw [← hp]; rfl
  refine zmet rfl rfl rfl ?_
  refine zS_aload_n (zdec eX10_worthy 0 rfl) rfl rfl ?_
  refine zS_iconst (zdec eX10_worthy 1 rfl) rfl ?_
  refine zS_putfield (x := 0) (zdec eX10_worthy 2 rfl) kF_X10_71 (Or.inl kf10_0) ⟨by decide, rfl⟩ rfl rfl rfl (Or.inl (fun q => by cases q)) ?_
  obtain ⟨h0, E0⟩ : ∃ x, x = zset h 108 0 0 := ⟨_, rfl⟩
  rw [show zset h 108 0 (0 : Int) = h0 from E0.symm]
  have f0 : Fr sQR h h0 := by rw [E0]; exact Fr.rf.set (by omega)
  have RD0 : DR h0 0 D := RD.fr f0 (fun k j z => by omega)
  refine zS_aload_n (zdec eX10_worthy 3 rfl) rfl rfl ?_
  refine zvI (M' := mX10_isDesk) (As := []) (st := []) (zdec eX10_worthy 4 rfl) kM_X10_332 kV_X10_isDesk ⟨by decide, rfl⟩ rfl rfl rfl rfl rfl (by omega) (d_isDesk VD RD0) ?_
  refine zS_if_ne (tgt := 15) (zdec eX10_worthy 5 rfl) rfl (fun c1 => ?_) (fun c1 => ?_)
  · have z1 := d2i_n.mp c1
    refine zS_aload_n (zdec eX10_worthy 8 rfl) rfl rfl ?_
    have hd0 : 0 < D 0 0 := by first | omega
    refine zvMV (M' := mX10_lays) (As := []) (st := []) (zdec eX10_worthy 9 rfl) kM_X10_314 kV_X10_lays ⟨by decide, rfl⟩ rfl rfl rfl rfl rfl (by omega) (r_lays (by omega) VD hd0 RD0) (fun h2 ⟨R, cl2, g2⟩ => ?_)
    rw [hp] at R
    have V : PV p := by rw [← hp]; exact pb0_V VD hd0
    have f2 : Fr sQR h h2 := f0.tr g2 (fun k j z => z) (fun k j z => by omega)
    have RD2 : DR h2 0 D := RD.fr f2 (fun k j z => by omega)
    refine zS_aload_n (zdec eX10_worthy 10 rfl) rfl rfl ?_
    refine zS_iconst (zdec eX10_worthy 11 rfl) rfl ?_
    refine zS_putfield (x := 23) (zdec eX10_worthy 12 rfl) kF_X10_246 (Or.inl kf10_23) ⟨by decide, rfl⟩ rfl rfl rfl (Or.inl (fun q => by cases q)) ?_
    refine zS_iconst (zdec eX10_worthy 13 rfl) rfl ?_
    refine zS_istore_n (zdec eX10_worthy 14 rfl) rfl ?_
    refine zS_iconst (zdec eX10_worthy 15 rfl) rfl ?_
    refine zS_istore_n (zdec eX10_worthy 16 rfl) rfl ?_
    have R3 := R.law' 1
    have V3 : PV (wS p 4 1) := V.law' (by decide) (by decide)
    have k := K_worthy (d := d) (h := h) (by omega) V3 R3 (fun b b0 b1 => hin b b0 b1) (f2.set (by omega)) (pNb p).toNat 0 (-1) (by omega) (by show (0 : Int) + _ = pNb p; omega) (Or.inl ⟨rfl, fun b b0 b1 => by omega⟩)
    unfold a_worthy
    rw [hp, if_pos hd0]
    exact k
  · have z1 := d2i_0.mp c1
    refine zS_bipush (zdec eX10_worthy 6 rfl) rfl rfl ?_
    exact zlMI (zdec eX10_worthy 7 rfl) rfl ⟨by unfold a_worthy; (try rw [hp]); (try rw [hq]); first | rw [if_pos (by omega)] | rw [if_neg (by omega)], f0⟩

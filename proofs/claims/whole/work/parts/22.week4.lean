theorem L_allFees {d : Nat} {h : zH} {p : Pb} {q : Int → Int} (V : PV p) (R : WC h p) (S : PlC h p q) : ∀ (n : Nat) (e : Int), 0 ≤ e → e + n = pDays p → zS mX8_allFees (zr d) 4 [zA 14, zI (sumI (fun d => if usedP p q d then pFee p else 0) e), zI e] [] TT h (zOne (feesP p q) h) := by
  intro n
  induction n with
  | zero =>
    intro e a1 a2
    refine zS_iload_n (zdec eX8_allFees 4 rfl) rfl ?_
    refine zS_aload_n (zdec eX8_allFees 5 rfl) rfl rfl ?_
    refine zS_getref (i := 18) (zdec eX8_allFees 6 rfl) kF_X8_12 ⟨by decide, rfl⟩ rfl rfl rfl rfl rfl ?_
    refine zS_getfieldE (x := 1) (v := (pDays p)) (zdec eX8_allFees 7 rfl) kF_X8_79 ⟨by decide, rfl⟩ rfl rfl rfl R.days ?_
    refine zS_icmp_ge (tgt := 44) (zdec eX8_allFees 8 rfl) rfl (fun cz => ?_) (fun cz => absurd (by omega) cz)
    refine zS_iload_n (zdec eX8_allFees 24 rfl) rfl ?_
    exact zlI (zdec eX8_allFees 25 rfl) rfl (by unfold feesP; rw [show e = pDays p by omega])
  | succ n ih =>
    intro e a1 a2
    have dy := V.days
    have fb := feesB V q (k := e) (by omega) (by omega)
    have fe := V.fee
    refine zS_iload_n (zdec eX8_allFees 4 rfl) rfl ?_
    refine zS_aload_n (zdec eX8_allFees 5 rfl) rfl rfl ?_
    refine zS_getref (i := 18) (zdec eX8_allFees 6 rfl) kF_X8_12 ⟨by decide, rfl⟩ rfl rfl rfl rfl rfl ?_
    refine zS_getfieldE (x := 1) (v := (pDays p)) (zdec eX8_allFees 7 rfl) kF_X8_79 ⟨by decide, rfl⟩ rfl rfl rfl R.days ?_
    refine zS_icmp_ge (tgt := 44) (zdec eX8_allFees 8 rfl) rfl (fun cz => absurd cz (by omega)) (fun cz => ?_)
    refine zS_iload_n (zdec eX8_allFees 9 rfl) rfl ?_
    refine zS_aload_n (zdec eX8_allFees 10 rfl) rfl rfl ?_
    refine zS_getref (i := 24) (zdec eX8_allFees 11 rfl) kF_X8_34 ⟨by decide, rfl⟩ rfl rfl rfl rfl rfl ?_
    refine zS_iload_n (zdec eX8_allFees 12 rfl) rfl ?_
    refine zS_ialoadE (v := (h 31 e)) (zdec eX8_allFees 13 rfl) ⟨by decide, rfl⟩ (by omega) (by omega) rfl ?_
    refine zS_if_eq (tgt := 35) (zdec eX8_allFees 14 rfl) rfl (fun c1 => ?_) (fun c1 => ?_)
    · refine zS_iconst (zdec eX8_allFees 19 rfl) rfl ?_
      refine zS_iadd (zdec eX8_allFees 20 rfl) ⟨by omega, by omega⟩ ?_
      refine zS_istore_n (zdec eX8_allFees 21 rfl) rfl ?_
      refine zS_iinc (zdec eX8_allFees 22 rfl) rfl rfl ⟨by omega, by omega⟩ ?_
      refine zS_goto (tgt := 4) (zdec eX8_allFees 23 rfl) rfl ?_
      have k := ih (e + 1) (by omega) (by omega)
      rw [sumI_s _ (by omega)] at k
      have u := (S.file (show 0 ≤ e by omega) (show e < pDays p by omega)).zero V
      rw [u.mp c1] at k
      exact k
    · refine zS_aload_n (zdec eX8_allFees 15 rfl) rfl rfl ?_
      refine zS_getref (i := 18) (zdec eX8_allFees 16 rfl) kF_X8_12 ⟨by decide, rfl⟩ rfl rfl rfl rfl rfl ?_
      refine zS_getfieldE (x := 6) (v := (pFee p)) (zdec eX8_allFees 17 rfl) kF_X8_146 ⟨by decide, rfl⟩ rfl rfl rfl R.fee ?_
      refine zS_goto (tgt := 36) (zdec eX8_allFees 18 rfl) rfl ?_
      refine zS_iadd (zdec eX8_allFees 20 rfl) ⟨by omega, by omega⟩ ?_
      refine zS_istore_n (zdec eX8_allFees 21 rfl) rfl ?_
      refine zS_iinc (zdec eX8_allFees 22 rfl) rfl rfl ⟨by omega, by omega⟩ ?_
      refine zS_goto (tgt := 4) (zdec eX8_allFees 23 rfl) rfl ?_
      have k := ih (e + 1) (by omega) (by omega)
      rw [sumI_s _ (by omega)] at k
      have u := (S.file (show 0 ≤ e by omega) (show e < pDays p by omega)).zero V
      rw [show usedP p q e = true by rcases Bool.eq_false_or_eq_true (usedP p q e) with z | z; exact z; exact absurd (u.mpr z) c1] at k
      exact k
theorem c_allFees {d : Nat} {h : zH} {p : Pb} {q : Int → Int} (V : PV p) (R : WC h p) (S : PlC h p q) : zPI d mX8_allFees [zA 14] h (feesP p q) := by
  have dy := V.days
  refine zmet rfl rfl rfl ?_
  refine zS_iconst (zdec eX8_allFees 0 rfl) rfl ?_
  refine zS_istore_n (zdec eX8_allFees 1 rfl) rfl ?_
  refine zS_iconst (zdec eX8_allFees 2 rfl) rfl ?_
  refine zS_istore_n (zdec eX8_allFees 3 rfl) rfl ?_
  exact L_allFees V R S (pDays p).toNat 0 (by omega) (by omega)
theorem L_whole {d : Nat} {h : zH} {p : Pb} {q : Int → Int} (hd : 2 ≤ d) (V : PV p) (R : WC h p) (S : PlC h p q) (q0 : ∀ b, 0 ≤ q b) (q1 : ∀ b, q b ≤ pDays p) : ∀ (n : Nat) (e : Int), 0 ≤ e → e + n = pNb p → zS mX8_whole (zr d) 7 [zA 14, zI (feesP p q + sumI (fun b => if pIn p b then priceP p b (q b) else 0) e), zI e] [] TT h (zOne (totalP p q) h) := by
  intro n
  induction n with
  | zero =>
    intro e a1 a2
    refine zS_iload_n (zdec eX8_whole 5 rfl) rfl ?_
    refine zS_aload_n (zdec eX8_whole 6 rfl) rfl rfl ?_
    refine zS_getref (i := 18) (zdec eX8_whole 7 rfl) kF_X8_12 ⟨by decide, rfl⟩ rfl rfl rfl rfl rfl ?_
    refine zS_getfieldE (x := 8) (v := (pNb p)) (zdec eX8_whole 8 rfl) kF_X8_37 ⟨by decide, rfl⟩ rfl rfl rfl R.nb ?_
    refine zS_icmp_ge (tgt := 49) (zdec eX8_whole 9 rfl) rfl (fun cz => ?_) (fun cz => absurd (by omega) cz)
    refine zS_iload_n (zdec eX8_whole 27 rfl) rfl ?_
    exact zlI (zdec eX8_whole 28 rfl) rfl (by unfold totalP costsP; rw [show e = pNb p by omega])
  | succ n ih =>
    intro e a1 a2
    have dy := V.days
    have nb := V.nb
    have z0 := q0 e
    have z1 := q1 e
    have fb := feesB V q (k := pDays p) (by omega) (by omega)
    have cb := costsB V (q := q) (fun b => by have := q1 b; omega) (k := e) (by omega) (by omega)
    have pb := priceB V (show 0 ≤ e by omega) (show e < pNb p by omega) (show q e ≤ 7 by omega)
    have fd : feesP p q = sumI (fun d => if usedP p q d then pFee p else 0) (pDays p) := rfl
    refine zS_iload_n (zdec eX8_whole 5 rfl) rfl ?_
    refine zS_aload_n (zdec eX8_whole 6 rfl) rfl rfl ?_
    refine zS_getref (i := 18) (zdec eX8_whole 7 rfl) kF_X8_12 ⟨by decide, rfl⟩ rfl rfl rfl rfl rfl ?_
    refine zS_getfieldE (x := 8) (v := (pNb p)) (zdec eX8_whole 8 rfl) kF_X8_37 ⟨by decide, rfl⟩ rfl rfl rfl R.nb ?_
    refine zS_icmp_ge (tgt := 49) (zdec eX8_whole 9 rfl) rfl (fun cz => absurd cz (by omega)) (fun cz => ?_)
    refine zS_iload_n (zdec eX8_whole 10 rfl) rfl ?_
    refine zS_aload_n (zdec eX8_whole 11 rfl) rfl rfl ?_
    refine zS_iload_n (zdec eX8_whole 12 rfl) rfl ?_
    refine zvI (M' := mX8_isIn) (As := [zI e]) (st := [zI (feesP p q + sumI (fun b => if pIn p b then priceP p b (q b) else 0) e)]) (zdec eX8_whole 13 rfl) kM_X8_105 kV_X8_isIn ⟨by decide, rfl⟩ rfl rfl rfl rfl rfl (by omega) (c_isIn V R (by omega) (by omega)) ?_
    refine zS_if_eq (tgt := 40) (zdec eX8_whole 14 rfl) rfl (fun c1 => ?_) (fun c1 => ?_)
    · refine zS_iconst (zdec eX8_whole 22 rfl) rfl ?_
      refine zS_iadd (zdec eX8_whole 23 rfl) ⟨by omega, by omega⟩ ?_
      refine zS_istore_n (zdec eX8_whole 24 rfl) rfl ?_
      refine zS_iinc (zdec eX8_whole 25 rfl) rfl rfl ⟨by omega, by omega⟩ ?_
      refine zS_goto (tgt := 7) (zdec eX8_whole 26 rfl) rfl ?_
      have k := ih (e + 1) (by omega) (by omega)
      rw [sumI_s _ (by omega), ← Int.add_assoc] at k
      rw [b2i_0.mp c1] at k
      exact k
    · refine zS_aload_n (zdec eX8_whole 15 rfl) rfl rfl ?_
      refine zS_iload_n (zdec eX8_whole 16 rfl) rfl ?_
      refine zS_aload_n (zdec eX8_whole 17 rfl) rfl rfl ?_
      refine zS_iload_n (zdec eX8_whole 18 rfl) rfl ?_
      refine zvI (M' := mX8_dayOrLast) (As := [zI e]) (st := [zI e, zA 14, zI (feesP p q + sumI (fun b => if pIn p b then priceP p b (q b) else 0) e)]) (zdec eX8_whole 19 rfl) kM_X8_155 kV_X8_dayOrLast ⟨by decide, rfl⟩ rfl rfl rfl rfl rfl (by omega) (c_dayOrLast (by omega) V R (by omega) (by omega) S q0 q1) ?_
      refine zvI (M' := mX8_price) (As := [zI e, zI (q e)]) (st := [zI (feesP p q + sumI (fun b => if pIn p b then priceP p b (q b) else 0) e)]) (zdec eX8_whole 20 rfl) kM_X8_134 kV_X8_price ⟨by decide, rfl⟩ rfl rfl rfl rfl rfl (by omega) (c_price (by omega) V R (by omega) (by omega) (by omega) (by omega)) ?_
      refine zS_goto (tgt := 41) (zdec eX8_whole 21 rfl) rfl ?_
      refine zS_iadd (zdec eX8_whole 23 rfl) ⟨by omega, by omega⟩ ?_
      refine zS_istore_n (zdec eX8_whole 24 rfl) rfl ?_
      refine zS_iinc (zdec eX8_whole 25 rfl) rfl rfl ⟨by omega, by omega⟩ ?_
      refine zS_goto (tgt := 7) (zdec eX8_whole 26 rfl) rfl ?_
      have k := ih (e + 1) (by omega) (by omega)
      rw [sumI_s _ (by omega), ← Int.add_assoc] at k
      rw [b2i_n.mp c1] at k
      exact k
theorem c_whole {d : Nat} {h : zH} {p : Pb} {q : Int → Int} (hd : 2 ≤ d) (V : PV p) (R : WC h p) (S : PlC h p q) (q0 : ∀ b, 0 ≤ q b) (q1 : ∀ b, q b ≤ pDays p) : zPI d mX8_whole [zA 14] h (totalP p q) := by
  have nb := V.nb
  refine zmet rfl rfl rfl ?_
  refine zS_aload_n (zdec eX8_whole 0 rfl) rfl rfl ?_
  refine zvI (M' := mX8_allFees) (As := []) (st := []) (zdec eX8_whole 1 rfl) kM_X8_152 kV_X8_allFees ⟨by decide, rfl⟩ rfl rfl rfl rfl rfl (by omega) (c_allFees V R S) ?_
  refine zS_istore_n (zdec eX8_whole 2 rfl) rfl ?_
  refine zS_iconst (zdec eX8_whole 3 rfl) rfl ?_
  refine zS_istore_n (zdec eX8_whole 4 rfl) rfl ?_
  have k := L_whole hd V R S q0 q1 (pNb p).toNat 0 (by omega) (by omega)
  rw [sumI_0 _ (by omega), Int.add_zero] at k
  exact k
theorem L_unpaid {d : Nat} {h : zH} {p : Pb} {q : Int → Int} (hd : 1 ≤ d) (V : PV p) (R : WC h p) (S : PlC h p q) (q0 : ∀ b, 0 ≤ q b) (q1 : ∀ b, q b ≤ pDays p) : ∀ (n : Nat) (e : Int), 0 ≤ e → e + n = pNb p → zS mX8_unpaid (zr d) 4 [zA 14, zI (bitsI (onP p q (pDays p)) e), zI e] [] TT h (zOne (openP p q) h) := by
  intro n
  induction n with
  | zero =>
    intro e a1 a2
    refine zS_iload_n (zdec eX8_unpaid 4 rfl) rfl ?_
    refine zS_aload_n (zdec eX8_unpaid 5 rfl) rfl rfl ?_
    refine zS_getref (i := 18) (zdec eX8_unpaid 6 rfl) kF_X8_12 ⟨by decide, rfl⟩ rfl rfl rfl rfl rfl ?_
    refine zS_getfieldE (x := 8) (v := (pNb p)) (zdec eX8_unpaid 7 rfl) kF_X8_37 ⟨by decide, rfl⟩ rfl rfl rfl R.nb ?_
    refine zS_icmp_ge (tgt := 43) (zdec eX8_unpaid 8 rfl) rfl (fun cz => ?_) (fun cz => absurd (by omega) cz)
    refine zS_iload_n (zdec eX8_unpaid 25 rfl) rfl ?_
    exact zlI (zdec eX8_unpaid 26 rfl) rfl (by unfold openP; rw [show e = pNb p by omega])
  | succ n ih =>
    intro e a1 a2
    have dy := V.days
    have nb := V.nb
    have z0 := q0 e
    have z1 := q1 e
    refine zS_iload_n (zdec eX8_unpaid 4 rfl) rfl ?_
    refine zS_aload_n (zdec eX8_unpaid 5 rfl) rfl rfl ?_
    refine zS_getref (i := 18) (zdec eX8_unpaid 6 rfl) kF_X8_12 ⟨by decide, rfl⟩ rfl rfl rfl rfl rfl ?_
    refine zS_getfieldE (x := 8) (v := (pNb p)) (zdec eX8_unpaid 7 rfl) kF_X8_37 ⟨by decide, rfl⟩ rfl rfl rfl R.nb ?_
    refine zS_icmp_ge (tgt := 43) (zdec eX8_unpaid 8 rfl) rfl (fun cz => absurd cz (by omega)) (fun cz => ?_)
    refine zS_aload_n (zdec eX8_unpaid 9 rfl) rfl rfl ?_
    refine zS_iload_n (zdec eX8_unpaid 10 rfl) rfl ?_
    refine zvI (M' := mX8_isIn) (As := [zI e]) (st := []) (zdec eX8_unpaid 11 rfl) kM_X8_105 kV_X8_isIn ⟨by decide, rfl⟩ rfl rfl rfl rfl rfl (by omega) (c_isIn V R (by omega) (by omega)) ?_
    refine zS_if_eq (tgt := 37) (zdec eX8_unpaid 12 rfl) rfl (fun c1 => ?_) (fun c1 => ?_)
    · refine zS_iinc (zdec eX8_unpaid 23 rfl) rfl rfl ⟨by omega, by omega⟩ ?_
      refine zS_goto (tgt := 4) (zdec eX8_unpaid 24 rfl) rfl ?_
      have k := ih (e + 1) (by omega) (by omega)
      rw [bitsI_s _ (by omega)] at k
      rw [if_neg (show ¬ onP p q (pDays p) e = true by unfold onP; rw [b2i_0.mp c1]; simp)] at k
      exact k
    · refine zS_aload_n (zdec eX8_unpaid 13 rfl) rfl rfl ?_
      refine zS_iload_n (zdec eX8_unpaid 14 rfl) rfl ?_
      refine zvI (M' := mX8_isPaid) (As := [zI e]) (st := []) (zdec eX8_unpaid 15 rfl) kM_X8_140 kV_X8_isPaid ⟨by decide, rfl⟩ rfl rfl rfl rfl rfl (by omega) (c_isPaid V R (by omega) (by omega) S (q0 _)) ?_
      refine zS_if_ne (tgt := 37) (zdec eX8_unpaid 16 rfl) rfl (fun c2 => ?_) (fun c2 => ?_)
      · refine zS_iinc (zdec eX8_unpaid 23 rfl) rfl rfl ⟨by omega, by omega⟩ ?_
        refine zS_goto (tgt := 4) (zdec eX8_unpaid 24 rfl) rfl ?_
        have k := ih (e + 1) (by omega) (by omega)
        rw [bitsI_s _ (by omega)] at k
        rw [if_neg (show ¬ onP p q (pDays p) e = true by unfold onP; have z := d2i_n.mp c2; simp; omega)] at k
        exact k
      · refine zS_iload_n (zdec eX8_unpaid 17 rfl) rfl ?_
        refine zS_iconst (zdec eX8_unpaid 18 rfl) rfl ?_
        refine zS_iload_n (zdec eX8_unpaid 19 rfl) rfl ?_
        refine zS_ishl (zdec eX8_unpaid 20 rfl) ?_
        refine zS_ior (zdec eX8_unpaid 21 rfl) ?_
        refine zS_istore_n (zdec eX8_unpaid 22 rfl) rfl ?_
        refine zS_iinc (zdec eX8_unpaid 23 rfl) rfl rfl ⟨by omega, by omega⟩ ?_
        refine zS_goto (tgt := 4) (zdec eX8_unpaid 24 rfl) rfl ?_
        have k := ih (e + 1) (by omega) (by omega)
        rw [bitsI_s _ (by omega)] at k
        rw [if_pos (show onP p q (pDays p) e = true by unfold onP; rw [b2i_n.mp c1]; have z := d2i_0.mp c2; simp; omega)] at k
        exact k
theorem c_unpaid {d : Nat} {h : zH} {p : Pb} {q : Int → Int} (hd : 1 ≤ d) (V : PV p) (R : WC h p) (S : PlC h p q) (q0 : ∀ b, 0 ≤ q b) (q1 : ∀ b, q b ≤ pDays p) : zPI d mX8_unpaid [zA 14] h (openP p q) := by
  have nb := V.nb
  refine zmet rfl rfl rfl ?_
  refine zS_iconst (zdec eX8_unpaid 0 rfl) rfl ?_
  refine zS_istore_n (zdec eX8_unpaid 1 rfl) rfl ?_
  refine zS_iconst (zdec eX8_unpaid 2 rfl) rfl ?_
  refine zS_istore_n (zdec eX8_unpaid 3 rfl) rfl ?_
  exact L_unpaid hd V R S q0 q1 (pNb p).toNat 0 (by omega) (by omega)
theorem L_paidOn {d : Nat} {h : zH} {p : Pb} {q : Int → Int} {x : Int} (hd : 2 ≤ d) (V : PV p) (R : WC h p) (S : PlC h p q) (q0 : ∀ b, 0 ≤ q b) (q1 : ∀ b, q b ≤ pDays p) (qi : ∀ b, 0 ≤ b → b < pNb p → pIn p b = false → q b = pDays p) (x0 : 0 ≤ x) (x1 : x < pDays p) : ∀ (n : Nat) (e : Int), 0 ≤ e → e + n = pNb p → zS mX8_paidOn (zr d) 23 [zA 14, zI x, zI ((if usedP p q x then pFee p else 0) + sumI (fun b => if onP p q x b then priceP p b x else 0) e), zI e] [] TT h (zOne (outP p q x) h) := by
  intro n
  induction n with
  | zero =>
    intro e a1 a2
    refine zS_iload_n (zdec eX8_paidOn 13 rfl) rfl ?_
    refine zS_aload_n (zdec eX8_paidOn 14 rfl) rfl rfl ?_
    refine zS_getref (i := 18) (zdec eX8_paidOn 15 rfl) kF_X8_12 ⟨by decide, rfl⟩ rfl rfl rfl rfl rfl ?_
    refine zS_getfieldE (x := 8) (v := (pNb p)) (zdec eX8_paidOn 16 rfl) kF_X8_37 ⟨by decide, rfl⟩ rfl rfl rfl R.nb ?_
    refine zS_icmp_ge (tgt := 63) (zdec eX8_paidOn 17 rfl) rfl (fun cz => ?_) (fun cz => absurd (by omega) cz)
    refine zS_iload_n (zdec eX8_paidOn 35 rfl) rfl ?_
    exact zlI (zdec eX8_paidOn 36 rfl) rfl (by unfold outP; rw [show e = pNb p by omega])
  | succ n ih =>
    intro e a1 a2
    have dy := V.days
    have nb := V.nb
    have fe := V.fee
    have ob := onB V q (show x ≤ 7 by omega) (k := e) (by omega) (by omega)
    have pb := priceB V (show 0 ≤ e by omega) (show e < pNb p by omega) (show x ≤ 7 by omega)
    have ub : 0 ≤ (if usedP p q x then pFee p else 0) ∧ (if usedP p q x then pFee p else 0) ≤ 200 := by split <;> omega
    refine zS_iload_n (zdec eX8_paidOn 13 rfl) rfl ?_
    refine zS_aload_n (zdec eX8_paidOn 14 rfl) rfl rfl ?_
    refine zS_getref (i := 18) (zdec eX8_paidOn 15 rfl) kF_X8_12 ⟨by decide, rfl⟩ rfl rfl rfl rfl rfl ?_
    refine zS_getfieldE (x := 8) (v := (pNb p)) (zdec eX8_paidOn 16 rfl) kF_X8_37 ⟨by decide, rfl⟩ rfl rfl rfl R.nb ?_
    refine zS_icmp_ge (tgt := 63) (zdec eX8_paidOn 17 rfl) rfl (fun cz => absurd cz (by omega)) (fun cz => ?_)
    refine zS_iload_n (zdec eX8_paidOn 18 rfl) rfl ?_
    refine zS_aload_n (zdec eX8_paidOn 19 rfl) rfl rfl ?_
    refine zS_getref (i := 21) (zdec eX8_paidOn 20 rfl) kF_X8_25 ⟨by decide, rfl⟩ rfl rfl rfl rfl rfl ?_
    refine zS_iload_n (zdec eX8_paidOn 21 rfl) rfl ?_
    refine zS_ialoadE (v := (dayC p q e)) (zdec eX8_paidOn 22 rfl) ⟨by decide, rfl⟩ (by omega) (by omega) (S.day (by omega) (by omega)) ?_
    refine zS_iload_n (zdec eX8_paidOn 23 rfl) rfl ?_
    refine zS_icmp_ne (tgt := 54) (zdec eX8_paidOn 24 rfl) rfl (fun c1 => ?_) (fun c1 => ?_)
    · refine zS_iconst (zdec eX8_paidOn 30 rfl) rfl ?_
      refine zS_iadd (zdec eX8_paidOn 31 rfl) ⟨by omega, by omega⟩ ?_
      refine zS_istore_n (zdec eX8_paidOn 32 rfl) rfl ?_
      refine zS_iinc (zdec eX8_paidOn 33 rfl) rfl rfl ⟨by omega, by omega⟩ ?_
      refine zS_goto (tgt := 23) (zdec eX8_paidOn 34 rfl) rfl ?_
      have k := ih (e + 1) (by omega) (by omega)
      rw [sumI_s _ (by omega), ← Int.add_assoc] at k
      rw [if_neg (show ¬ onP p q x e = true by unfold onP; simp; intro _; unfold dayC at c1; split at c1 <;> omega)] at k
      exact k
    · refine zS_aload_n (zdec eX8_paidOn 25 rfl) rfl rfl ?_
      refine zS_iload_n (zdec eX8_paidOn 26 rfl) rfl ?_
      refine zS_iload_n (zdec eX8_paidOn 27 rfl) rfl ?_
      refine zvI (M' := mX8_price) (As := [zI e, zI x]) (st := [zI ((if usedP p q x then pFee p else 0) + sumI (fun b => if onP p q x b then priceP p b x else 0) e)]) (zdec eX8_paidOn 28 rfl) kM_X8_134 kV_X8_price ⟨by decide, rfl⟩ rfl rfl rfl rfl rfl (by omega) (c_price (by omega) V R (by omega) (by omega) (by omega) (by omega)) ?_
      refine zS_goto (tgt := 55) (zdec eX8_paidOn 29 rfl) rfl ?_
      refine zS_iadd (zdec eX8_paidOn 31 rfl) ⟨by omega, by omega⟩ ?_
      refine zS_istore_n (zdec eX8_paidOn 32 rfl) rfl ?_
      refine zS_iinc (zdec eX8_paidOn 33 rfl) rfl rfl ⟨by omega, by omega⟩ ?_
      refine zS_goto (tgt := 23) (zdec eX8_paidOn 34 rfl) rfl ?_
      have k := ih (e + 1) (by omega) (by omega)
      rw [sumI_s _ (by omega), ← Int.add_assoc] at k
      have qe := qi e (by omega) (by omega)
      rw [if_pos (show onP p q x e = true by unfold onP; unfold dayC at c1; cases z : pIn p e with | false => (have := qe z; split at c1 <;> omega) | true => (simp; split at c1 <;> omega))] at k
      exact k
theorem c_paidOn {d : Nat} {h : zH} {p : Pb} {q : Int → Int} {x : Int} (hd : 2 ≤ d) (V : PV p) (R : WC h p) (S : PlC h p q) (q0 : ∀ b, 0 ≤ q b) (q1 : ∀ b, q b ≤ pDays p) (qi : ∀ b, 0 ≤ b → b < pNb p → pIn p b = false → q b = pDays p) (x0 : 0 ≤ x) (x1 : x < pDays p) : zPI d mX8_paidOn [zA 14, zI x] h (outP p q x) := by
  have nb := V.nb
  have dy := V.days
  refine zmet rfl rfl rfl ?_
  refine zS_aload_n (zdec eX8_paidOn 0 rfl) rfl rfl ?_
  refine zS_getref (i := 24) (zdec eX8_paidOn 1 rfl) kF_X8_34 ⟨by decide, rfl⟩ rfl rfl rfl rfl rfl ?_
  refine zS_iload_n (zdec eX8_paidOn 2 rfl) rfl ?_
  refine zS_ialoadE (v := (h 31 x)) (zdec eX8_paidOn 3 rfl) ⟨by decide, rfl⟩ (by omega) (by omega) rfl ?_
  refine zS_if_eq (tgt := 19) (zdec eX8_paidOn 4 rfl) rfl (fun c1 => ?_) (fun c1 => ?_)
  · refine zS_iconst (zdec eX8_paidOn 9 rfl) rfl ?_
    refine zS_istore_n (zdec eX8_paidOn 10 rfl) rfl ?_
    refine zS_iconst (zdec eX8_paidOn 11 rfl) rfl ?_
    refine zS_istore_n (zdec eX8_paidOn 12 rfl) rfl ?_
    have k := L_paidOn hd V R S q0 q1 qi x0 x1 (pNb p).toNat 0 (by omega) (by omega)
    have u := (S.file x0 x1).zero V
    rw [sumI_0 _ (by omega), Int.add_zero] at k
    rw [u.mp c1] at k
    exact k
  · refine zS_aload_n (zdec eX8_paidOn 5 rfl) rfl rfl ?_
    refine zS_getref (i := 18) (zdec eX8_paidOn 6 rfl) kF_X8_12 ⟨by decide, rfl⟩ rfl rfl rfl rfl rfl ?_
    refine zS_getfieldE (x := 6) (v := (pFee p)) (zdec eX8_paidOn 7 rfl) kF_X8_146 ⟨by decide, rfl⟩ rfl rfl rfl R.fee ?_
    refine zS_goto (tgt := 20) (zdec eX8_paidOn 8 rfl) rfl ?_
    refine zS_istore_n (zdec eX8_paidOn 10 rfl) rfl ?_
    refine zS_iconst (zdec eX8_paidOn 11 rfl) rfl ?_
    refine zS_istore_n (zdec eX8_paidOn 12 rfl) rfl ?_
    have k := L_paidOn hd V R S q0 q1 qi x0 x1 (pNb p).toNat 0 (by omega) (by omega)
    have u := (S.file x0 x1).zero V
    rw [sumI_0 _ (by omega), Int.add_zero] at k
    rw [show usedP p q x = true by rcases Bool.eq_false_or_eq_true (usedP p q x) with z | z; exact z; exact absurd (u.mpr z) c1] at k
    exact k
theorem L_paidTo {d : Nat} {h : zH} {p : Pb} {q : Int → Int} {x : Int} (hd : 2 ≤ d) (V : PV p) (R : WC h p) (S : PlC h p q) (q0 : ∀ b, 0 ≤ q b) (q1 : ∀ b, q b ≤ pDays p) : ∀ (n : Nat) (e : Int), 0 ≤ e → e + n = pNb p → zS mX8_paidTo (zr d) 4 [zA 14, zI x, zI (sumI (fun b => if pOf p b = x ∧ q b < pDays p then priceP p b (q b) else 0) e), zI e] [] TT h (zOne (toP p q x) h) := by
  intro n
  induction n with
  | zero =>
    intro e a1 a2
    refine zS_iload_n (zdec eX8_paidTo 4 rfl) rfl ?_
    refine zS_aload_n (zdec eX8_paidTo 5 rfl) rfl rfl ?_
    refine zS_getref (i := 18) (zdec eX8_paidTo 6 rfl) kF_X8_12 ⟨by decide, rfl⟩ rfl rfl rfl rfl rfl ?_
    refine zS_getfieldE (x := 8) (v := (pNb p)) (zdec eX8_paidTo 7 rfl) kF_X8_37 ⟨by decide, rfl⟩ rfl rfl rfl R.nb ?_
    refine zS_icmp_ge (tgt := 62) (zdec eX8_paidTo 8 rfl) rfl (fun cz => ?_) (fun cz => absurd (by omega) cz)
    refine zS_iload_n (zdec eX8_paidTo 36 rfl) rfl ?_
    exact zlI (zdec eX8_paidTo 37 rfl) rfl (by unfold toP; rw [show e = pNb p by omega])
  | succ n ih =>
    intro e a1 a2
    have dy := V.days
    have nb := V.nb
    have z0 := q0 e
    have z1 := q1 e
    have ob := toB V (q := q) (fun b => by have := q1 b; omega) x (k := e) (by omega) (by omega)
    have dr : -1 ≤ dayC p q e ∧ dayC p q e ≤ 7 := by unfold dayC; split <;> omega
    have pb := priceB V (show 0 ≤ e by omega) (show e < pNb p by omega) (show dayC p q e ≤ 7 by omega)
    refine zS_iload_n (zdec eX8_paidTo 4 rfl) rfl ?_
    refine zS_aload_n (zdec eX8_paidTo 5 rfl) rfl rfl ?_
    refine zS_getref (i := 18) (zdec eX8_paidTo 6 rfl) kF_X8_12 ⟨by decide, rfl⟩ rfl rfl rfl rfl rfl ?_
    refine zS_getfieldE (x := 8) (v := (pNb p)) (zdec eX8_paidTo 7 rfl) kF_X8_37 ⟨by decide, rfl⟩ rfl rfl rfl R.nb ?_
    refine zS_icmp_ge (tgt := 62) (zdec eX8_paidTo 8 rfl) rfl (fun cz => absurd cz (by omega)) (fun cz => ?_)
    refine zS_iload_n (zdec eX8_paidTo 9 rfl) rfl ?_
    refine zS_aload_n (zdec eX8_paidTo 10 rfl) rfl rfl ?_
    refine zS_getref (i := 18) (zdec eX8_paidTo 11 rfl) kF_X8_12 ⟨by decide, rfl⟩ rfl rfl rfl rfl rfl ?_
    refine zS_getref (i := 26) (zdec eX8_paidTo 12 rfl) kF_X8_75 ⟨by decide, rfl⟩ rfl rfl rfl rfl rfl ?_
    refine zS_iload_n (zdec eX8_paidTo 13 rfl) rfl ?_
    refine zS_aaload1 (i := 1) (zdec eX8_paidTo 14 rfl) (Or.inr (Or.inl rfl)) ⟨by decide, rfl⟩ rfl rfl rfl (by omega) (by omega) ?_
    refine zS_iconst (zdec eX8_paidTo 15 rfl) rfl ?_
    refine zS_ialoadE (v := (pOf p e)) (zdec eX8_paidTo 16 rfl) (zrow_18 (by omega) (by omega)) (by decide) (by decide) (R.of' (by omega) (by omega)) ?_
    refine zS_iload_n (zdec eX8_paidTo 17 rfl) rfl ?_
    refine zS_icmp_ne (tgt := 53) (zdec eX8_paidTo 18 rfl) rfl (fun c1 => ?_) (fun c1 => ?_)
    · refine zS_iconst (zdec eX8_paidTo 31 rfl) rfl ?_
      refine zS_iadd (zdec eX8_paidTo 32 rfl) ⟨by omega, by omega⟩ ?_
      refine zS_istore_n (zdec eX8_paidTo 33 rfl) rfl ?_
      refine zS_iinc (zdec eX8_paidTo 34 rfl) rfl rfl ⟨by omega, by omega⟩ ?_
      refine zS_goto (tgt := 4) (zdec eX8_paidTo 35 rfl) rfl ?_
      have k := ih (e + 1) (by omega) (by omega)
      rw [sumI_s _ (by omega)] at k
      rw [if_neg (show ¬ (pOf p e = x ∧ q e < pDays p) from fun z => by first | exact c1 z.1 | exact d2i_0.mp c2 z.2)] at k
      exact k
    · refine zS_aload_n (zdec eX8_paidTo 19 rfl) rfl rfl ?_
      refine zS_iload_n (zdec eX8_paidTo 20 rfl) rfl ?_
      refine zvI (M' := mX8_isPaid) (As := [zI e]) (st := [zI (sumI (fun b => if pOf p b = x ∧ q b < pDays p then priceP p b (q b) else 0) e)]) (zdec eX8_paidTo 21 rfl) kM_X8_140 kV_X8_isPaid ⟨by decide, rfl⟩ rfl rfl rfl rfl rfl (by omega) (c_isPaid V R (by omega) (by omega) S (q0 _)) ?_
      refine zS_if_eq (tgt := 53) (zdec eX8_paidTo 22 rfl) rfl (fun c2 => ?_) (fun c2 => ?_)
      · refine zS_iconst (zdec eX8_paidTo 31 rfl) rfl ?_
        refine zS_iadd (zdec eX8_paidTo 32 rfl) ⟨by omega, by omega⟩ ?_
        refine zS_istore_n (zdec eX8_paidTo 33 rfl) rfl ?_
        refine zS_iinc (zdec eX8_paidTo 34 rfl) rfl rfl ⟨by omega, by omega⟩ ?_
        refine zS_goto (tgt := 4) (zdec eX8_paidTo 35 rfl) rfl ?_
        have k := ih (e + 1) (by omega) (by omega)
        rw [sumI_s _ (by omega)] at k
        rw [if_neg (show ¬ (pOf p e = x ∧ q e < pDays p) from fun z => by first | exact c1 z.1 | exact d2i_0.mp c2 z.2)] at k
        exact k
      · refine zS_aload_n (zdec eX8_paidTo 23 rfl) rfl rfl ?_
        refine zS_iload_n (zdec eX8_paidTo 24 rfl) rfl ?_
        refine zS_aload_n (zdec eX8_paidTo 25 rfl) rfl rfl ?_
        refine zS_getref (i := 21) (zdec eX8_paidTo 26 rfl) kF_X8_25 ⟨by decide, rfl⟩ rfl rfl rfl rfl rfl ?_
        refine zS_iload_n (zdec eX8_paidTo 27 rfl) rfl ?_
        refine zS_ialoadE (v := (dayC p q e)) (zdec eX8_paidTo 28 rfl) ⟨by decide, rfl⟩ (by omega) (by omega) (S.day (by omega) (by omega)) ?_
        have z9 := d2i_n.mp c2
        have dz9 : dayC p q e = q e := if_pos z9
        refine zvI (M' := mX8_price) (As := [zI e, zI (dayC p q e)]) (st := [zI (sumI (fun b => if pOf p b = x ∧ q b < pDays p then priceP p b (q b) else 0) e)]) (zdec eX8_paidTo 29 rfl) kM_X8_134 kV_X8_price ⟨by decide, rfl⟩ rfl rfl rfl rfl rfl (by omega) (c_price (by omega) V R (by omega) (by omega) (by omega) (by omega)) ?_
        refine zS_goto (tgt := 54) (zdec eX8_paidTo 30 rfl) rfl ?_
        refine zS_iadd (zdec eX8_paidTo 32 rfl) ⟨by omega, by omega⟩ ?_
        refine zS_istore_n (zdec eX8_paidTo 33 rfl) rfl ?_
        refine zS_iinc (zdec eX8_paidTo 34 rfl) rfl rfl ⟨by omega, by omega⟩ ?_
        refine zS_goto (tgt := 4) (zdec eX8_paidTo 35 rfl) rfl ?_
        have k := ih (e + 1) (by omega) (by omega)
        rw [sumI_s _ (by omega)] at k
        have z := d2i_n.mp c2
        have dz : dayC p q e = q e := if_pos z
        rw [if_pos ⟨by omega, z⟩, ← dz] at k
        exact k
theorem c_paidTo {d : Nat} {h : zH} {p : Pb} {q : Int → Int} {x : Int} (hd : 2 ≤ d) (V : PV p) (R : WC h p) (S : PlC h p q) (q0 : ∀ b, 0 ≤ q b) (q1 : ∀ b, q b ≤ pDays p) : zPI d mX8_paidTo [zA 14, zI x] h (toP p q x) := by
  have nb := V.nb
  refine zmet rfl rfl rfl ?_
  refine zS_iconst (zdec eX8_paidTo 0 rfl) rfl ?_
  refine zS_istore_n (zdec eX8_paidTo 1 rfl) rfl ?_
  refine zS_iconst (zdec eX8_paidTo 2 rfl) rfl ?_
  refine zS_istore_n (zdec eX8_paidTo 3 rfl) rfl ?_
  exact L_paidTo hd V R S q0 q1 (pNb p).toNat 0 (by omega) (by omega)
theorem L_tight {d : Nat} {h : zH} {p : Pb} {q : Int → Int} (V : PV p) (R : WC h p) (S : PlC h p q) : ∀ (n : Nat) (e : Int), 1 ≤ e → e + n = pDays p → zS mX8_tightest (zr d) 4 [zA 14, zI (amI (cashP p q) e), zI e] [] TT h (zOne (amI (cashP p q) (pDays p)) h) := by
  intro n
  induction n with
  | zero =>
    intro e a1 a2
    refine zS_iload_n (zdec eX8_tightest 4 rfl) rfl ?_
    refine zS_aload_n (zdec eX8_tightest 5 rfl) rfl rfl ?_
    refine zS_getref (i := 18) (zdec eX8_tightest 6 rfl) kF_X8_12 ⟨by decide, rfl⟩ rfl rfl rfl rfl rfl ?_
    refine zS_getfieldE (x := 1) (v := (pDays p)) (zdec eX8_tightest 7 rfl) kF_X8_79 ⟨by decide, rfl⟩ rfl rfl rfl R.days ?_
    refine zS_icmp_ge (tgt := 38) (zdec eX8_tightest 8 rfl) rfl (fun cz => ?_) (fun cz => absurd (by omega) cz)
    refine zS_iload_n (zdec eX8_tightest 22 rfl) rfl ?_
    exact zlI (zdec eX8_tightest 23 rfl) rfl (by rw [show e = pDays p by omega])
  | succ n ih =>
    intro e a1 a2
    have dy := V.days
    have ar := amI_rng (f := cashP p q) (k := e) (by omega)
    refine zS_iload_n (zdec eX8_tightest 4 rfl) rfl ?_
    refine zS_aload_n (zdec eX8_tightest 5 rfl) rfl rfl ?_
    refine zS_getref (i := 18) (zdec eX8_tightest 6 rfl) kF_X8_12 ⟨by decide, rfl⟩ rfl rfl rfl rfl rfl ?_
    refine zS_getfieldE (x := 1) (v := (pDays p)) (zdec eX8_tightest 7 rfl) kF_X8_79 ⟨by decide, rfl⟩ rfl rfl rfl R.days ?_
    refine zS_icmp_ge (tgt := 38) (zdec eX8_tightest 8 rfl) rfl (fun cz => absurd cz (by omega)) (fun cz => ?_)
    refine zS_aload_n (zdec eX8_tightest 9 rfl) rfl rfl ?_
    refine zS_getref (i := 23) (zdec eX8_tightest 10 rfl) kF_X8_31 ⟨by decide, rfl⟩ rfl rfl rfl rfl rfl ?_
    refine zS_iload_n (zdec eX8_tightest 11 rfl) rfl ?_
    refine zS_ialoadE (v := (cashP p q e)) (zdec eX8_tightest 12 rfl) ⟨by decide, rfl⟩ (by omega) (by omega) (S.cash (by omega) (by omega)) ?_
    refine zS_aload_n (zdec eX8_tightest 13 rfl) rfl rfl ?_
    refine zS_getref (i := 23) (zdec eX8_tightest 14 rfl) kF_X8_31 ⟨by decide, rfl⟩ rfl rfl rfl rfl rfl ?_
    refine zS_iload_n (zdec eX8_tightest 15 rfl) rfl ?_
    refine zS_ialoadE (v := (cashP p q (amI (cashP p q) e))) (zdec eX8_tightest 16 rfl) ⟨by decide, rfl⟩ (by omega) (by omega) (S.cash ar.1 (by omega)) ?_
    refine zS_icmp_ge (tgt := 32) (zdec eX8_tightest 17 rfl) rfl (fun c1 => ?_) (fun c1 => ?_)
    · refine zS_iinc (zdec eX8_tightest 20 rfl) rfl rfl ⟨by omega, by omega⟩ ?_
      refine zS_goto (tgt := 4) (zdec eX8_tightest 21 rfl) rfl ?_
      have k := ih (e + 1) (by omega) (by omega)
      rw [amI_s _ (by omega)] at k
      rw [if_neg (by omega)] at k
      exact k
    · refine zS_iload_n (zdec eX8_tightest 18 rfl) rfl ?_
      refine zS_istore_n (zdec eX8_tightest 19 rfl) rfl ?_
      refine zS_iinc (zdec eX8_tightest 20 rfl) rfl rfl ⟨by omega, by omega⟩ ?_
      refine zS_goto (tgt := 4) (zdec eX8_tightest 21 rfl) rfl ?_
      have k := ih (e + 1) (by omega) (by omega)
      rw [amI_s _ (by omega)] at k
      rw [if_pos (by omega)] at k
      exact k
theorem c_tightest {d : Nat} {h : zH} {p : Pb} {q : Int → Int} (V : PV p) (R : WC h p) (S : PlC h p q) : zPI d mX8_tightest [zA 14] h (amI (cashP p q) (pDays p)) := by
  have dy := V.days
  refine zmet rfl rfl rfl ?_
  refine zS_iconst (zdec eX8_tightest 0 rfl) rfl ?_
  refine zS_istore_n (zdec eX8_tightest 1 rfl) rfl ?_
  refine zS_iconst (zdec eX8_tightest 2 rfl) rfl ?_
  refine zS_istore_n (zdec eX8_tightest 3 rfl) rfl ?_
  exact L_tight V R S (pDays p - 1).toNat 1 (by omega) (by omega)

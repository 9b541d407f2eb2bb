theorem L_allFees {d : Nat} {h : zH} {p : Pb} {q : Int → Int} (V : PV p) (R : WC h p) (S : PlC h p q) : ∀ (n : Nat) (e : Int), 0 ≤ e → e + n = pDays p → zS mX8_allFees (zr d) 4 [zA 14, zI (sumI (fun d => if usedP p q d then pFee p else 0) e), zI e] [] TT h (zOne (feesP p q) h) := by
  intro n
  induction n with
  | zero =>
    intro e a1 a2
    refine zS_iload_n (zdec eX8_allFees 4 rfl) rfl ?_
    refine zS_aload_n (zdec eX8_allFees 5 rfl) rfl rfl ?_
    refine zS_getref (i := 18) (zdec eX8_allFees 6 rfl) kF_X8_12 ⟨by decide, rfl⟩ rfl rfl rfl rfl rfl ?_
    refine zS_getfieldE (x := 1) (v := (pDays p)) (zdec eX8_allFees 7 rfl) kF_X8_79 ⟨by decide, rfl⟩ rfl rfl rfl R.days ?_
    refine zS_icmp_ge (tgt := 44) (zdec eX8_allFees 8 rfl) rfl (fun cz => ?_) (fun cz => absurd (by omega) cz)
    refine zS_iload_n (zdec eX8_allFees 24 rfl) rfl ?_
    exact zlI (zdec eX8_allFees 25 rfl) rfl (by unfold feesP; rw [show e = pDays p by omega])
  | succ n ih =>
    intro e a1 a2
    have dy := V.days
    have fb := feesB V q (k := e) (by omega) (by omega)
    have fe := V.fee
    refine zS_iload_n (zdec eX8_allFees 4 rfl) rfl ?_
    refine zS_aload_n (zdec eX8_allFees 5 rfl) rfl rfl ?_
    refine zS_getref (i := 18) (zdec eX8_allFees 6 rfl) kF_X8_12 ⟨by decide, rfl⟩ rfl rfl rfl rfl rfl ?_
    refine zS_getfieldE (x := 1) (v := (pDays p)) (zdec eX8_allFees 7 rfl) kF_X8_79 ⟨by decide, rfl⟩ rfl rfl rfl R.days ?_
    refine zS_icmp_ge (tgt := 44) (zdec eX8_allFees 8 rfl) rfl (fun cz => absurd cz (by omega)) (fun cz => ?_)
    refine zS_iload_n (zdec eX8_allFees 9 rfl) rfl ?_
    refine zS_aload_n (zdec eX8_allFees 10 rfl) rfl rfl ?_
    refine zS_getref (i := 24) (zdec eX8_allFees 11 rfl) kF_X8_34 ⟨by decide, rfl⟩ rfl rfl rfl rfl rfl ?_
    refine zS_iload_n (zdec eX8_allFees 12 rfl) rfl ?_
    refine zS_ialoadE (v := (h 31 e)) (zdec eX8_allFees 13 rfl) ⟨by decide, rfl⟩ (by omega) (by omega) rfl ?_
    refine zS_if_eq (tgt := 35) (zdec eX8_allFees 14 rfl) rfl (fun c1 => ?_) (fun c1 => ?_)
    · refine zS_iconst (zdec eX8_allFees 19 rfl) rfl ?_
      refine zS_iadd (zdec eX8_allFees 20 rfl) ⟨by omega, by omega⟩ ?_
      refine zS_istore_n (zdec eX8_allFees 21 rfl) rfl ?_
      refine zS_iinc (zdec eX8_allFees 22 rfl) rfl rfl ⟨by omega, by omega⟩ ?_
      refine zS_goto (tgt := 4) (zdec eX8_allFees 23 rfl) rfl ?_
      have k := ih (e + 1) (by omega) (by omega)
      rw [sumI_s _ (by omega)] at k
      have u := (S.file (show 0 ≤ e by omega) (show e < pDays p by omega)).zero V
      rw [u.mp c1] at k
      exact k
    · refine zS_aload_n (zdec eX8_allFees 15 rfl) rfl rfl ?_
      refine zS_getref (i := 18) (zdec eX8_allFees 16 rfl) kF_X8_12 ⟨by decide, rfl⟩ rfl rfl rfl rfl rfl ?_
      refine zS_getfieldE (x := 6) (v := (pFee p)) (zdec eX8_allFees 17 rfl) kF_X8_146 ⟨by decide, rfl⟩ rfl rfl rfl R.fee ?_
      refine zS_goto (tgt := 36) (zdec eX8_allFees 18 rfl) rfl ?_
      refine zS_iadd (zdec eX8_allFees 20 rfl) ⟨by omega, by omega⟩ ?_
      refine zS_istore_n (zdec eX8_allFees 21 rfl) rfl ?_
      refine zS_iinc (zdec eX8_allFees 22 rfl) rfl rfl ⟨by omega, by omega⟩ ?_
      refine zS_goto (tgt := 4) (zdec eX8_allFees 23 rfl) rfl ?_
      have k := ih (e + 1) (by omega) (by omega)
      rw [sumI_s _ (by omega)] at k
      have u := (S.file (show 0 ≤ e by omega) (show e < pDays p by omega)).zero V
      rw [show usedP p q e = true by rcases Bool.eq_false_or_eq_true (usedP p q e) with z | z; exact z; exact absurd (u.mpr z) c1] at k
      exact k
theorem c_allFees {d : Nat} {h : zH} {p : Pb} {q : Int → Int} (V : PV p) (R : WC h p) (S : PlC h p q) : zPI d mX8_allFees [zA 14] h (feesP p q) := by
  have dy := V.days
  refine zmet rfl rfl rfl ?_
  refine zS_iconst (zdec eX8_allFees 0 rfl) rfl ?_
  refine zS_istore_n (zdec eX8_allFees 1 rfl) rfl ?_
  refine zS_iconst (zdec eX8_allFees 2 rfl) rfl ?_
  refine zS_istore_n (zdec eX8_allFees 3 rfl) rfl ?_
  exact L_allFees V R S (pDays p).toNat 0 (by omega) (by omega)
theorem L_whole {d : Nat} {h : zH} {p : Pb} {q : Int → Int} (hd : 2 ≤ d) (V : PV p) (R : WC h p) (S : PlC h p q) (q0 : ∀ b, 0 ≤ q b) (q1 : ∀ b, q b ≤ pDays p) : ∀ (n : Nat) (e : Int), 0 ≤ e → e + n = pNb p → zS mX8_whole (zr d) 7 [zA 14, zI (feesP p q + sumI (fun b => if pIn p b then priceP p b (q b) else 0) e), zI e] [] TT h (zOne (totalP p q) h) := by
  intro n
  induction n with
  | zero =>
    intro e a1 a2
    refine zS_iload_n (zdec eX8_whole 5 rfl) rfl ?_
    refine zS_aload_n (zdec eX8_whole 6 rfl) rfl rfl ?_
    refine zS_getref (i := 18) (zdec eX8_whole 7 rfl) kF_X8_12 ⟨by decide, rfl⟩ rfl rfl rfl rfl rfl ?_
    refine zS_getfieldE (x := 8) (v := (pNb p)) (zdec eX8_whole 8 rfl) kF_X8_37 ⟨by decide, rfl⟩ rfl rfl rfl R.nb ?_
    refine zS_icmp_ge (tgt := 49) (zdec eX8_whole 9 rfl) rfl (fun cz => ?_) (fun cz => absurd (by omega) cz)
    refine zS_iload_n (zdec eX8_whole 27 rfl) rfl ?_
    exact zlI (zdec eX8_whole 28 rfl) rfl (by unfold totalP costsP; rw [show e = pNb p by omega])
  | succ n ih =>
    intro e a1 a2
    have dy := V.days
    have nb := V.nb
    have z0 := q0 e
    have z1 := q1 e
    have fb := feesB V q (k := pDays p) (by omega) (by omega)
    have cb := costsB V (q := q) (fun b => by have := q1 b; omega) (k := e) (by omega) (by omega)
    have pb := priceB V (show 0 ≤ e by omega) (show e < pNb p by omega) (show q e ≤ 7 by omega)
    have fd : feesP p q = sumI (fun d => if usedP p q d then pFee p else 0) (pDays p) := rfl
    refine zS_iload_n (zdec eX8_whole 5 rfl) rfl ?_
    refine zS_aload_n (zdec eX8_whole 6 rfl) rfl rfl ?_
    refine zS_getref (i := 18) (zdec eX8_whole 7 rfl) kF_X8_12 ⟨by decide, rfl⟩ rfl rfl rfl rfl rfl ?_
    refine zS_getfieldE (x := 8) (v := (pNb p)) (zdec eX8_whole 8 rfl) kF_X8_37 ⟨by decide, rfl⟩ rfl rfl rfl R.nb ?_
    refine zS_icmp_ge (tgt := 49) (zdec eX8_whole 9 rfl) rfl (fun cz => absurd cz (by omega)) (fun cz => ?_)
    refine zS_iload_n (zdec eX8_whole 10 rfl) rfl ?_
    refine zS_aload_n (zdec eX8_whole 11 rfl) rfl rfl ?_
    refine zS_iload_n (zdec eX8_whole 12 rfl) rfl ?_
    refine zvI (M' := mX8_isIn) (As := [zI e]) (st := [zI (feesP p q + sumI (fun b => if pIn p b then priceP p b (q b) else 0) e)]) (zdec eX8_whole 13 rfl) kM_X8_105 kV_X8_isIn ⟨by decide, rfl⟩ rfl rfl rfl rfl rfl (by omega) (c_isIn V R (by omega) (by omega)) ?_
    refine zS_if_eq (tgt := 40) (zdec eX8_whole 14 rfl) rfl (fun c1 => ?_) (fun c1 => ?_)
    · refine zS_iconst (zdec eX8_whole 22 rfl) rfl ?_
      refine zS_iadd (zdec eX8_whole 23 rfl) ⟨by omega, by omega⟩ ?_
      refine zS_istore_n (zdec eX8_whole 24 rfl) rfl ?_
      refine zS_iinc (zdec eX8_whole 25 rfl) rfl rfl ⟨by omega, by omega⟩ ?_
      refine zS_goto (tgt := 7) (zdec eX8_whole 26 rfl) rfl ?_
      have k := ih (e + 1) (by omega) (by omega)
      rw [sumI_s _ (by omega), ← Int.add_assoc] at k
      rw [b2i_0.mp c1] at k
      exact k
    · refine zS_aload_n (zdec eX8_whole 15 rfl) rfl rfl ?_
      refine zS_iload_n (zdec eX8_whole 16 rfl) rfl ?_
      refine zS_aload_n (zdec eX8_whole 17 rfl) rfl rfl ?_
      refine zS_iload_n (zdec eX8_whole 18 rfl) rfl ?_
      refine zvI (M' := mX8_dayOrLast) (As := [zI e]) (st := [zI e, zA 14, zI (feesP p q + sumI (fun b => if pIn p b then priceP p b (q b) else 0) e)]) (zdec eX8_whole 19 rfl) kM_X8_155 kV_X8_dayOrLast ⟨by decide, rfl⟩ rfl rfl rfl rfl rfl (by omega) (c_dayOrLast (by omega) V R (by omega) (by omega) S q0 q1) ?_
      refine zvI (M' := mX8_price) (As := [zI e, zI (q e)]) (st := [zI (feesP p q + sumI (fun b => if pIn p b then priceP p b (q b) else 0) e)]) (zdec eX8_whole 20 rfl) kM_X8_134 kV_X8_price ⟨by decide, rfl⟩ rfl rfl rfl rfl rfl (by omega) (c_price (by omega) V R (by omega) (by omega) (by omega) (by omega)) ?_
      refine zS_goto (tgt := 41) (zdec eX8_whole 21 rfl) rfl ?_
      refine zS_iadd (zdec eX8_whole 23 rfl) ⟨by omega, by omega⟩ ?_
      refine zS_istore_n (zdec eX8_whole 24 rfl) rfl ?_
      refine zS_iinc (zdec eX8_whole 25 rfl) rfl rfl ⟨by omega, by omega⟩ ?_
      refine zS_goto (tgt := 7) (zdec eX8_whole 26 rfl) rfl ?_
      have k := ih (e + 1) (by omega) (by omega)
      rw [sumI_s _ (by omega), ← Int.add_assoc] at k
      rw [b2i_n.mp c1] at k
      exact k
theorem c_whole {d : Nat} {h : zH} {p : Pb} {q : Int → Int} (hd : 2 ≤ d) (V : PV p) (R : WC h p) (S : PlC h p q) (q0 : ∀ b, 0 ≤ q b) (q1 : ∀ b, q b ≤ pDays p) : zPI d mX8_whole [zA 14] h (totalP p q) := by
  have nb := V.nb
  refine zmet rfl rfl rfl ?_
  refine zS_aload_n (zdec eX8_whole 0 rfl) rfl rfl ?_
  refine zvI (M' := mX8_allFees) (As := []) (st := []) (zdec eX8_whole 1 rfl) kM_X8_152 kV_X8_allFees ⟨by decide, rfl⟩ rfl rfl rfl rfl rfl (by omega) (c_allFees V R S) ?_
  refine zS_istore_n (zdec eX8_whole 2 rfl) rfl ?_
  refine zS_iconst (zdec eX8_whole 3 rfl) rfl ?_
  refine zS_istore_n (zdec eX8_whole 4 rfl) rfl ?_
  have k := L_whole hd V R S q0 q1 (pNb p).toNat 0 (by omega) (by omega)
  rw [sumI_0 _ (by omega), Int.add_zero] at k
  exact k

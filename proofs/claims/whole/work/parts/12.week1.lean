theorem c_gain {d : Nat} {h : zH} {p : Pb} {b : Int} (V : PV p) (R : WC h p) (h0 : 0 ≤ b) (h1 : b < pNb p) : zPI d mX8_gain [zA 14, zI b] h (gainP p b) := by
  have nb := V.nb
  have n1 := V.net h0 h1
  have n2 := V.off h0 h1
  have n3 := mulB n1.1 n1.2 n2.1 n2.2
  refine zmet rfl rfl rfl ?_
  refine zS_aload_n (zdec eX8_gain 0 rfl) rfl rfl ?_
  refine zS_getref (i := 19) (zdec eX8_gain 1 rfl) kF_X8_18 ⟨by decide, rfl⟩ rfl rfl rfl rfl rfl ?_
  refine zS_iload_n (zdec eX8_gain 2 rfl) rfl ?_
  refine zS_ialoadE (v := (pNet p b)) (zdec eX8_gain 3 rfl) ⟨by decide, rfl⟩ (by omega) (by omega) (R.net (by omega) (by omega)) ?_
  refine zS_aload_n (zdec eX8_gain 4 rfl) rfl rfl ?_
  refine zS_getref (i := 20) (zdec eX8_gain 5 rfl) kF_X8_22 ⟨by decide, rfl⟩ rfl rfl rfl rfl rfl ?_
  refine zS_iload_n (zdec eX8_gain 6 rfl) rfl ?_
  refine zS_ialoadE (v := (pOff p b)) (zdec eX8_gain 7 rfl) ⟨by decide, rfl⟩ (by omega) (by omega) (R.off (by omega) (by omega)) ?_
  refine zS_imul (zdec eX8_gain 8 rfl) ⟨by omega, by omega⟩ ?_
  refine zS_bipush (zdec eX8_gain 9 rfl) rfl rfl ?_
  refine zS_idiv (zdec eX8_gain 10 rfl) (by decide) (fun q => absurd q.2 (by decide)) ?_
  exact zlI (zdec eX8_gain 11 rfl) rfl rfl
theorem c_span {d : Nat} {h : zH} {p : Pb} {b : Int} (V : PV p) (R : WC h p) (h0 : 0 ≤ b) (h1 : b < pNb p) : zPI d mX8_span [zA 14, zI b] h (spanP p b) := by
  have nb := V.nb
  have n1 := V.due h0 h1
  have n2 := V.by' h0 h1
  refine zmet rfl rfl rfl ?_
  refine zS_aload_n (zdec eX8_span 0 rfl) rfl rfl ?_
  refine zS_getref (i := 18) (zdec eX8_span 1 rfl) kF_X8_12 ⟨by decide, rfl⟩ rfl rfl rfl rfl rfl ?_
  refine zS_getref (i := 26) (zdec eX8_span 2 rfl) kF_X8_75 ⟨by decide, rfl⟩ rfl rfl rfl rfl rfl ?_
  refine zS_iload_n (zdec eX8_span 3 rfl) rfl ?_
  refine zS_aaload1 (i := 1) (zdec eX8_span 4 rfl) (Or.inr (Or.inl rfl)) ⟨by decide, rfl⟩ rfl rfl rfl (by omega) (by omega) ?_
  refine zS_iconst (zdec eX8_span 5 rfl) rfl ?_
  refine zS_ialoadE (v := (pDue p b)) (zdec eX8_span 6 rfl) (zrow_18 (by omega) (by omega)) (by decide) (by decide) (R.due (by omega) (by omega)) ?_
  refine zS_aload_n (zdec eX8_span 7 rfl) rfl rfl ?_
  refine zS_getref (i := 18) (zdec eX8_span 8 rfl) kF_X8_12 ⟨by decide, rfl⟩ rfl rfl rfl rfl rfl ?_
  refine zS_getref (i := 26) (zdec eX8_span 9 rfl) kF_X8_75 ⟨by decide, rfl⟩ rfl rfl rfl rfl rfl ?_
  refine zS_iload_n (zdec eX8_span 10 rfl) rfl ?_
  refine zS_aaload1 (i := 1) (zdec eX8_span 11 rfl) (Or.inr (Or.inl rfl)) ⟨by decide, rfl⟩ rfl rfl rfl (by omega) (by omega) ?_
  refine zS_iconst (zdec eX8_span 12 rfl) rfl ?_
  refine zS_ialoadE (v := (pBy p b)) (zdec eX8_span 13 rfl) (zrow_18 (by omega) (by omega)) (by decide) (by decide) (R.by' (by omega) (by omega)) ?_
  refine zS_isub (zdec eX8_span 14 rfl) ⟨by omega, by omega⟩ ?_
  refine zS_istore_n (zdec eX8_span 15 rfl) rfl ?_
  refine zS_iload_n (zdec eX8_span 16 rfl) rfl ?_
  refine zS_if_le (tgt := 32) (zdec eX8_span 17 rfl) rfl (fun c25 => ?_) (fun c25 => ?_)
  · refine zS_iconst (zdec eX8_span 20 rfl) rfl ?_
    exact zlI (zdec eX8_span 21 rfl) rfl (by unfold spanP; split <;> omega)
  · refine zS_iload_n (zdec eX8_span 18 rfl) rfl ?_
    refine zS_goto (tgt := 33) (zdec eX8_span 19 rfl) rfl ?_
    exact zlI (zdec eX8_span 21 rfl) rfl (by unfold spanP; split <;> omega)
theorem c_penalty {d : Nat} {h : zH} {p : Pb} {b x : Int} (V : PV p) (R : WC h p) (h0 : 0 ≤ b) (h1 : b < pNb p) (x0 : 0 ≤ x) (x1 : x ≤ 7) : zPI d mX8_penalty [zA 14, zI b, zI x] h (penP p b x) := by
  have nb := V.nb
  have n1 := V.due h0 h1
  have n2 := V.late h0 h1
  refine zmet rfl rfl rfl ?_
  refine zS_iload_n (zdec eX8_penalty 0 rfl) rfl ?_
  refine zS_aload_n (zdec eX8_penalty 1 rfl) rfl rfl ?_
  refine zS_getref (i := 18) (zdec eX8_penalty 2 rfl) kF_X8_12 ⟨by decide, rfl⟩ rfl rfl rfl rfl rfl ?_
  refine zS_getref (i := 26) (zdec eX8_penalty 3 rfl) kF_X8_75 ⟨by decide, rfl⟩ rfl rfl rfl rfl rfl ?_
  refine zS_iload_n (zdec eX8_penalty 4 rfl) rfl ?_
  refine zS_aaload1 (i := 1) (zdec eX8_penalty 5 rfl) (Or.inr (Or.inl rfl)) ⟨by decide, rfl⟩ rfl rfl rfl (by omega) (by omega) ?_
  refine zS_iconst (zdec eX8_penalty 6 rfl) rfl ?_
  refine zS_ialoadE (v := (pDue p b)) (zdec eX8_penalty 7 rfl) (zrow_18 (by omega) (by omega)) (by decide) (by decide) (R.due (by omega) (by omega)) ?_
  refine zS_isub (zdec eX8_penalty 8 rfl) ⟨by omega, by omega⟩ ?_
  refine zS_istore_n (zdec eX8_penalty 9 rfl) rfl ?_
  refine zS_iload_n (zdec eX8_penalty 10 rfl) rfl ?_
  refine zS_if_le (tgt := 34) (zdec eX8_penalty 11 rfl) rfl (fun c15 => ?_) (fun c15 => ?_)
  · refine zS_iconst (zdec eX8_penalty 22 rfl) rfl ?_
    exact zlI (zdec eX8_penalty 23 rfl) rfl (by unfold penP; split <;> omega)
  · refine zS_iload_n (zdec eX8_penalty 12 rfl) rfl ?_
    refine zS_aload_n (zdec eX8_penalty 13 rfl) rfl rfl ?_
    refine zS_getref (i := 18) (zdec eX8_penalty 14 rfl) kF_X8_12 ⟨by decide, rfl⟩ rfl rfl rfl rfl rfl ?_
    refine zS_getref (i := 26) (zdec eX8_penalty 15 rfl) kF_X8_75 ⟨by decide, rfl⟩ rfl rfl rfl rfl rfl ?_
    refine zS_iload_n (zdec eX8_penalty 16 rfl) rfl ?_
    refine zS_aaload1 (i := 1) (zdec eX8_penalty 17 rfl) (Or.inr (Or.inl rfl)) ⟨by decide, rfl⟩ rfl rfl rfl (by omega) (by omega) ?_
    refine zS_iconst (zdec eX8_penalty 18 rfl) rfl ?_
    refine zS_ialoadE (v := (pLate p b)) (zdec eX8_penalty 19 rfl) (zrow_18 (by omega) (by omega)) (by decide) (by decide) (R.late (by omega) (by omega)) ?_
    have n3 := mulB (show 0 ≤ x - pDue p b by omega) (show x - pDue p b ≤ 7 by omega) n2.1 n2.2
    refine zS_imul (zdec eX8_penalty 20 rfl) ⟨by omega, by omega⟩ ?_
    refine zS_goto (tgt := 35) (zdec eX8_penalty 21 rfl) rfl ?_
    exact zlI (zdec eX8_penalty 23 rfl) rfl (by unfold penP; split <;> omega)
theorem c_price {d : Nat} {h : zH} {p : Pb} {b x : Int} (hd : 1 ≤ d) (V : PV p) (R : WC h p) (h0 : 0 ≤ b) (h1 : b < pNb p) (x0 : 0 ≤ x) (x1 : x ≤ 7) : zPI d mX8_price [zA 14, zI b, zI x] h (priceP p b x) := by
  have nb := V.nb
  have n1 := V.net h0 h1
  have n2 := gainB V h0 h1
  have n3 := penB V h0 h1 x1
  have n4 := V.by' h0 h1
  refine zmet rfl rfl rfl ?_
  refine zS_iload_n (zdec eX8_price 0 rfl) rfl ?_
  refine zS_aload_n (zdec eX8_price 1 rfl) rfl rfl ?_
  refine zS_getref (i := 18) (zdec eX8_price 2 rfl) kF_X8_12 ⟨by decide, rfl⟩ rfl rfl rfl rfl rfl ?_
  refine zS_getfieldE (x := 1) (v := (pDays p)) (zdec eX8_price 3 rfl) kF_X8_79 ⟨by decide, rfl⟩ rfl rfl rfl R.days ?_
  refine zS_icmp_ge (tgt := 30) (zdec eX8_price 4 rfl) rfl (fun c8 => ?_) (fun c8 => ?_)
  · refine zS_iconst (zdec eX8_price 16 rfl) rfl ?_
    refine zS_istore_n (zdec eX8_price 17 rfl) rfl ?_
    refine zS_aload_n (zdec eX8_price 18 rfl) rfl rfl ?_
    refine zS_getref (i := 19) (zdec eX8_price 19 rfl) kF_X8_18 ⟨by decide, rfl⟩ rfl rfl rfl rfl rfl ?_
    refine zS_iload_n (zdec eX8_price 20 rfl) rfl ?_
    refine zS_ialoadE (v := (pNet p b)) (zdec eX8_price 21 rfl) ⟨by decide, rfl⟩ (by omega) (by omega) (R.net (by omega) (by omega)) ?_
    refine zS_iload_n (zdec eX8_price 22 rfl) rfl ?_
    refine zS_if_eq (tgt := 50) (zdec eX8_price 23 rfl) rfl (fun c39 => ?_) (fun c39 => absurd (by decide) c39)
    refine zS_iconst (zdec eX8_price 28 rfl) rfl ?_
    refine zS_isub (zdec eX8_price 29 rfl) ⟨by omega, by omega⟩ ?_
    refine zS_aload_n (zdec eX8_price 30 rfl) rfl rfl ?_
    refine zS_iload_n (zdec eX8_price 31 rfl) rfl ?_
    refine zS_iload_n (zdec eX8_price 32 rfl) rfl ?_
    refine zvI (M' := mX8_penalty) (As := [zI b, zI x]) (st := [zI ((pNet p b) - 0)]) (zdec eX8_price 33 rfl) kM_X8_143 kV_X8_penalty ⟨by decide, rfl⟩ rfl rfl rfl rfl rfl (by omega) (c_penalty V R (by omega) (by omega) (by omega) (by omega)) ?_
    refine zS_iadd (zdec eX8_price 34 rfl) ⟨by omega, by omega⟩ ?_
    exact zlI (zdec eX8_price 35 rfl) rfl (by unfold priceP; split <;> omega)
  · refine zS_iload_n (zdec eX8_price 5 rfl) rfl ?_
    refine zS_aload_n (zdec eX8_price 6 rfl) rfl rfl ?_
    refine zS_getref (i := 18) (zdec eX8_price 7 rfl) kF_X8_12 ⟨by decide, rfl⟩ rfl rfl rfl rfl rfl ?_
    refine zS_getref (i := 26) (zdec eX8_price 8 rfl) kF_X8_75 ⟨by decide, rfl⟩ rfl rfl rfl rfl rfl ?_
    refine zS_iload_n (zdec eX8_price 9 rfl) rfl ?_
    refine zS_aaload1 (i := 1) (zdec eX8_price 10 rfl) (Or.inr (Or.inl rfl)) ⟨by decide, rfl⟩ rfl rfl rfl (by omega) (by omega) ?_
    refine zS_iconst (zdec eX8_price 11 rfl) rfl ?_
    refine zS_ialoadE (v := (pBy p b)) (zdec eX8_price 12 rfl) (zrow_18 (by omega) (by omega)) (by decide) (by decide) (R.by' (by omega) (by omega)) ?_
    refine zS_icmp_gt (tgt := 30) (zdec eX8_price 13 rfl) rfl (fun c23 => ?_) (fun c23 => ?_)
    · refine zS_iconst (zdec eX8_price 16 rfl) rfl ?_
      refine zS_istore_n (zdec eX8_price 17 rfl) rfl ?_
      refine zS_aload_n (zdec eX8_price 18 rfl) rfl rfl ?_
      refine zS_getref (i := 19) (zdec eX8_price 19 rfl) kF_X8_18 ⟨by decide, rfl⟩ rfl rfl rfl rfl rfl ?_
      refine zS_iload_n (zdec eX8_price 20 rfl) rfl ?_
      refine zS_ialoadE (v := (pNet p b)) (zdec eX8_price 21 rfl) ⟨by decide, rfl⟩ (by omega) (by omega) (R.net (by omega) (by omega)) ?_
      refine zS_iload_n (zdec eX8_price 22 rfl) rfl ?_
      refine zS_if_eq (tgt := 50) (zdec eX8_price 23 rfl) rfl (fun c39 => ?_) (fun c39 => absurd (by decide) c39)
      refine zS_iconst (zdec eX8_price 28 rfl) rfl ?_
      refine zS_isub (zdec eX8_price 29 rfl) ⟨by omega, by omega⟩ ?_
      refine zS_aload_n (zdec eX8_price 30 rfl) rfl rfl ?_
      refine zS_iload_n (zdec eX8_price 31 rfl) rfl ?_
      refine zS_iload_n (zdec eX8_price 32 rfl) rfl ?_
      refine zvI (M' := mX8_penalty) (As := [zI b, zI x]) (st := [zI ((pNet p b) - 0)]) (zdec eX8_price 33 rfl) kM_X8_143 kV_X8_penalty ⟨by decide, rfl⟩ rfl rfl rfl rfl rfl (by omega) (c_penalty V R (by omega) (by omega) (by omega) (by omega)) ?_
      refine zS_iadd (zdec eX8_price 34 rfl) ⟨by omega, by omega⟩ ?_
      exact zlI (zdec eX8_price 35 rfl) rfl (by unfold priceP; split <;> omega)
    · refine zS_iconst (zdec eX8_price 14 rfl) rfl ?_
      refine zS_goto (tgt := 31) (zdec eX8_price 15 rfl) rfl ?_
      refine zS_istore_n (zdec eX8_price 17 rfl) rfl ?_
      refine zS_aload_n (zdec eX8_price 18 rfl) rfl rfl ?_
      refine zS_getref (i := 19) (zdec eX8_price 19 rfl) kF_X8_18 ⟨by decide, rfl⟩ rfl rfl rfl rfl rfl ?_
      refine zS_iload_n (zdec eX8_price 20 rfl) rfl ?_
      refine zS_ialoadE (v := (pNet p b)) (zdec eX8_price 21 rfl) ⟨by decide, rfl⟩ (by omega) (by omega) (R.net (by omega) (by omega)) ?_
      refine zS_iload_n (zdec eX8_price 22 rfl) rfl ?_
      refine zS_if_eq (tgt := 50) (zdec eX8_price 23 rfl) rfl (fun c39 => absurd c39 (by decide)) (fun c39 => ?_)
      refine zS_aload_n (zdec eX8_price 24 rfl) rfl rfl ?_
      refine zS_iload_n (zdec eX8_price 25 rfl) rfl ?_
      refine zvI (M' := mX8_gain) (As := [zI b]) (st := [zI (pNet p b)]) (zdec eX8_price 26 rfl) kM_X8_116 kV_X8_gain ⟨by decide, rfl⟩ rfl rfl rfl rfl rfl (by omega) (c_gain V R (by omega) (by omega)) ?_
      refine zS_goto (tgt := 51) (zdec eX8_price 27 rfl) rfl ?_
      refine zS_isub (zdec eX8_price 29 rfl) ⟨by omega, by omega⟩ ?_
      refine zS_aload_n (zdec eX8_price 30 rfl) rfl rfl ?_
      refine zS_iload_n (zdec eX8_price 31 rfl) rfl ?_
      refine zS_iload_n (zdec eX8_price 32 rfl) rfl ?_
      refine zvI (M' := mX8_penalty) (As := [zI b, zI x]) (st := [zI ((pNet p b) - (gainP p b))]) (zdec eX8_price 33 rfl) kM_X8_143 kV_X8_penalty ⟨by decide, rfl⟩ rfl rfl rfl rfl rfl (by omega) (c_penalty V R (by omega) (by omega) (by omega) (by omega)) ?_
      refine zS_iadd (zdec eX8_price 34 rfl) ⟨by omega, by omega⟩ ?_
      exact zlI (zdec eX8_price 35 rfl) rfl (by unfold priceP; split <;> omega)

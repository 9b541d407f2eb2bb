theorem c_gain {d : Nat} {h : zH} {p : Pb} {b : Int} (V : PV p) (R : WC h p) (h0 : 0 ≤ b) (h1 : b < pNb p) : zPI d mX8_gain [zA 14, zI b] h (gainP p b) := by
  have nb := V.nb
  have n1 := V.net h0 h1
  have n2 := V.off h0 h1
  have n3 := mulB n1.1 n1.2 n2.1 n2.2
  refine zmet rfl rfl rfl ?_
  refine zS_aload_n (zdec eX8_gain 0 rfl) rfl rfl ?_
  refine zS_getref (i := 19) (zdec eX8_gain 1 rfl) kF_X8_18 ⟨by decide, rfl⟩ rfl rfl rfl rfl rfl ?_
  refine zS_iload_n (zdec eX8_gain 2 rfl) rfl ?_
  refine zS_ialoadE (v := (pNet p b)) (zdec eX8_gain 3 rfl) ⟨by decide, rfl⟩ (by omega) (by omega) (R.net (by omega) (by omega)) ?_
  refine zS_aload_n (zdec eX8_gain 4 rfl) rfl rfl ?_
  refine zS_getref (i := 20) (zdec eX8_gain 5 rfl) kF_X8_22 ⟨by decide, rfl⟩ rfl rfl rfl rfl rfl ?_
  refine zS_iload_n (zdec eX8_gain 6 rfl) rfl ?_
  refine zS_ialoadE (v := (pOff p b)) (zdec eX8_gain 7 rfl) ⟨by decide, rfl⟩ (by omega) (by omega) (R.off (by omega) (by omega)) ?_
  refine zS_imul (zdec eX8_gain 8 rfl) ⟨by omega, by omega⟩ ?_
  refine zS_bipush (zdec eX8_gain 9 rfl) rfl rfl ?_
  refine zS_idiv (zdec eX8_gain 10 rfl) (by decide) (fun q => absurd q.2 (by decide)) ?_
  exact zlI (zdec eX8_gain 11 rfl) rfl rfl
theorem c_span {d : Nat} {h : zH} {p : Pb} {b : Int} (V : PV p) (R : WC h p) (h0 : 0 ≤ b) (h1 : b < pNb p) : zPI d mX8_span [zA 14, zI b] h (spanP p b) := by
  have nb := V.nb
  have n1 := V.due h0 h1
  have n2 := V.by' h0 h1
  refine zmet rfl rfl rfl ?_
  refine zS_aload_n (zdec eX8_span 0 rfl) rfl rfl ?_
  refine zS_getref (i := 18) (zdec eX8_span 1 rfl) kF_X8_12 ⟨by decide, rfl⟩ rfl rfl rfl rfl rfl ?_
  refine zS_getref (i := 26) (zdec eX8_span 2 rfl) kF_X8_75 ⟨by decide, rfl⟩ rfl rfl rfl rfl rfl ?_
  refine zS_iload_n (zdec eX8_span 3 rfl) rfl ?_
  refine zS_aaload1 (i := 1) (zdec eX8_span 4 rfl) (Or.inr (Or.inl rfl)) ⟨by decide, rfl⟩ rfl rfl rfl (by omega) (by omega) ?_
  refine zS_iconst (zdec eX8_span 5 rfl) rfl ?_
  refine zS_ialoadE (v := (pDue p b)) (zdec eX8_span 6 rfl) (zrow_18 (by omega) (by omega)) (by decide) (by decide) (R.due (by omega) (by omega)) ?_
  refine zS_aload_n (zdec eX8_span 7 rfl) rfl rfl ?_
  refine zS_getref (i := 18) (zdec eX8_span 8 rfl) kF_X8_12 ⟨by decide, rfl⟩ rfl rfl rfl rfl rfl ?_
  refine zS_getref (i := 26) (zdec eX8_span 9 rfl) kF_X8_75 ⟨by decide, rfl⟩ rfl rfl rfl rfl rfl ?_
  refine zS_iload_n (zdec eX8_span 10 rfl) rfl ?_
  refine zS_aaload1 (i := 1) (zdec eX8_span 11 rfl) (Or.inr (Or.inl rfl)) ⟨by decide, rfl⟩ rfl rfl rfl (by omega) (by omega) ?_
  refine zS_iconst (zdec eX8_span 12 rfl) rfl ?_
  refine zS_ialoadE (v := (pBy p b)) (zdec eX8_span 13 rfl) (zrow_18 (by omega) (by omega)) (by decide) (by decide) (R.by' (by omega) (by omega)) ?_
  refine zS_isub (zdec eX8_span 14 rfl) ⟨by omega, by omega⟩ ?_
  refine zS_istore_n (zdec eX8_span 15 rfl) rfl ?_
  refine zS_iload_n (zdec eX8_span 16 rfl) rfl ?_
  refine zS_if_le (tgt := 32) (zdec eX8_span 17 rfl) rfl (fun c1 => ?_) (fun c1 => ?_)
  · refine zS_iconst (zdec eX8_span 20 rfl) rfl ?_
    exact zlI (zdec eX8_span 21 rfl) rfl (by unfold spanP; split <;> omega)
  · refine zS_iload_n (zdec eX8_span 18 rfl) rfl ?_
    refine zS_goto (tgt := 33) (zdec eX8_span 19 rfl) rfl ?_
    exact zlI (zdec eX8_span 21 rfl) rfl (by unfold spanP; split <;> omega)
theorem c_penalty {d : Nat} {h : zH} {p : Pb} {b x : Int} (V : PV p) (R : WC h p) (h0 : 0 ≤ b) (h1 : b < pNb p) (x0 : 0 ≤ x) (x1 : x ≤ 7) : zPI d mX8_penalty [zA 14, zI b, zI x] h (penP p b x) := by
  have nb := V.nb
  have n1 := V.due h0 h1
  have n2 := V.late h0 h1
  refine zmet rfl rfl rfl ?_
  refine zS_iload_n (zdec eX8_penalty 0 rfl) rfl ?_
  refine zS_aload_n (zdec eX8_penalty 1 rfl) rfl rfl ?_
  refine zS_getref (i := 18) (zdec eX8_penalty 2 rfl) kF_X8_12 ⟨by decide, rfl⟩ rfl rfl rfl rfl rfl ?_
  refine zS_getref (i := 26) (zdec eX8_penalty 3 rfl) kF_X8_75 ⟨by decide, rfl⟩ rfl rfl rfl rfl rfl ?_
  refine zS_iload_n (zdec eX8_penalty 4 rfl) rfl ?_
  refine zS_aaload1 (i := 1) (zdec eX8_penalty 5 rfl) (Or.inr (Or.inl rfl)) ⟨by decide, rfl⟩ rfl rfl rfl (by omega) (by omega) ?_
  refine zS_iconst (zdec eX8_penalty 6 rfl) rfl ?_
  refine zS_ialoadE (v := (pDue p b)) (zdec eX8_penalty 7 rfl) (zrow_18 (by omega) (by omega)) (by decide) (by decide) (R.due (by omega) (by omega)) ?_
  refine zS_isub (zdec eX8_penalty 8 rfl) ⟨by omega, by omega⟩ ?_
  refine zS_istore_n (zdec eX8_penalty 9 rfl) rfl ?_
  refine zS_iload_n (zdec eX8_penalty 10 rfl) rfl ?_
  refine zS_if_le (tgt := 34) (zdec eX8_penalty 11 rfl) rfl (fun c1 => ?_) (fun c1 => ?_)
  · refine zS_iconst (zdec eX8_penalty 22 rfl) rfl ?_
    exact zlI (zdec eX8_penalty 23 rfl) rfl (by unfold penP; split <;> omega)
  · refine zS_iload_n (zdec eX8_penalty 12 rfl) rfl ?_
    refine zS_aload_n (zdec eX8_penalty 13 rfl) rfl rfl ?_
    refine zS_getref (i := 18) (zdec eX8_penalty 14 rfl) kF_X8_12 ⟨by decide, rfl⟩ rfl rfl rfl rfl rfl ?_
    refine zS_getref (i := 26) (zdec eX8_penalty 15 rfl) kF_X8_75 ⟨by decide, rfl⟩ rfl rfl rfl rfl rfl ?_
    refine zS_iload_n (zdec eX8_penalty 16 rfl) rfl ?_
    refine zS_aaload1 (i := 1) (zdec eX8_penalty 17 rfl) (Or.inr (Or.inl rfl)) ⟨by decide, rfl⟩ rfl rfl rfl (by omega) (by omega) ?_
    refine zS_iconst (zdec eX8_penalty 18 rfl) rfl ?_
    refine zS_ialoadE (v := (pLate p b)) (zdec eX8_penalty 19 rfl) (zrow_18 (by omega) (by omega)) (by decide) (by decide) (R.late (by omega) (by omega)) ?_
    have n3 := mulB (show 0 ≤ x - pDue p b by omega) (show x - pDue p b ≤ 7 by omega) n2.1 n2.2
    refine zS_imul (zdec eX8_penalty 20 rfl) ⟨by omega, by omega⟩ ?_
    refine zS_goto (tgt := 35) (zdec eX8_penalty 21 rfl) rfl ?_
    exact zlI (zdec eX8_penalty 23 rfl) rfl (by unfold penP; split <;> omega)
theorem c_price {d : Nat} {h : zH} {p : Pb} {b x : Int} (hd : 1 ≤ d) (V : PV p) (R : WC h p) (h0 : 0 ≤ b) (h1 : b < pNb p) (x0 : 0 ≤ x) (x1 : x ≤ 7) : zPI d mX8_price [zA 14, zI b, zI x] h (priceP p b x) := by
  have nb := V.nb
  have n1 := V.net h0 h1
  have n2 := gainB V h0 h1
  have n3 := penB V h0 h1 x1
  have n4 := V.by' h0 h1
  refine zmet rfl rfl rfl ?_
  refine zS_iload_n (zdec eX8_price 0 rfl) rfl ?_
  refine zS_aload_n (zdec eX8_price 1 rfl) rfl rfl ?_
  refine zS_getref (i := 18) (zdec eX8_price 2 rfl) kF_X8_12 ⟨by decide, rfl⟩ rfl rfl rfl rfl rfl ?_
  refine zS_getfieldE (x := 1) (v := (pDays p)) (zdec eX8_price 3 rfl) kF_X8_79 ⟨by decide, rfl⟩ rfl rfl rfl R.days ?_
  refine zS_icmp_ge (tgt := 30) (zdec eX8_price 4 rfl) rfl (fun c1 => ?_) (fun c1 => ?_)
  · refine zS_iconst (zdec eX8_price 16 rfl) rfl ?_
    refine zS_istore_n (zdec eX8_price 17 rfl) rfl ?_
    refine zS_aload_n (zdec eX8_price 18 rfl) rfl rfl ?_
    refine zS_getref (i := 19) (zdec eX8_price 19 rfl) kF_X8_18 ⟨by decide, rfl⟩ rfl rfl rfl rfl rfl ?_
    refine zS_iload_n (zdec eX8_price 20 rfl) rfl ?_
    refine zS_ialoadE (v := (pNet p b)) (zdec eX8_price 21 rfl) ⟨by decide, rfl⟩ (by omega) (by omega) (R.net (by omega) (by omega)) ?_
    refine zS_iload_n (zdec eX8_price 22 rfl) rfl ?_
    refine zS_if_eq (tgt := 50) (zdec eX8_price 23 rfl) rfl (fun cz => ?_) (fun cz => absurd (by decide) cz)
    refine zS_iconst (zdec eX8_price 28 rfl) rfl ?_
    refine zS_isub (zdec eX8_price 29 rfl) ⟨by omega, by omega⟩ ?_
    refine zS_aload_n (zdec eX8_price 30 rfl) rfl rfl ?_
    refine zS_iload_n (zdec eX8_price 31 rfl) rfl ?_
    refine zS_iload_n (zdec eX8_price 32 rfl) rfl ?_
    refine zvI (M' := mX8_penalty) (As := [zI b, zI x]) (st := [zI ((pNet p b) - 0)]) (zdec eX8_price 33 rfl) kM_X8_143 kV_X8_penalty ⟨by decide, rfl⟩ rfl rfl rfl rfl rfl (by omega) (c_penalty V R (by omega) (by omega) (by omega) (by omega)) ?_
    refine zS_iadd (zdec eX8_price 34 rfl) ⟨by omega, by omega⟩ ?_
    exact zlI (zdec eX8_price 35 rfl) rfl (by unfold priceP; split <;> omega)
  · refine zS_iload_n (zdec eX8_price 5 rfl) rfl ?_
    refine zS_aload_n (zdec eX8_price 6 rfl) rfl rfl ?_
    refine zS_getref (i := 18) (zdec eX8_price 7 rfl) kF_X8_12 ⟨by decide, rfl⟩ rfl rfl rfl rfl rfl ?_
    refine zS_getref (i := 26) (zdec eX8_price 8 rfl) kF_X8_75 ⟨by decide, rfl⟩ rfl rfl rfl rfl rfl ?_
    refine zS_iload_n (zdec eX8_price 9 rfl) rfl ?_
    refine zS_aaload1 (i := 1) (zdec eX8_price 10 rfl) (Or.inr (Or.inl rfl)) ⟨by decide, rfl⟩ rfl rfl rfl (by omega) (by omega) ?_
    refine zS_iconst (zdec eX8_price 11 rfl) rfl ?_
    refine zS_ialoadE (v := (pBy p b)) (zdec eX8_price 12 rfl) (zrow_18 (by omega) (by omega)) (by decide) (by decide) (R.by' (by omega) (by omega)) ?_
    refine zS_icmp_gt (tgt := 30) (zdec eX8_price 13 rfl) rfl (fun c2 => ?_) (fun c2 => ?_)
    · refine zS_iconst (zdec eX8_price 16 rfl) rfl ?_
      refine zS_istore_n (zdec eX8_price 17 rfl) rfl ?_
      refine zS_aload_n (zdec eX8_price 18 rfl) rfl rfl ?_
      refine zS_getref (i := 19) (zdec eX8_price 19 rfl) kF_X8_18 ⟨by decide, rfl⟩ rfl rfl rfl rfl rfl ?_
      refine zS_iload_n (zdec eX8_price 20 rfl) rfl ?_
      refine zS_ialoadE (v := (pNet p b)) (zdec eX8_price 21 rfl) ⟨by decide, rfl⟩ (by omega) (by omega) (R.net (by omega) (by omega)) ?_
      refine zS_iload_n (zdec eX8_price 22 rfl) rfl ?_
      refine zS_if_eq (tgt := 50) (zdec eX8_price 23 rfl) rfl (fun cz => ?_) (fun cz => absurd (by decide) cz)
      refine zS_iconst (zdec eX8_price 28 rfl) rfl ?_
      refine zS_isub (zdec eX8_price 29 rfl) ⟨by omega, by omega⟩ ?_
      refine zS_aload_n (zdec eX8_price 30 rfl) rfl rfl ?_
      refine zS_iload_n (zdec eX8_price 31 rfl) rfl ?_
      refine zS_iload_n (zdec eX8_price 32 rfl) rfl ?_
      refine zvI (M' := mX8_penalty) (As := [zI b, zI x]) (st := [zI ((pNet p b) - 0)]) (zdec eX8_price 33 rfl) kM_X8_143 kV_X8_penalty ⟨by decide, rfl⟩ rfl rfl rfl rfl rfl (by omega) (c_penalty V R (by omega) (by omega) (by omega) (by omega)) ?_
      refine zS_iadd (zdec eX8_price 34 rfl) ⟨by omega, by omega⟩ ?_
      exact zlI (zdec eX8_price 35 rfl) rfl (by unfold priceP; split <;> omega)
    · refine zS_iconst (zdec eX8_price 14 rfl) rfl ?_
      refine zS_goto (tgt := 31) (zdec eX8_price 15 rfl) rfl ?_
      refine zS_istore_n (zdec eX8_price 17 rfl) rfl ?_
      refine zS_aload_n (zdec eX8_price 18 rfl) rfl rfl ?_
      refine zS_getref (i := 19) (zdec eX8_price 19 rfl) kF_X8_18 ⟨by decide, rfl⟩ rfl rfl rfl rfl rfl ?_
      refine zS_iload_n (zdec eX8_price 20 rfl) rfl ?_
      refine zS_ialoadE (v := (pNet p b)) (zdec eX8_price 21 rfl) ⟨by decide, rfl⟩ (by omega) (by omega) (R.net (by omega) (by omega)) ?_
      refine zS_iload_n (zdec eX8_price 22 rfl) rfl ?_
      refine zS_if_eq (tgt := 50) (zdec eX8_price 23 rfl) rfl (fun cz => absurd cz (by decide)) (fun cz => ?_)
      refine zS_aload_n (zdec eX8_price 24 rfl) rfl rfl ?_
      refine zS_iload_n (zdec eX8_price 25 rfl) rfl ?_
      refine zvI (M' := mX8_gain) (As := [zI b]) (st := [zI (pNet p b)]) (zdec eX8_price 26 rfl) kM_X8_116 kV_X8_gain ⟨by decide, rfl⟩ rfl rfl rfl rfl rfl (by omega) (c_gain V R (by omega) (by omega)) ?_
      refine zS_goto (tgt := 51) (zdec eX8_price 27 rfl) rfl ?_
      refine zS_isub (zdec eX8_price 29 rfl) ⟨by omega, by omega⟩ ?_
      refine zS_aload_n (zdec eX8_price 30 rfl) rfl rfl ?_
      refine zS_iload_n (zdec eX8_price 31 rfl) rfl ?_
      refine zS_iload_n (zdec eX8_price 32 rfl) rfl ?_
      refine zvI (M' := mX8_penalty) (As := [zI b, zI x]) (st := [zI ((pNet p b) - (gainP p b))]) (zdec eX8_price 33 rfl) kM_X8_143 kV_X8_penalty ⟨by decide, rfl⟩ rfl rfl rfl rfl rfl (by omega) (c_penalty V R (by omega) (by omega) (by omega) (by omega)) ?_
      refine zS_iadd (zdec eX8_price 34 rfl) ⟨by omega, by omega⟩ ?_
      exact zlI (zdec eX8_price 35 rfl) rfl (by unfold priceP; split <;> omega)
theorem c_isClosed {d : Nat} {h : zH} {p : Pb} {x : Int} (V : PV p) (R : WC h p) (h0 : 0 ≤ x) (h1 : x < 7) : zPI d mX8_isClosed [zA 14, zI x] h (b2i (pCl p x)) := by
  refine zmet rfl rfl rfl ?_
  refine zS_aload_n (zdec eX8_isClosed 0 rfl) rfl rfl ?_
  refine zS_getfieldE (x := 4) (v := (h 14 4)) (zdec eX8_isClosed 1 rfl) kF_X8_57 ⟨by decide, rfl⟩ rfl rfl rfl rfl ?_
  refine zS_iload_n (zdec eX8_isClosed 2 rfl) rfl ?_
  refine zS_ishr (zdec eX8_isClosed 3 rfl) ?_
  refine zS_iconst (zdec eX8_isClosed 4 rfl) rfl ?_
  refine zS_iand (zdec eX8_isClosed 5 rfl) ?_
  refine zS_iconst (zdec eX8_isClosed 6 rfl) rfl ?_
  refine zS_icmp_ne (tgt := 16) (zdec eX8_isClosed 7 rfl) rfl (fun c1 => ?_) (fun c1 => ?_)
  · refine zS_iconst (zdec eX8_isClosed 10 rfl) rfl ?_
    exact zlZ (zdec eX8_isClosed 11 rfl) rfl (Or.inl rfl) (by rw [← R.cl h0 h1]; rw [bitB_f.mpr (by omega)]; rfl)
  · refine zS_iconst (zdec eX8_isClosed 8 rfl) rfl ?_
    refine zS_goto (tgt := 17) (zdec eX8_isClosed 9 rfl) rfl ?_
    exact zlZ (zdec eX8_isClosed 11 rfl) rfl (Or.inr rfl) (by rw [← R.cl h0 h1]; rw [bitB_t.mpr (by omega)]; rfl)
theorem c_isIn {d : Nat} {h : zH} {p : Pb} {b : Int} (V : PV p) (R : WC h p) (h0 : 0 ≤ b) (h1 : b < pNb p) : zPI d mX8_isIn [zA 14, zI b] h (b2i (pIn p b)) := by
  refine zmet rfl rfl rfl ?_
  refine zS_aload_n (zdec eX8_isIn 0 rfl) rfl rfl ?_
  refine zS_getfieldE (x := 5) (v := (h 14 5)) (zdec eX8_isIn 1 rfl) kF_X8_62 ⟨by decide, rfl⟩ rfl rfl rfl rfl ?_
  refine zS_iload_n (zdec eX8_isIn 2 rfl) rfl ?_
  refine zS_ishr (zdec eX8_isIn 3 rfl) ?_
  refine zS_iconst (zdec eX8_isIn 4 rfl) rfl ?_
  refine zS_iand (zdec eX8_isIn 5 rfl) ?_
  refine zS_iconst (zdec eX8_isIn 6 rfl) rfl ?_
  refine zS_icmp_ne (tgt := 16) (zdec eX8_isIn 7 rfl) rfl (fun c1 => ?_) (fun c1 => ?_)
  · refine zS_iconst (zdec eX8_isIn 10 rfl) rfl ?_
    exact zlZ (zdec eX8_isIn 11 rfl) rfl (Or.inl rfl) (by rw [← R.in' h0 h1]; rw [bitB_f.mpr (by omega)]; rfl)
  · refine zS_iconst (zdec eX8_isIn 8 rfl) rfl ?_
    refine zS_goto (tgt := 17) (zdec eX8_isIn 9 rfl) rfl ?_
    exact zlZ (zdec eX8_isIn 11 rfl) rfl (Or.inr rfl) (by rw [← R.in' h0 h1]; rw [bitB_t.mpr (by omega)]; rfl)
theorem c_isPaid {d : Nat} {h : zH} {p : Pb} {q : Int → Int} {b : Int} (V : PV p) (R : WC h p) (h0 : 0 ≤ b) (h1 : b < pNb p) (S : PlC h p q) (q0 : 0 ≤ q b) : zPI d mX8_isPaid [zA 14, zI b] h (d2i (q b < pDays p)) := by
  have nb := V.nb
  refine zmet rfl rfl rfl ?_
  refine zS_aload_n (zdec eX8_isPaid 0 rfl) rfl rfl ?_
  refine zS_getref (i := 21) (zdec eX8_isPaid 1 rfl) kF_X8_25 ⟨by decide, rfl⟩ rfl rfl rfl rfl rfl ?_
  refine zS_iload_n (zdec eX8_isPaid 2 rfl) rfl ?_
  refine zS_ialoadE (v := (dayC p q b)) (zdec eX8_isPaid 3 rfl) ⟨by decide, rfl⟩ (by omega) (by omega) (S.day (by omega) (by omega)) ?_
  refine zS_iconst (zdec eX8_isPaid 4 rfl) rfl ?_
  refine zS_icmp_eq (tgt := 14) (zdec eX8_isPaid 5 rfl) rfl (fun c1 => ?_) (fun c1 => ?_)
  · refine zS_iconst (zdec eX8_isPaid 8 rfl) rfl ?_
    exact zlZ (zdec eX8_isPaid 9 rfl) rfl (Or.inl rfl) (by unfold dayC at *; rw [d2i_f (by split at c1 <;> omega)])
  · refine zS_iconst (zdec eX8_isPaid 6 rfl) rfl ?_
    refine zS_goto (tgt := 15) (zdec eX8_isPaid 7 rfl) rfl ?_
    exact zlZ (zdec eX8_isPaid 9 rfl) rfl (Or.inr rfl) (by unfold dayC at *; rw [d2i_t (by split at c1 <;> omega)])
theorem c_isCaught {d : Nat} {h : zH} {p : Pb} {q : Int → Int} {b : Int} (hd : 1 ≤ d) (V : PV p) (R : WC h p) (h0 : 0 ≤ b) (h1 : b < pNb p) (S : PlC h p q) (q0 : ∀ b, 0 ≤ q b) : zPI d mX8_isCaught [zA 14, zI b] h (d2i (q b < pDays p ∧ q b ≤ pBy p b)) := by
  have nb := V.nb
  have z0 := q0 b
  refine zmet rfl rfl rfl ?_
  refine zS_aload_n (zdec eX8_isCaught 0 rfl) rfl rfl ?_
  refine zS_iload_n (zdec eX8_isCaught 1 rfl) rfl ?_
  refine zvI (M' := mX8_isPaid) (As := [zI b]) (st := []) (zdec eX8_isCaught 2 rfl) kM_X8_140 kV_X8_isPaid ⟨by decide, rfl⟩ rfl rfl rfl rfl rfl (by omega) (c_isPaid V R (by omega) (by omega) S (q0 _)) ?_
  refine zS_if_eq (tgt := 32) (zdec eX8_isCaught 3 rfl) rfl (fun c1 => ?_) (fun c1 => ?_)
  · refine zS_iconst (zdec eX8_isCaught 18 rfl) rfl ?_
    exact zlZ (zdec eX8_isCaught 19 rfl) rfl (Or.inl rfl) (by rw [d2i_f]; intro z; first | exact d2i_0.mp c1 z.1 | (have e := d2i_n.mp c1; unfold dayC at c2; rw [if_pos e] at c2; omega))
  · refine zS_aload_n (zdec eX8_isCaught 4 rfl) rfl rfl ?_
    refine zS_getref (i := 21) (zdec eX8_isCaught 5 rfl) kF_X8_25 ⟨by decide, rfl⟩ rfl rfl rfl rfl rfl ?_
    refine zS_iload_n (zdec eX8_isCaught 6 rfl) rfl ?_
    refine zS_ialoadE (v := (dayC p q b)) (zdec eX8_isCaught 7 rfl) ⟨by decide, rfl⟩ (by omega) (by omega) (S.day (by omega) (by omega)) ?_
    refine zS_aload_n (zdec eX8_isCaught 8 rfl) rfl rfl ?_
    refine zS_getref (i := 18) (zdec eX8_isCaught 9 rfl) kF_X8_12 ⟨by decide, rfl⟩ rfl rfl rfl rfl rfl ?_
    refine zS_getref (i := 26) (zdec eX8_isCaught 10 rfl) kF_X8_75 ⟨by decide, rfl⟩ rfl rfl rfl rfl rfl ?_
    refine zS_iload_n (zdec eX8_isCaught 11 rfl) rfl ?_
    refine zS_aaload1 (i := 1) (zdec eX8_isCaught 12 rfl) (Or.inr (Or.inl rfl)) ⟨by decide, rfl⟩ rfl rfl rfl (by omega) (by omega) ?_
    refine zS_iconst (zdec eX8_isCaught 13 rfl) rfl ?_
    refine zS_ialoadE (v := (pBy p b)) (zdec eX8_isCaught 14 rfl) (zrow_18 (by omega) (by omega)) (by decide) (by decide) (R.by' (by omega) (by omega)) ?_
    refine zS_icmp_gt (tgt := 32) (zdec eX8_isCaught 15 rfl) rfl (fun c2 => ?_) (fun c2 => ?_)
    · refine zS_iconst (zdec eX8_isCaught 18 rfl) rfl ?_
      exact zlZ (zdec eX8_isCaught 19 rfl) rfl (Or.inl rfl) (by rw [d2i_f]; intro z; first | exact d2i_0.mp c1 z.1 | (have e := d2i_n.mp c1; unfold dayC at c2; rw [if_pos e] at c2; omega))
    · refine zS_iconst (zdec eX8_isCaught 16 rfl) rfl ?_
      refine zS_goto (tgt := 33) (zdec eX8_isCaught 17 rfl) rfl ?_
      exact zlZ (zdec eX8_isCaught 19 rfl) rfl (Or.inr rfl) (by rw [d2i_t]; have e := d2i_n.mp c1; unfold dayC at c2; rw [if_pos e] at c2; omega)
theorem c_dayOrLast {d : Nat} {h : zH} {p : Pb} {q : Int → Int} {b : Int} (hd : 1 ≤ d) (V : PV p) (R : WC h p) (h0 : 0 ≤ b) (h1 : b < pNb p) (S : PlC h p q) (q0 : ∀ b, 0 ≤ q b) (q1 : ∀ b, q b ≤ pDays p) : zPI d mX8_dayOrLast [zA 14, zI b] h (q b) := by
  have nb := V.nb
  have z0 := q0 b
  have z1 := q1 b
  refine zmet rfl rfl rfl ?_
  refine zS_aload_n (zdec eX8_dayOrLast 0 rfl) rfl rfl ?_
  refine zS_iload_n (zdec eX8_dayOrLast 1 rfl) rfl ?_
  refine zvI (M' := mX8_isPaid) (As := [zI b]) (st := []) (zdec eX8_dayOrLast 2 rfl) kM_X8_140 kV_X8_isPaid ⟨by decide, rfl⟩ rfl rfl rfl rfl rfl (by omega) (c_isPaid V R (by omega) (by omega) S (q0 _)) ?_
  refine zS_if_eq (tgt := 17) (zdec eX8_dayOrLast 3 rfl) rfl (fun c1 => ?_) (fun c1 => ?_)
  · refine zS_aload_n (zdec eX8_dayOrLast 9 rfl) rfl rfl ?_
    refine zS_getref (i := 18) (zdec eX8_dayOrLast 10 rfl) kF_X8_12 ⟨by decide, rfl⟩ rfl rfl rfl rfl rfl ?_
    refine zS_getfieldE (x := 1) (v := (pDays p)) (zdec eX8_dayOrLast 11 rfl) kF_X8_79 ⟨by decide, rfl⟩ rfl rfl rfl R.days ?_
    exact zlI (zdec eX8_dayOrLast 12 rfl) rfl (by first | (have e := d2i_0.mp c1; omega) | (have e := d2i_n.mp c1; unfold dayC; rw [if_pos e]))
  · refine zS_aload_n (zdec eX8_dayOrLast 4 rfl) rfl rfl ?_
    refine zS_getref (i := 21) (zdec eX8_dayOrLast 5 rfl) kF_X8_25 ⟨by decide, rfl⟩ rfl rfl rfl rfl rfl ?_
    refine zS_iload_n (zdec eX8_dayOrLast 6 rfl) rfl ?_
    refine zS_ialoadE (v := (dayC p q b)) (zdec eX8_dayOrLast 7 rfl) ⟨by decide, rfl⟩ (by omega) (by omega) (S.day (by omega) (by omega)) ?_
    refine zS_goto (tgt := 24) (zdec eX8_dayOrLast 8 rfl) rfl ?_
    exact zlI (zdec eX8_dayOrLast 12 rfl) rfl (by first | (have e := d2i_0.mp c1; omega) | (have e := d2i_n.mp c1; unfold dayC; rw [if_pos e]))
theorem c_feeFor {d : Nat} {h : zH} {p : Pb} {q : Int → Int} {x : Int} (V : PV p) (R : WC h p) (F : FB (h 31 x) p q x) (h0 : 0 ≤ x) (h1 : x < pDays p) : zPI d mX8_feeFor [zA 14, zI x] h (if usedP p q x then 0 else pFee p) := by
  have nb := V.days
  have f := F.zero V
  refine zmet rfl rfl rfl ?_
  refine zS_aload_n (zdec eX8_feeFor 0 rfl) rfl rfl ?_
  refine zS_getref (i := 24) (zdec eX8_feeFor 1 rfl) kF_X8_34 ⟨by decide, rfl⟩ rfl rfl rfl rfl rfl ?_
  refine zS_iload_n (zdec eX8_feeFor 2 rfl) rfl ?_
  refine zS_ialoadE (v := (h 31 x)) (zdec eX8_feeFor 3 rfl) ⟨by decide, rfl⟩ (by omega) (by omega) rfl ?_
  refine zS_if_ne (tgt := 19) (zdec eX8_feeFor 4 rfl) rfl (fun c1 => ?_) (fun c1 => ?_)
  · refine zS_iconst (zdec eX8_feeFor 9 rfl) rfl ?_
    exact zlI (zdec eX8_feeFor 10 rfl) rfl (by rw [show usedP p q x = true by rcases Bool.eq_false_or_eq_true (usedP p q x) with e | e; exact e; exact absurd (f.mpr e) c1]; rfl)
  · refine zS_aload_n (zdec eX8_feeFor 5 rfl) rfl rfl ?_
    refine zS_getref (i := 18) (zdec eX8_feeFor 6 rfl) kF_X8_12 ⟨by decide, rfl⟩ rfl rfl rfl rfl rfl ?_
    refine zS_getfieldE (x := 6) (v := (pFee p)) (zdec eX8_feeFor 7 rfl) kF_X8_146 ⟨by decide, rfl⟩ rfl rfl rfl R.fee ?_
    refine zS_goto (tgt := 20) (zdec eX8_feeFor 8 rfl) rfl ?_
    exact zlI (zdec eX8_feeFor 10 rfl) rfl (by rw [f.mp c1]; rfl)
theorem c_rankOf {d : Nat} {h : zH} {p : Pb} {b : Int} (V : PV p) (R : WC h p) (h0 : 0 ≤ b) (h1 : b < pNb p) : zPI d mX8_rankOf [zA 14, zI b] h (pRk p b) := by
  have nb := V.nb
  have o := V.of' h0 h1
  refine zmet rfl rfl rfl ?_
  refine zS_aload_n (zdec eX8_rankOf 0 rfl) rfl rfl ?_
  refine zS_getref (i := 18) (zdec eX8_rankOf 1 rfl) kF_X8_12 ⟨by decide, rfl⟩ rfl rfl rfl rfl rfl ?_
  refine zS_getref (i := 25) (zdec eX8_rankOf 2 rfl) kF_X8_122 ⟨by decide, rfl⟩ rfl rfl rfl rfl rfl ?_
  refine zS_aload_n (zdec eX8_rankOf 3 rfl) rfl rfl ?_
  refine zS_getref (i := 18) (zdec eX8_rankOf 4 rfl) kF_X8_12 ⟨by decide, rfl⟩ rfl rfl rfl rfl rfl ?_
  refine zS_getref (i := 26) (zdec eX8_rankOf 5 rfl) kF_X8_75 ⟨by decide, rfl⟩ rfl rfl rfl rfl rfl ?_
  refine zS_iload_n (zdec eX8_rankOf 6 rfl) rfl ?_
  refine zS_aaload1 (i := 1) (zdec eX8_rankOf 7 rfl) (Or.inr (Or.inl rfl)) ⟨by decide, rfl⟩ rfl rfl rfl (by omega) (by omega) ?_
  refine zS_iconst (zdec eX8_rankOf 8 rfl) rfl ?_
  refine zS_ialoadE (v := (pOf p b)) (zdec eX8_rankOf 9 rfl) (zrow_18 (by omega) (by omega)) (by decide) (by decide) (R.of' (by omega) (by omega)) ?_
  refine zS_ialoadE (v := (pRk p b)) (zdec eX8_rankOf 10 rfl) ⟨by decide, rfl⟩ (by omega) (by omega) (R.rk (by omega) (by omega)) ?_
  exact zlI (zdec eX8_rankOf 11 rfl) rfl rfl

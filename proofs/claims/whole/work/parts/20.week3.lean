theorem c_pay {d : Nat} {h : zH} {p : Pb} {q : Int → Int} {b x : Int} (hd : 2 ≤ d) (V : PV p) (R : WC h p) (S : PlC h p q) (h0 : 0 ≤ b) (h1 : b < pNb p) (hi : pIn p b = true) (hq : q b = pDays p) (x0 : 0 ≤ x) (x1 : x < pDays p) : zMV d mX8_pay [zA 14, zI b, zI x] h (fun h' => PlC h' p (updI q b x) ∧ Fr sPay h h') := by
  have nb := V.nb
  have dy := V.days
  have pr := priceB V h0 h1 (show x ≤ 7 by omega)
  have fe := V.fee
  have gp := goesB V q h0 h1 (show x ≤ 7 by omega)
  have sp : priceP p b x + (if usedP p q x then 0 else pFee p) = goesP p q b x := rfl
  have R3 : WC (zset (zset h 28 b x) 31 x (zOr (h 31 x) (zShl 1 b))) p := (R.set V (by unfold wcP; omega)).set V (by unfold wcP; omega)
  have B3 : ∀ j, 0 ≤ j → j < pDays p → -1000000 ≤ (zset (zset h 28 b x) 31 x (zOr (h 31 x) (zShl 1 b))) 30 j ∧ (zset (zset h 28 b x) 31 x (zOr (h 31 x) (zShl 1 b))) 30 j ≤ 1000000 := fun j j0 j1 => by rw [zset_k (by decide), zset_k (by decide), S.cash j0 j1]; have := cashB V q j0 j1; omega
  refine zmet rfl rfl rfl ?_
  refine zS_aload_n (zdec eX8_pay 0 rfl) rfl rfl ?_
  refine zS_iload_n (zdec eX8_pay 1 rfl) rfl ?_
  refine zS_iload_n (zdec eX8_pay 2 rfl) rfl ?_
  refine zvI (M' := mX8_price) (As := [zI b, zI x]) (st := []) (zdec eX8_pay 3 rfl) kM_X8_134 kV_X8_price ⟨by decide, rfl⟩ rfl rfl rfl rfl rfl (by omega) (c_price (by omega) V R (by omega) (by omega) (by omega) (by omega)) ?_
  refine zS_aload_n (zdec eX8_pay 4 rfl) rfl rfl ?_
  refine zS_iload_n (zdec eX8_pay 5 rfl) rfl ?_
  refine zvI (M' := mX8_feeFor) (As := [zI x]) (st := [zI (priceP p b x)]) (zdec eX8_pay 6 rfl) kM_X8_137 kV_X8_feeFor ⟨by decide, rfl⟩ rfl rfl rfl rfl rfl (by omega) (c_feeFor V R (S.file (by omega) (by omega)) (by omega) (by omega)) ?_
  refine zS_iadd (zdec eX8_pay 7 rfl) ⟨by omega, by omega⟩ ?_
  refine zS_istore_n (zdec eX8_pay 8 rfl) rfl ?_
  refine zS_aload_n (zdec eX8_pay 9 rfl) rfl rfl ?_
  refine zS_getref (i := 21) (zdec eX8_pay 10 rfl) kF_X8_25 ⟨by decide, rfl⟩ rfl rfl rfl rfl rfl ?_
  refine zS_iload_n (zdec eX8_pay 11 rfl) rfl ?_
  refine zS_iload_n (zdec eX8_pay 12 rfl) rfl ?_
  refine zS_iastore (zdec eX8_pay 13 rfl) ⟨by decide, rfl⟩ (by omega) (by omega) ?_
  refine zS_aload_n (zdec eX8_pay 14 rfl) rfl rfl ?_
  refine zS_getref (i := 24) (zdec eX8_pay 15 rfl) kF_X8_34 ⟨by decide, rfl⟩ rfl rfl rfl rfl rfl ?_
  refine zS_iload_n (zdec eX8_pay 16 rfl) rfl ?_
  refine zS_dup2 (zdec eX8_pay 17 rfl) (fun q => by cases q) (fun q => by cases q) ?_
  refine zS_ialoadE (v := (h 31 x)) (zdec eX8_pay 18 rfl) ⟨by decide, rfl⟩ (by omega) (by omega) (congrFun (zset_k (by decide)) _) ?_
  refine zS_iconst (zdec eX8_pay 19 rfl) rfl ?_
  refine zS_iload_n (zdec eX8_pay 20 rfl) rfl ?_
  refine zS_ishl (zdec eX8_pay 21 rfl) ?_
  refine zS_ior (zdec eX8_pay 22 rfl) ?_
  refine zS_iastore (zdec eX8_pay 23 rfl) ⟨by decide, rfl⟩ (by omega) (by omega) ?_
  refine zS_aload_n (zdec eX8_pay 24 rfl) rfl rfl ?_
  refine zS_iload_n (zdec eX8_pay 25 rfl) rfl ?_
  refine zS_iload_n (zdec eX8_pay 26 rfl) rfl ?_
  refine zvMV (M' := mX8_spend) (As := [zI x, zI ((priceP p b x) + (if usedP p q x then 0 else pFee p))]) (st := []) (zdec eX8_pay 27 rfl) kM_X8_149 kV_X8_spend ⟨by decide, rfl⟩ rfl rfl rfl rfl rfl (by omega) (c_spend V R3 B3 ⟨by omega, by omega⟩ (by omega) (by omega)) (fun h4 ⟨e1, e2⟩ => ?_)
  exact zlMV (zdec eX8_pay 28 rfl) rfl (pay_st V S h0 h1 hi hq x0 x1 e1 e2)

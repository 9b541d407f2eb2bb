/-! LAWFUL PLANS -/
def badP (p : Pb) (q : Int → Int) (d : Int) : Bool := (usedP p q d && pCl p d) || (anyI (usedP p q) (d + 1) && decide (cashP p q d < pFl p))
def lawP (p : Pb) (q : Int → Int) : Bool := !anyI (badP p q) (pDays p)
theorem anyI_next {f : Int → Bool} {e : Int} (h0 : 0 ≤ e) (h : anyI f e = false) (hn : ¬ f e = true) : anyI f (e + 1) = false := by
  rw [anyI_s _ h0, h, Bool.false_or]
  exact Bool.eq_false_iff.mpr hn
theorem bad_iff {p : Pb} {q : Int → Int} {e x : Int} (h0 : 0 ≤ e) (u : x = 0 ↔ usedP p q e = false) : badP p q e = true ↔ (x ≠ 0 ∧ b2i (pCl p e) ≠ 0) ∨ ((b2i (anyI (usedP p q) e) ≠ 0 ∨ x ≠ 0) ∧ cashP p q e < pFl p) := by
  have u' : x ≠ 0 ↔ usedP p q e = true := by rw [Ne, u]; simp
  unfold badP
  rw [anyI_s _ h0, u', b2i_n, b2i_n]
  simp
theorem beg_iff {p : Pb} {q : Int → Int} {e x : Int} (h0 : 0 ≤ e) (u : x = 0 ↔ usedP p q e = false) : b2i (anyI (usedP p q) (e + 1)) = 0 ↔ (b2i (anyI (usedP p q) e) = 0 ∧ x = 0) := by
  rw [b2i_0, b2i_0, u, anyI_s _ h0]
  simp
theorem c_takeBack {d : Nat} {h : zH} {p : Pb} {q : Int → Int} {b x : Int} (hd : 2 ≤ d) (V : PV p) (R : WC h p) (S : PlC h p q) (h0 : 0 ≤ b) (h1 : b < pNb p) (hi : pIn p b = true) (hq : q b = x) (x0 : 0 ≤ x) (x1 : x < pDays p) : zMV d mX8_takeBack [zA 14, zI b] h (fun h' => PlC h' p (updI q b (pDays p)) ∧ Fr sPay h h') := by
  have nb := V.nb
  have dy := V.days
  have pr := priceB V h0 h1 (show x ≤ 7 by omega)
  have fe := V.fee
  have gp := goesB V (updI q b (pDays p)) h0 h1 (show x ≤ 7 by omega)
  have sp : -priceP p b x - (if usedP p (updI q b (pDays p)) x then 0 else pFee p) = -goesP p (updI q b (pDays p)) b x := by unfold goesP; omega
  have ub : 0 ≤ (if usedP p (updI q b (pDays p)) x then 0 else pFee p) ∧ (if usedP p (updI q b (pDays p)) x then 0 else pFee p) ≤ 200 := by split <;> omega
  have R3 : WC (zset (zset h 28 b (-1)) 31 x (zAnd (h 31 x) (zXor (zShl 1 b) (-1)))) p := (R.set V (by unfold wcP; omega)).set V (by unfold wcP; omega)
  have F3 : FB ((zset (zset h 28 b (-1)) 31 x (zAnd (h 31 x) (zXor (zShl 1 b) (-1)))) 31 x) p (updI q b (pDays p)) x := by have f := (S.file x0 x1).dn (x := x) h0 h1 (by omega) hi hq x1; rw [if_pos rfl] at f; rw [zset_s]; exact f
  have B3 : ∀ j, 0 ≤ j → j < pDays p → -1000000 ≤ (zset (zset h 28 b (-1)) 31 x (zAnd (h 31 x) (zXor (zShl 1 b) (-1)))) 30 j ∧ (zset (zset h 28 b (-1)) 31 x (zAnd (h 31 x) (zXor (zShl 1 b) (-1)))) 30 j ≤ 1000000 := fun j j0 j1 => by rw [zset_k (by decide), zset_k (by decide), S.cash j0 j1]; have := cashB V q j0 j1; omega
  refine zmet rfl rfl rfl ?_
  refine zS_aload_n (zdec eX8_takeBack 0 rfl) rfl rfl ?_
  refine zS_getref (i := 21) (zdec eX8_takeBack 1 rfl) kF_X8_25 ⟨by decide, rfl⟩ rfl rfl rfl rfl rfl ?_
  refine zS_iload_n (zdec eX8_takeBack 2 rfl) rfl ?_
  refine zS_ialoadE (v := x) (zdec eX8_takeBack 3 rfl) ⟨by decide, rfl⟩ (by omega) (by omega) ((S.day h0 h1).trans (by unfold dayC; rw [hq, if_pos x1])) ?_
  refine zS_istore_n (zdec eX8_takeBack 4 rfl) rfl ?_
  refine zS_iload_n (zdec eX8_takeBack 5 rfl) rfl ?_
  refine zS_iconst (zdec eX8_takeBack 6 rfl) rfl ?_
  refine zS_icmp_eq (tgt := 51) (zdec eX8_takeBack 7 rfl) rfl (fun cz => absurd cz (by omega)) (fun cz => ?_)
  refine zS_aload_n (zdec eX8_takeBack 8 rfl) rfl rfl ?_
  refine zS_getref (i := 21) (zdec eX8_takeBack 9 rfl) kF_X8_25 ⟨by decide, rfl⟩ rfl rfl rfl rfl rfl ?_
  refine zS_iload_n (zdec eX8_takeBack 10 rfl) rfl ?_
  refine zS_iconst (zdec eX8_takeBack 11 rfl) rfl ?_
  refine zS_iastore (zdec eX8_takeBack 12 rfl) ⟨by decide, rfl⟩ (by omega) (by omega) ?_
  refine zS_aload_n (zdec eX8_takeBack 13 rfl) rfl rfl ?_
  refine zS_getref (i := 24) (zdec eX8_takeBack 14 rfl) kF_X8_34 ⟨by decide, rfl⟩ rfl rfl rfl rfl rfl ?_
  refine zS_iload_n (zdec eX8_takeBack 15 rfl) rfl ?_
  refine zS_dup2 (zdec eX8_takeBack 16 rfl) (fun q => by cases q) (fun q => by cases q) ?_
  refine zS_ialoadE (v := (h 31 x)) (zdec eX8_takeBack 17 rfl) ⟨by decide, rfl⟩ (by omega) (by omega) (congrFun (zset_k (by decide)) _) ?_
  refine zS_iconst (zdec eX8_takeBack 18 rfl) rfl ?_
  refine zS_iload_n (zdec eX8_takeBack 19 rfl) rfl ?_
  refine zS_ishl (zdec eX8_takeBack 20 rfl) ?_
  refine zS_iconst (zdec eX8_takeBack 21 rfl) rfl ?_
  refine zS_ixor (zdec eX8_takeBack 22 rfl) ?_
  refine zS_iand (zdec eX8_takeBack 23 rfl) ?_
  refine zS_iastore (zdec eX8_takeBack 24 rfl) ⟨by decide, rfl⟩ (by omega) (by omega) ?_
  refine zS_aload_n (zdec eX8_takeBack 25 rfl) rfl rfl ?_
  refine zS_iload_n (zdec eX8_takeBack 26 rfl) rfl ?_
  refine zS_aload_n (zdec eX8_takeBack 27 rfl) rfl rfl ?_
  refine zS_iload_n (zdec eX8_takeBack 28 rfl) rfl ?_
  refine zS_iload_n (zdec eX8_takeBack 29 rfl) rfl ?_
  refine zvI (M' := mX8_price) (As := [zI b, zI x]) (st := [zI x, zA 14]) (zdec eX8_takeBack 30 rfl) kM_X8_134 kV_X8_price ⟨by decide, rfl⟩ rfl rfl rfl rfl rfl (by omega) (c_price (by omega) V R3 h0 h1 x0 (by omega)) ?_
  refine zS_ineg (zdec eX8_takeBack 31 rfl) ⟨by omega, by omega⟩ ?_
  refine zS_aload_n (zdec eX8_takeBack 32 rfl) rfl rfl ?_
  refine zS_iload_n (zdec eX8_takeBack 33 rfl) rfl ?_
  refine zvI (M' := mX8_feeFor) (As := [zI x]) (st := [zI (-(priceP p b x)), zI x, zA 14]) (zdec eX8_takeBack 34 rfl) kM_X8_137 kV_X8_feeFor ⟨by decide, rfl⟩ rfl rfl rfl rfl rfl (by omega) (c_feeFor V R3 F3 x0 x1) ?_
  refine zS_isub (zdec eX8_takeBack 35 rfl) ⟨by omega, by omega⟩ ?_
  refine zvMV (M' := mX8_spend) (As := [zI x, zI ((-(priceP p b x)) - (if usedP p (updI q b (pDays p)) x then 0 else pFee p))]) (st := []) (zdec eX8_takeBack 36 rfl) kM_X8_149 kV_X8_spend ⟨by decide, rfl⟩ rfl rfl rfl rfl rfl (by omega) (c_spend V R3 B3 ⟨by omega, by omega⟩ (by omega) (by omega)) (fun h4 ⟨e1, e2⟩ => ?_)
  exact zlMV (zdec eX8_takeBack 37 rfl) rfl (back_st V S h0 h1 hi hq x0 x1 (fun j => by rw [e1 j, sp]) e2)
theorem L_lawful {d : Nat} {h : zH} {p : Pb} {q : Int → Int} (hd : 1 ≤ d) (V : PV p) (R : WC h p) (S : PlC h p q) : ∀ (n : Nat) (e : Int), 0 ≤ e → e + n = pDays p → anyI (badP p q) e = false → zS mX8_isLawful (zr d) 4 [zA 14, zI (b2i (anyI (usedP p q) e)), zI e] [] TT h (zOne (b2i (lawP p q)) h) := by
  intro n
  induction n with
  | zero =>
    intro e a1 a2 i1
    have dy := V.days
    refine zS_iload_n (zdec eX8_isLawful 4 rfl) rfl ?_
    refine zS_aload_n (zdec eX8_isLawful 5 rfl) rfl rfl ?_
    refine zS_getref (i := 18) (zdec eX8_isLawful 6 rfl) kF_X8_12 ⟨by decide, rfl⟩ rfl rfl rfl rfl rfl ?_
    refine zS_getfieldE (x := 1) (v := (pDays p)) (zdec eX8_isLawful 7 rfl) kF_X8_79 ⟨by decide, rfl⟩ rfl rfl rfl R.days ?_
    refine zS_icmp_ge (tgt := 76) (zdec eX8_isLawful 8 rfl) rfl (fun cz => ?_) (fun cz => absurd (by omega) cz)
    refine zS_iconst (zdec eX8_isLawful 42 rfl) rfl ?_
    exact zlZ (zdec eX8_isLawful 43 rfl) rfl (Or.inr rfl) (by unfold lawP; rw [show pDays p = e by omega, i1]; rfl)
  | succ n ih =>
    intro e a1 a2 i1
    have dy := V.days
    have u := (S.file (show 0 ≤ e by omega) (show e < pDays p by omega)).zero V
    have bi := bad_iff a1 u
    have gi := beg_iff a1 u
    have y1 := b2i_01 (anyI (usedP p q) e)
    have y2 := b2i_01 (anyI (usedP p q) (e + 1))
    have y3 := b2i_01 (pCl p e)
    refine zS_iload_n (zdec eX8_isLawful 4 rfl) rfl ?_
    refine zS_aload_n (zdec eX8_isLawful 5 rfl) rfl rfl ?_
    refine zS_getref (i := 18) (zdec eX8_isLawful 6 rfl) kF_X8_12 ⟨by decide, rfl⟩ rfl rfl rfl rfl rfl ?_
    refine zS_getfieldE (x := 1) (v := (pDays p)) (zdec eX8_isLawful 7 rfl) kF_X8_79 ⟨by decide, rfl⟩ rfl rfl rfl R.days ?_
    refine zS_icmp_ge (tgt := 76) (zdec eX8_isLawful 8 rfl) rfl (fun cz => absurd cz (by omega)) (fun cz => ?_)
    refine zS_iload_n (zdec eX8_isLawful 9 rfl) rfl ?_
    refine zS_if_ne (tgt := 28) (zdec eX8_isLawful 10 rfl) rfl (fun c1 => ?_) (fun c1 => ?_)
    · refine zS_iconst (zdec eX8_isLawful 16 rfl) rfl ?_
      refine zS_goto (tgt := 33) (zdec eX8_isLawful 17 rfl) rfl ?_
      refine zS_istore_n (zdec eX8_isLawful 19 rfl) rfl ?_
      refine zS_aload_n (zdec eX8_isLawful 20 rfl) rfl rfl ?_
      refine zS_getref (i := 24) (zdec eX8_isLawful 21 rfl) kF_X8_34 ⟨by decide, rfl⟩ rfl rfl rfl rfl rfl ?_
      refine zS_iload_n (zdec eX8_isLawful 22 rfl) rfl ?_
      refine zS_ialoadE (v := (h 31 e)) (zdec eX8_isLawful 23 rfl) ⟨by decide, rfl⟩ (by omega) (by omega) rfl ?_
      refine zS_if_eq (tgt := 51) (zdec eX8_isLawful 24 rfl) rfl (fun c2 => ?_) (fun c2 => ?_)
      · refine zS_iload_n (zdec eX8_isLawful 29 rfl) rfl ?_
        refine zS_if_eq (tgt := 70) (zdec eX8_isLawful 30 rfl) rfl (fun cz => absurd cz (by decide)) (fun cz => ?_)
        refine zS_aload_n (zdec eX8_isLawful 31 rfl) rfl rfl ?_
        refine zS_getref (i := 23) (zdec eX8_isLawful 32 rfl) kF_X8_31 ⟨by decide, rfl⟩ rfl rfl rfl rfl rfl ?_
        refine zS_iload_n (zdec eX8_isLawful 33 rfl) rfl ?_
        refine zS_ialoadE (v := (cashP p q e)) (zdec eX8_isLawful 34 rfl) ⟨by decide, rfl⟩ (by omega) (by omega) (S.cash (by omega) (by omega)) ?_
        refine zS_aload_n (zdec eX8_isLawful 35 rfl) rfl rfl ?_
        refine zS_getfieldE (x := 3) (v := (pFl p)) (zdec eX8_isLawful 36 rfl) kF_X8_52 ⟨by decide, rfl⟩ rfl rfl rfl R.fl ?_
        refine zS_icmp_ge (tgt := 70) (zdec eX8_isLawful 37 rfl) rfl (fun c3 => ?_) (fun c3 => ?_)
        · refine zS_iinc (zdec eX8_isLawful 40 rfl) rfl rfl ⟨by omega, by omega⟩ ?_
          refine zS_goto (tgt := 4) (zdec eX8_isLawful 41 rfl) rfl ?_
          have k := ih (e + 1) (by omega) (by omega) (anyI_next a1 i1 (fun z => by have := bi.mp z; omega))
          rw [show b2i (anyI (usedP p q) (e + 1)) = 1 by omega] at k
          exact k
        · refine zS_iconst (zdec eX8_isLawful 38 rfl) rfl ?_
          exact zlZ (zdec eX8_isLawful 39 rfl) rfl (Or.inl rfl) (by unfold lawP; rw [anyI_iff.mpr ⟨e, a1, by omega, bi.mpr (by omega)⟩]; rfl)
      · refine zS_aload_n (zdec eX8_isLawful 25 rfl) rfl rfl ?_
        refine zS_iload_n (zdec eX8_isLawful 26 rfl) rfl ?_
        refine zvI (M' := mX8_isClosed) (As := [zI e]) (st := []) (zdec eX8_isLawful 27 rfl) kM_X8_131 kV_X8_isClosed ⟨by decide, rfl⟩ rfl rfl rfl rfl rfl (by omega) (c_isClosed V R (by omega) (by omega)) ?_
        refine zS_if_ne (tgt := 68) (zdec eX8_isLawful 28 rfl) rfl (fun c3 => ?_) (fun c3 => ?_)
        · refine zS_iconst (zdec eX8_isLawful 38 rfl) rfl ?_
          exact zlZ (zdec eX8_isLawful 39 rfl) rfl (Or.inl rfl) (by unfold lawP; rw [anyI_iff.mpr ⟨e, a1, by omega, bi.mpr (by omega)⟩]; rfl)
        · refine zS_iload_n (zdec eX8_isLawful 29 rfl) rfl ?_
          refine zS_if_eq (tgt := 70) (zdec eX8_isLawful 30 rfl) rfl (fun cz => absurd cz (by decide)) (fun cz => ?_)
          refine zS_aload_n (zdec eX8_isLawful 31 rfl) rfl rfl ?_
          refine zS_getref (i := 23) (zdec eX8_isLawful 32 rfl) kF_X8_31 ⟨by decide, rfl⟩ rfl rfl rfl rfl rfl ?_
          refine zS_iload_n (zdec eX8_isLawful 33 rfl) rfl ?_
          refine zS_ialoadE (v := (cashP p q e)) (zdec eX8_isLawful 34 rfl) ⟨by decide, rfl⟩ (by omega) (by omega) (S.cash (by omega) (by omega)) ?_
          refine zS_aload_n (zdec eX8_isLawful 35 rfl) rfl rfl ?_
          refine zS_getfieldE (x := 3) (v := (pFl p)) (zdec eX8_isLawful 36 rfl) kF_X8_52 ⟨by decide, rfl⟩ rfl rfl rfl R.fl ?_
          refine zS_icmp_ge (tgt := 70) (zdec eX8_isLawful 37 rfl) rfl (fun c4 => ?_) (fun c4 => ?_)
          · refine zS_iinc (zdec eX8_isLawful 40 rfl) rfl rfl ⟨by omega, by omega⟩ ?_
            refine zS_goto (tgt := 4) (zdec eX8_isLawful 41 rfl) rfl ?_
            have k := ih (e + 1) (by omega) (by omega) (anyI_next a1 i1 (fun z => by have := bi.mp z; omega))
            rw [show b2i (anyI (usedP p q) (e + 1)) = 1 by omega] at k
            exact k
          · refine zS_iconst (zdec eX8_isLawful 38 rfl) rfl ?_
            exact zlZ (zdec eX8_isLawful 39 rfl) rfl (Or.inl rfl) (by unfold lawP; rw [anyI_iff.mpr ⟨e, a1, by omega, bi.mpr (by omega)⟩]; rfl)
    · refine zS_aload_n (zdec eX8_isLawful 11 rfl) rfl rfl ?_
      refine zS_getref (i := 24) (zdec eX8_isLawful 12 rfl) kF_X8_34 ⟨by decide, rfl⟩ rfl rfl rfl rfl rfl ?_
      refine zS_iload_n (zdec eX8_isLawful 13 rfl) rfl ?_
      refine zS_ialoadE (v := (h 31 e)) (zdec eX8_isLawful 14 rfl) ⟨by decide, rfl⟩ (by omega) (by omega) rfl ?_
      refine zS_if_eq (tgt := 32) (zdec eX8_isLawful 15 rfl) rfl (fun c2 => ?_) (fun c2 => ?_)
      · refine zS_iconst (zdec eX8_isLawful 18 rfl) rfl ?_
        refine zS_istore_n (zdec eX8_isLawful 19 rfl) rfl ?_
        refine zS_aload_n (zdec eX8_isLawful 20 rfl) rfl rfl ?_
        refine zS_getref (i := 24) (zdec eX8_isLawful 21 rfl) kF_X8_34 ⟨by decide, rfl⟩ rfl rfl rfl rfl rfl ?_
        refine zS_iload_n (zdec eX8_isLawful 22 rfl) rfl ?_
        refine zS_ialoadE (v := (h 31 e)) (zdec eX8_isLawful 23 rfl) ⟨by decide, rfl⟩ (by omega) (by omega) rfl ?_
        refine zS_if_eq (tgt := 51) (zdec eX8_isLawful 24 rfl) rfl (fun c3 => ?_) (fun c3 => ?_)
        · refine zS_iload_n (zdec eX8_isLawful 29 rfl) rfl ?_
          refine zS_if_eq (tgt := 70) (zdec eX8_isLawful 30 rfl) rfl (fun cz => ?_) (fun cz => absurd (by decide) cz)
          refine zS_iinc (zdec eX8_isLawful 40 rfl) rfl rfl ⟨by omega, by omega⟩ ?_
          refine zS_goto (tgt := 4) (zdec eX8_isLawful 41 rfl) rfl ?_
          have k := ih (e + 1) (by omega) (by omega) (anyI_next a1 i1 (fun z => by have := bi.mp z; omega))
          rw [show b2i (anyI (usedP p q) (e + 1)) = 0 by omega] at k
          exact k
        · refine zS_aload_n (zdec eX8_isLawful 25 rfl) rfl rfl ?_
          refine zS_iload_n (zdec eX8_isLawful 26 rfl) rfl ?_
          refine zvI (M' := mX8_isClosed) (As := [zI e]) (st := []) (zdec eX8_isLawful 27 rfl) kM_X8_131 kV_X8_isClosed ⟨by decide, rfl⟩ rfl rfl rfl rfl rfl (by omega) (c_isClosed V R (by omega) (by omega)) ?_
          refine zS_if_ne (tgt := 68) (zdec eX8_isLawful 28 rfl) rfl (fun c4 => ?_) (fun c4 => ?_)
          · refine zS_iconst (zdec eX8_isLawful 38 rfl) rfl ?_
            exact zlZ (zdec eX8_isLawful 39 rfl) rfl (Or.inl rfl) (by unfold lawP; rw [anyI_iff.mpr ⟨e, a1, by omega, bi.mpr (by omega)⟩]; rfl)
          · refine zS_iload_n (zdec eX8_isLawful 29 rfl) rfl ?_
            refine zS_if_eq (tgt := 70) (zdec eX8_isLawful 30 rfl) rfl (fun cz => ?_) (fun cz => absurd (by decide) cz)
            refine zS_iinc (zdec eX8_isLawful 40 rfl) rfl rfl ⟨by omega, by omega⟩ ?_
            refine zS_goto (tgt := 4) (zdec eX8_isLawful 41 rfl) rfl ?_
            have k := ih (e + 1) (by omega) (by omega) (anyI_next a1 i1 (fun z => by have := bi.mp z; omega))
            rw [show b2i (anyI (usedP p q) (e + 1)) = 0 by omega] at k
            exact k
      · refine zS_iconst (zdec eX8_isLawful 16 rfl) rfl ?_
        refine zS_goto (tgt := 33) (zdec eX8_isLawful 17 rfl) rfl ?_
        refine zS_istore_n (zdec eX8_isLawful 19 rfl) rfl ?_
        refine zS_aload_n (zdec eX8_isLawful 20 rfl) rfl rfl ?_
        refine zS_getref (i := 24) (zdec eX8_isLawful 21 rfl) kF_X8_34 ⟨by decide, rfl⟩ rfl rfl rfl rfl rfl ?_
        refine zS_iload_n (zdec eX8_isLawful 22 rfl) rfl ?_
        refine zS_ialoadE (v := (h 31 e)) (zdec eX8_isLawful 23 rfl) ⟨by decide, rfl⟩ (by omega) (by omega) rfl ?_
        refine zS_if_eq (tgt := 51) (zdec eX8_isLawful 24 rfl) rfl (fun c3 => ?_) (fun c3 => ?_)
        · refine zS_iload_n (zdec eX8_isLawful 29 rfl) rfl ?_
          refine zS_if_eq (tgt := 70) (zdec eX8_isLawful 30 rfl) rfl (fun cz => absurd cz (by decide)) (fun cz => ?_)
          refine zS_aload_n (zdec eX8_isLawful 31 rfl) rfl rfl ?_
          refine zS_getref (i := 23) (zdec eX8_isLawful 32 rfl) kF_X8_31 ⟨by decide, rfl⟩ rfl rfl rfl rfl rfl ?_
          refine zS_iload_n (zdec eX8_isLawful 33 rfl) rfl ?_
          refine zS_ialoadE (v := (cashP p q e)) (zdec eX8_isLawful 34 rfl) ⟨by decide, rfl⟩ (by omega) (by omega) (S.cash (by omega) (by omega)) ?_
          refine zS_aload_n (zdec eX8_isLawful 35 rfl) rfl rfl ?_
          refine zS_getfieldE (x := 3) (v := (pFl p)) (zdec eX8_isLawful 36 rfl) kF_X8_52 ⟨by decide, rfl⟩ rfl rfl rfl R.fl ?_
          refine zS_icmp_ge (tgt := 70) (zdec eX8_isLawful 37 rfl) rfl (fun c4 => ?_) (fun c4 => ?_)
          · refine zS_iinc (zdec eX8_isLawful 40 rfl) rfl rfl ⟨by omega, by omega⟩ ?_
            refine zS_goto (tgt := 4) (zdec eX8_isLawful 41 rfl) rfl ?_
            have k := ih (e + 1) (by omega) (by omega) (anyI_next a1 i1 (fun z => by have := bi.mp z; omega))
            rw [show b2i (anyI (usedP p q) (e + 1)) = 1 by omega] at k
            exact k
          · refine zS_iconst (zdec eX8_isLawful 38 rfl) rfl ?_
            exact zlZ (zdec eX8_isLawful 39 rfl) rfl (Or.inl rfl) (by unfold lawP; rw [anyI_iff.mpr ⟨e, a1, by omega, bi.mpr (by omega)⟩]; rfl)
        · refine zS_aload_n (zdec eX8_isLawful 25 rfl) rfl rfl ?_
          refine zS_iload_n (zdec eX8_isLawful 26 rfl) rfl ?_
          refine zvI (M' := mX8_isClosed) (As := [zI e]) (st := []) (zdec eX8_isLawful 27 rfl) kM_X8_131 kV_X8_isClosed ⟨by decide, rfl⟩ rfl rfl rfl rfl rfl (by omega) (c_isClosed V R (by omega) (by omega)) ?_
          refine zS_if_ne (tgt := 68) (zdec eX8_isLawful 28 rfl) rfl (fun c4 => ?_) (fun c4 => ?_)
          · refine zS_iconst (zdec eX8_isLawful 38 rfl) rfl ?_
            exact zlZ (zdec eX8_isLawful 39 rfl) rfl (Or.inl rfl) (by unfold lawP; rw [anyI_iff.mpr ⟨e, a1, by omega, bi.mpr (by omega)⟩]; rfl)
          · refine zS_iload_n (zdec eX8_isLawful 29 rfl) rfl ?_
            refine zS_if_eq (tgt := 70) (zdec eX8_isLawful 30 rfl) rfl (fun cz => absurd cz (by decide)) (fun cz => ?_)
            refine zS_aload_n (zdec eX8_isLawful 31 rfl) rfl rfl ?_
            refine zS_getref (i := 23) (zdec eX8_isLawful 32 rfl) kF_X8_31 ⟨by decide, rfl⟩ rfl rfl rfl rfl rfl ?_
            refine zS_iload_n (zdec eX8_isLawful 33 rfl) rfl ?_
            refine zS_ialoadE (v := (cashP p q e)) (zdec eX8_isLawful 34 rfl) ⟨by decide, rfl⟩ (by omega) (by omega) (S.cash (by omega) (by omega)) ?_
            refine zS_aload_n (zdec eX8_isLawful 35 rfl) rfl rfl ?_
            refine zS_getfieldE (x := 3) (v := (pFl p)) (zdec eX8_isLawful 36 rfl) kF_X8_52 ⟨by decide, rfl⟩ rfl rfl rfl R.fl ?_
            refine zS_icmp_ge (tgt := 70) (zdec eX8_isLawful 37 rfl) rfl (fun c5 => ?_) (fun c5 => ?_)
            · refine zS_iinc (zdec eX8_isLawful 40 rfl) rfl rfl ⟨by omega, by omega⟩ ?_
              refine zS_goto (tgt := 4) (zdec eX8_isLawful 41 rfl) rfl ?_
              have k := ih (e + 1) (by omega) (by omega) (anyI_next a1 i1 (fun z => by have := bi.mp z; omega))
              rw [show b2i (anyI (usedP p q) (e + 1)) = 1 by omega] at k
              exact k
            · refine zS_iconst (zdec eX8_isLawful 38 rfl) rfl ?_
              exact zlZ (zdec eX8_isLawful 39 rfl) rfl (Or.inl rfl) (by unfold lawP; rw [anyI_iff.mpr ⟨e, a1, by omega, bi.mpr (by omega)⟩]; rfl)
theorem c_isLawful {d : Nat} {h : zH} {p : Pb} {q : Int → Int} (hd : 1 ≤ d) (V : PV p) (R : WC h p) (S : PlC h p q) : zPI d mX8_isLawful [zA 14] h (b2i (lawP p q)) := by
  have dy := V.days
  refine zmet rfl rfl rfl ?_
  refine zS_iconst (zdec eX8_isLawful 0 rfl) rfl ?_
  refine zS_istore_n (zdec eX8_isLawful 1 rfl) rfl ?_
  refine zS_iconst (zdec eX8_isLawful 2 rfl) rfl ?_
  refine zS_istore_n (zdec eX8_isLawful 3 rfl) rfl ?_
  exact L_lawful hd V R S (pDays p).toNat 0 (by omega) (by omega) (anyI_0 _ (by omega))

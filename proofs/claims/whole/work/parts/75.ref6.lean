theorem zOr_0 {x : Int} (h0 : 0 ≤ x) (h1 : x < 2147483648) : zOr x 0 = x := by
  obtain ⟨n, rfl⟩ := Int.eq_ofNat_of_zero_le h0
  have := zOr_nat (a := n) (b := 0) (by omega) (by decide)
  rw [Nat.or_zero] at this
  exact this
theorem bits_or0 {f : Int → Bool} {k : Int} (h0 : 0 ≤ k) (h1 : k ≤ 30) : zOr (bitsI f k) 0 = bitsI f k := by
  have r := bitsI_rng (f := f) h0 h1
  have hp : (2 : Int) ^ k.toNat ≤ 2 ^ 30 := by
    have : (2 : Nat) ^ k.toNat ≤ 2 ^ 30 := Nat.pow_le_pow_right (by decide) (by omega)
    exact_mod_cast this
  exact zOr_0 r.1 (by omega)
theorem r_dayOf {d : Nat} {h : zH} {p : Pb} {q : Int → Int} {x : Int} (hd : 4 ≤ d) (V : PV p) (R : WR h p) (S : PlR h p q) (x0 : 0 ≤ x) (x1 : x < pNb p) (q1 : q x ≤ pDays p) : zPI d mX10_dayOf [zA 108, zI x] h (dayC p q x) := by
  have nb := V.nb
  refine zmet rfl rfl rfl ?_
  refine zS_aload_n (zdec eX10_dayOf 0 rfl) rfl rfl ?_
  refine zS_getref (i := 69) (zdec eX10_dayOf 1 rfl) kF_X10_59 ⟨by decide, rfl⟩ rfl rfl rfl rfl rfl ?_
  refine zS_iload_n (zdec eX10_dayOf 2 rfl) rfl ?_
  refine zS_ialoadE (v := (q x)) (zdec eX10_dayOf 3 rfl) ⟨by decide, rfl⟩ (by omega) (by omega) (S x (by omega) (by omega)) ?_
  refine zS_aload_n (zdec eX10_dayOf 4 rfl) rfl rfl ?_
  refine zvI (M' := mX10_days) (As := []) (st := [zI (q x)]) (zdec eX10_dayOf 5 rfl) kM_X10_240 kV_X10_days ⟨by decide, rfl⟩ rfl rfl rfl rfl rfl (by omega) (r_days R) ?_
  refine zS_icmp_ne (tgt := 17) (zdec eX10_dayOf 6 rfl) rfl (fun c1 => ?_) (fun c1 => ?_)
  · refine zS_aload_n (zdec eX10_dayOf 9 rfl) rfl rfl ?_
    refine zS_getref (i := 69) (zdec eX10_dayOf 10 rfl) kF_X10_59 ⟨by decide, rfl⟩ rfl rfl rfl rfl rfl ?_
    refine zS_iload_n (zdec eX10_dayOf 11 rfl) rfl ?_
    refine zS_ialoadE (v := (q x)) (zdec eX10_dayOf 12 rfl) ⟨by decide, rfl⟩ (by omega) (by omega) (S x (by omega) (by omega)) ?_
    exact zlI (zdec eX10_dayOf 13 rfl) rfl (by unfold dayC; rw [if_pos (by omega)])
  · refine zS_iconst (zdec eX10_dayOf 7 rfl) rfl ?_
    refine zS_goto (tgt := 23) (zdec eX10_dayOf 8 rfl) rfl ?_
    exact zlI (zdec eX10_dayOf 13 rfl) rfl (by unfold dayC; rw [if_neg (by omega)])
theorem r_isCaught {d : Nat} {h : zH} {p : Pb} {q : Int → Int} {x : Int} (hd : 4 ≤ d) (V : PV p) (R : WR h p) (S : PlR h p q) (x0 : 0 ≤ x) (x1 : x < pNb p) : zPI d mX10_isCaught [zA 108, zI x] h (d2i (q x < pDays p ∧ q x ≤ pBy p x)) := by
  have nb := V.nb
  refine zmet rfl rfl rfl ?_
  refine zS_aload_n (zdec eX10_isCaught 0 rfl) rfl rfl ?_
  refine zS_getref (i := 69) (zdec eX10_isCaught 1 rfl) kF_X10_59 ⟨by decide, rfl⟩ rfl rfl rfl rfl rfl ?_
  refine zS_iload_n (zdec eX10_isCaught 2 rfl) rfl ?_
  refine zS_ialoadE (v := (q x)) (zdec eX10_isCaught 3 rfl) ⟨by decide, rfl⟩ (by omega) (by omega) (S x (by omega) (by omega)) ?_
  refine zS_aload_n (zdec eX10_isCaught 4 rfl) rfl rfl ?_
  refine zvI (M' := mX10_days) (As := []) (st := [zI (q x)]) (zdec eX10_isCaught 5 rfl) kM_X10_240 kV_X10_days ⟨by decide, rfl⟩ rfl rfl rfl rfl rfl (by omega) (r_days R) ?_
  refine zS_icmp_ge (tgt := 37) (zdec eX10_isCaught 6 rfl) rfl (fun c1 => ?_) (fun c1 => ?_)
  · refine zS_iconst (zdec eX10_isCaught 22 rfl) rfl ?_
    exact zlZ (zdec eX10_isCaught 23 rfl) rfl (Or.inl rfl) (by rw [d2i_f (by omega)])
  · refine zS_aload_n (zdec eX10_isCaught 7 rfl) rfl rfl ?_
    refine zS_getref (i := 69) (zdec eX10_isCaught 8 rfl) kF_X10_59 ⟨by decide, rfl⟩ rfl rfl rfl rfl rfl ?_
    refine zS_iload_n (zdec eX10_isCaught 9 rfl) rfl ?_
    refine zS_ialoadE (v := (q x)) (zdec eX10_isCaught 10 rfl) ⟨by decide, rfl⟩ (by omega) (by omega) (S x (by omega) (by omega)) ?_
    refine zS_aload_n (zdec eX10_isCaught 11 rfl) rfl rfl ?_
    refine zS_getref (i := 63) (zdec eX10_isCaught 12 rfl) kF_X10_40 ⟨by decide, rfl⟩ rfl rfl rfl rfl rfl ?_
    refine zS_bipush (zdec eX10_isCaught 13 rfl) rfl rfl ?_
    refine zS_iload_n (zdec eX10_isCaught 14 rfl) rfl ?_
    refine zS_imul (zdec eX10_isCaught 15 rfl) ⟨by omega, by omega⟩ ?_
    refine zS_iconst (zdec eX10_isCaught 16 rfl) rfl ?_
    refine zS_iadd (zdec eX10_isCaught 17 rfl) ⟨by omega, by omega⟩ ?_
    refine zS_ialoadE (v := (pBy p x)) (zdec eX10_isCaught 18 rfl) ⟨by decide, rfl⟩ (by omega) (by omega) (R.by' (by omega) (by omega)) ?_
    refine zS_icmp_gt (tgt := 37) (zdec eX10_isCaught 19 rfl) rfl (fun c2 => ?_) (fun c2 => ?_)
    · refine zS_iconst (zdec eX10_isCaught 22 rfl) rfl ?_
      exact zlZ (zdec eX10_isCaught 23 rfl) rfl (Or.inl rfl) (by rw [d2i_f (by omega)])
    · refine zS_iconst (zdec eX10_isCaught 20 rfl) rfl ?_
      refine zS_goto (tgt := 38) (zdec eX10_isCaught 21 rfl) rfl ?_
      exact zlZ (zdec eX10_isCaught 23 rfl) rfl (Or.inr rfl) (by rw [d2i_t (by omega)])
theorem L_rfile {d : Nat} {h : zH} {p : Pb} {q : Int → Int} {x : Int} (hd : 4 ≤ d) (V : PV p) (R : WR h p) (S : PlR h p q) (hin : ∀ b, 0 ≤ b → b < pNb p → pIn p b = true) : ∀ (n : Nat) (e : Int), 0 ≤ e → e + n = pNb p → zS mX10_fileOn (zr d) 4 [zA 108, zI x, zI (bitsI (onP p q x) e), zI e] [] TT h (zOne (bitsI (onP p q x) (pNb p)) h) := by
  intro n
  induction n with
  | zero =>
    intro e a1 a2
    refine zS_iload_n (zdec eX10_fileOn 4 rfl) rfl ?_
    refine zS_aload_n (zdec eX10_fileOn 5 rfl) rfl rfl ?_
    refine zvI (M' := mX10_bills) (As := []) (st := [zI e]) (zdec eX10_fileOn 6 rfl) kM_X10_236 kV_X10_bills ⟨by decide, rfl⟩ rfl rfl rfl rfl rfl (by omega) (r_bills R) ?_
    refine zS_icmp_ge (tgt := 38) (zdec eX10_fileOn 7 rfl) rfl (fun cz => ?_) (fun cz => absurd (by omega) cz)
    refine zS_iload_n (zdec eX10_fileOn 24 rfl) rfl ?_
    exact zlI (zdec eX10_fileOn 25 rfl) rfl (by rw [show e = pNb p by omega])
  | succ n ih =>
    intro e a1 a2
    have nb := V.nb
    refine zS_iload_n (zdec eX10_fileOn 4 rfl) rfl ?_
    refine zS_aload_n (zdec eX10_fileOn 5 rfl) rfl rfl ?_
    refine zvI (M' := mX10_bills) (As := []) (st := [zI e]) (zdec eX10_fileOn 6 rfl) kM_X10_236 kV_X10_bills ⟨by decide, rfl⟩ rfl rfl rfl rfl rfl (by omega) (r_bills R) ?_
    refine zS_icmp_ge (tgt := 38) (zdec eX10_fileOn 7 rfl) rfl (fun cz => absurd cz (by omega)) (fun cz => ?_)
    refine zS_iload_n (zdec eX10_fileOn 8 rfl) rfl ?_
    refine zS_aload_n (zdec eX10_fileOn 9 rfl) rfl rfl ?_
    refine zS_getref (i := 69) (zdec eX10_fileOn 10 rfl) kF_X10_59 ⟨by decide, rfl⟩ rfl rfl rfl rfl rfl ?_
    refine zS_iload_n (zdec eX10_fileOn 11 rfl) rfl ?_
    refine zS_ialoadE (v := (q e)) (zdec eX10_fileOn 12 rfl) ⟨by decide, rfl⟩ (by omega) (by omega) (S e (by omega) (by omega)) ?_
    refine zS_iload_n (zdec eX10_fileOn 13 rfl) rfl ?_
    refine zS_icmp_ne (tgt := 29) (zdec eX10_fileOn 14 rfl) rfl (fun c1 => ?_) (fun c1 => ?_)
    · refine zS_iconst (zdec eX10_fileOn 19 rfl) rfl ?_
      refine zS_ior (zdec eX10_fileOn 20 rfl) ?_
      refine zS_istore_n (zdec eX10_fileOn 21 rfl) rfl ?_
      refine zS_iinc (zdec eX10_fileOn 22 rfl) rfl rfl ⟨by omega, by omega⟩ ?_
      refine zS_goto (tgt := 4) (zdec eX10_fileOn 23 rfl) rfl ?_
      have k := ih (e + 1) (by omega) (by omega)
      rw [bitsI_s _ a1] at k
      rw [if_neg (by unfold onP; rw [show (q e == x) = false by simpa using c1, Bool.and_false]; decide)] at k
      rw [bits_or0 a1 (by omega)]
      exact k
    · refine zS_iconst (zdec eX10_fileOn 15 rfl) rfl ?_
      refine zS_iload_n (zdec eX10_fileOn 16 rfl) rfl ?_
      refine zS_ishl (zdec eX10_fileOn 17 rfl) ?_
      refine zS_goto (tgt := 30) (zdec eX10_fileOn 18 rfl) rfl ?_
      refine zS_ior (zdec eX10_fileOn 20 rfl) ?_
      refine zS_istore_n (zdec eX10_fileOn 21 rfl) rfl ?_
      refine zS_iinc (zdec eX10_fileOn 22 rfl) rfl rfl ⟨by omega, by omega⟩ ?_
      refine zS_goto (tgt := 4) (zdec eX10_fileOn 23 rfl) rfl ?_
      have k := ih (e + 1) (by omega) (by omega)
      rw [bitsI_s _ a1] at k
      rw [if_pos (by unfold onP; rw [hin e a1 (by omega), c1, beq_self_eq_true]; rfl)] at k
      exact k
theorem r_fileOn {d : Nat} {h : zH} {p : Pb} {q : Int → Int} {x : Int} (hd : 4 ≤ d) (V : PV p) (R : WR h p) (S : PlR h p q) (hin : ∀ b, 0 ≤ b → b < pNb p → pIn p b = true) : zPI d mX10_fileOn [zA 108, zI x] h (bitsI (onP p q x) (pNb p)) := by
  have nb := V.nb
  refine zmet rfl rfl rfl ?_
  refine zS_iconst (zdec eX10_fileOn 0 rfl) rfl ?_
  refine zS_istore_n (zdec eX10_fileOn 1 rfl) rfl ?_
  refine zS_iconst (zdec eX10_fileOn 2 rfl) rfl ?_
  refine zS_istore_n (zdec eX10_fileOn 3 rfl) rfl ?_
  exact L_rfile hd V R S hin (pNb p).toNat 0 (by omega) (by omega)
theorem L_rpaid {d : Nat} {h : zH} {p : Pb} {q : Int → Int} {x : Int} (hd : 4 ≤ d) (V : PV p) (R : WR h p) (S : PlR h p q) (q0 : ∀ b, 0 ≤ q b) (q1 : ∀ b, q b ≤ pDays p) : ∀ (n : Nat) (e : Int), 0 ≤ e → e + n = pNb p → zS mX10_paidTo (zr d) 4 [zA 108, zI x, zI (sumI (fun b => if pOf p b = x ∧ q b < pDays p then priceP p b (q b) else 0) e), zI e] [] TT h (zOne (toP p q x) h) := by
  intro n
  induction n with
  | zero =>
    intro e a1 a2
    refine zS_iload_n (zdec eX10_paidTo 4 rfl) rfl ?_
    refine zS_aload_n (zdec eX10_paidTo 5 rfl) rfl rfl ?_
    refine zvI (M' := mX10_bills) (As := []) (st := [zI e]) (zdec eX10_paidTo 6 rfl) kM_X10_236 kV_X10_bills ⟨by decide, rfl⟩ rfl rfl rfl rfl rfl (by omega) (r_bills R) ?_
    refine zS_icmp_ge (tgt := 62) (zdec eX10_paidTo 7 rfl) rfl (fun cz => ?_) (fun cz => absurd (by omega) cz)
    refine zS_iload_n (zdec eX10_paidTo 37 rfl) rfl ?_
    exact zlI (zdec eX10_paidTo 38 rfl) rfl (by unfold toP; rw [show e = pNb p by omega])
  | succ n ih =>
    intro e a1 a2
    have nb := V.nb
    have dy := V.days
    have qe0 := q0 e
    have qe1 := q1 e
    have tb := toB V (q := q) (fun b => by have := q1 b; omega) x (k := e) a1 (by omega)
    have pr := priceB V a1 (show e < pNb p by omega) (d := q e) (by omega)
    refine zS_iload_n (zdec eX10_paidTo 4 rfl) rfl ?_
    refine zS_aload_n (zdec eX10_paidTo 5 rfl) rfl rfl ?_
    refine zvI (M' := mX10_bills) (As := []) (st := [zI e]) (zdec eX10_paidTo 6 rfl) kM_X10_236 kV_X10_bills ⟨by decide, rfl⟩ rfl rfl rfl rfl rfl (by omega) (r_bills R) ?_
    refine zS_icmp_ge (tgt := 62) (zdec eX10_paidTo 7 rfl) rfl (fun cz => absurd cz (by omega)) (fun cz => ?_)
    refine zS_iload_n (zdec eX10_paidTo 8 rfl) rfl ?_
    refine zS_aload_n (zdec eX10_paidTo 9 rfl) rfl rfl ?_
    refine zS_getref (i := 63) (zdec eX10_paidTo 10 rfl) kF_X10_40 ⟨by decide, rfl⟩ rfl rfl rfl rfl rfl ?_
    refine zS_bipush (zdec eX10_paidTo 11 rfl) rfl rfl ?_
    refine zS_iload_n (zdec eX10_paidTo 12 rfl) rfl ?_
    refine zS_imul (zdec eX10_paidTo 13 rfl) ⟨by omega, by omega⟩ ?_
    refine zS_ialoadE (v := (pOf p e)) (zdec eX10_paidTo 14 rfl) ⟨by decide, rfl⟩ (by omega) (by omega) (R.of' (by omega) (by omega)) ?_
    refine zS_iload_n (zdec eX10_paidTo 15 rfl) rfl ?_
    refine zS_icmp_ne (tgt := 53) (zdec eX10_paidTo 16 rfl) rfl (fun c1 => ?_) (fun c1 => ?_)
    · refine zS_iconst (zdec eX10_paidTo 32 rfl) rfl ?_
      refine zS_iadd (zdec eX10_paidTo 33 rfl) ⟨by omega, by omega⟩ ?_
      refine zS_istore_n (zdec eX10_paidTo 34 rfl) rfl ?_
      refine zS_iinc (zdec eX10_paidTo 35 rfl) rfl rfl ⟨by omega, by omega⟩ ?_
      refine zS_goto (tgt := 4) (zdec eX10_paidTo 36 rfl) rfl ?_
      have k := ih (e + 1) (by omega) (by omega)
      rw [sumI_s _ a1] at k
      rw [if_neg (fun w => c1 w.1)] at k
      exact k
    · refine zS_aload_n (zdec eX10_paidTo 17 rfl) rfl rfl ?_
      refine zS_getref (i := 69) (zdec eX10_paidTo 18 rfl) kF_X10_59 ⟨by decide, rfl⟩ rfl rfl rfl rfl rfl ?_
      refine zS_iload_n (zdec eX10_paidTo 19 rfl) rfl ?_
      refine zS_ialoadE (v := (q e)) (zdec eX10_paidTo 20 rfl) ⟨by decide, rfl⟩ (by omega) (by omega) (S e (by omega) (by omega)) ?_
      refine zS_aload_n (zdec eX10_paidTo 21 rfl) rfl rfl ?_
      refine zvI (M' := mX10_days) (As := []) (st := [zI (q e), zI (sumI (fun b => if pOf p b = x ∧ q b < pDays p then priceP p b (q b) else 0) e)]) (zdec eX10_paidTo 22 rfl) kM_X10_240 kV_X10_days ⟨by decide, rfl⟩ rfl rfl rfl rfl rfl (by omega) (r_days R) ?_
      refine zS_icmp_ge (tgt := 53) (zdec eX10_paidTo 23 rfl) rfl (fun c2 => ?_) (fun c2 => ?_)
      · refine zS_iconst (zdec eX10_paidTo 32 rfl) rfl ?_
        refine zS_iadd (zdec eX10_paidTo 33 rfl) ⟨by omega, by omega⟩ ?_
        refine zS_istore_n (zdec eX10_paidTo 34 rfl) rfl ?_
        refine zS_iinc (zdec eX10_paidTo 35 rfl) rfl rfl ⟨by omega, by omega⟩ ?_
        refine zS_goto (tgt := 4) (zdec eX10_paidTo 36 rfl) rfl ?_
        have k := ih (e + 1) (by omega) (by omega)
        rw [sumI_s _ a1] at k
        rw [if_neg (fun w => by have := w.2; omega)] at k
        exact k
      · refine zS_aload_n (zdec eX10_paidTo 24 rfl) rfl rfl ?_
        refine zS_iload_n (zdec eX10_paidTo 25 rfl) rfl ?_
        refine zS_aload_n (zdec eX10_paidTo 26 rfl) rfl rfl ?_
        refine zS_getref (i := 69) (zdec eX10_paidTo 27 rfl) kF_X10_59 ⟨by decide, rfl⟩ rfl rfl rfl rfl rfl ?_
        refine zS_iload_n (zdec eX10_paidTo 28 rfl) rfl ?_
        refine zS_ialoadE (v := (q e)) (zdec eX10_paidTo 29 rfl) ⟨by decide, rfl⟩ (by omega) (by omega) (S e (by omega) (by omega)) ?_
        refine zvI (M' := mX10_costOf) (As := [zI e, zI (q e)]) (st := [zI (sumI (fun b => if pOf p b = x ∧ q b < pDays p then priceP p b (q b) else 0) e)]) (zdec eX10_paidTo 30 rfl) kM_X10_283 kV_X10_costOf ⟨by decide, rfl⟩ rfl rfl rfl rfl rfl (by omega) (r_costOf (by omega) V R (by omega) (by omega) (by omega) (by omega)) ?_
        refine zS_goto (tgt := 54) (zdec eX10_paidTo 31 rfl) rfl ?_
        refine zS_iadd (zdec eX10_paidTo 33 rfl) ⟨by omega, by omega⟩ ?_
        refine zS_istore_n (zdec eX10_paidTo 34 rfl) rfl ?_
        refine zS_iinc (zdec eX10_paidTo 35 rfl) rfl rfl ⟨by omega, by omega⟩ ?_
        refine zS_goto (tgt := 4) (zdec eX10_paidTo 36 rfl) rfl ?_
        have k := ih (e + 1) (by omega) (by omega)
        rw [sumI_s _ a1] at k
        rw [if_pos ⟨c1, by omega⟩] at k
        exact k
theorem r_paidTo {d : Nat} {h : zH} {p : Pb} {q : Int → Int} {x : Int} (hd : 4 ≤ d) (V : PV p) (R : WR h p) (S : PlR h p q) (q0 : ∀ b, 0 ≤ q b) (q1 : ∀ b, q b ≤ pDays p) : zPI d mX10_paidTo [zA 108, zI x] h (toP p q x) := by
  have nb := V.nb
  refine zmet rfl rfl rfl ?_
  refine zS_iconst (zdec eX10_paidTo 0 rfl) rfl ?_
  refine zS_istore_n (zdec eX10_paidTo 1 rfl) rfl ?_
  refine zS_iconst (zdec eX10_paidTo 2 rfl) rfl ?_
  refine zS_istore_n (zdec eX10_paidTo 3 rfl) rfl ?_
  exact L_rpaid hd V R S q0 q1 (pNb p).toNat 0 (by omega) (by omega)
theorem L_rtight {d : Nat} {h : zH} {p : Pb} {q : Int → Int} (hd : 4 ≤ d) (V : PV p) (R : WR h p) (CA : CaR h p q) : ∀ (n : Nat) (e : Int), 1 ≤ e → e + n = pDays p → zS mX10_tightNow (zr d) 4 [zA 108, zI (amI (cashP p q) e), zI e] [] TT h (zOne (amI (cashP p q) (pDays p)) h) := by
  intro n
  induction n with
  | zero =>
    intro e a1 a2
    refine zS_iload_n (zdec eX10_tightNow 4 rfl) rfl ?_
    refine zS_aload_n (zdec eX10_tightNow 5 rfl) rfl rfl ?_
    refine zvI (M' := mX10_days) (As := []) (st := [zI e]) (zdec eX10_tightNow 6 rfl) kM_X10_240 kV_X10_days ⟨by decide, rfl⟩ rfl rfl rfl rfl rfl (by omega) (r_days R) ?_
    refine zS_icmp_ge (tgt := 35) (zdec eX10_tightNow 7 rfl) rfl (fun cz => ?_) (fun cz => absurd (by omega) cz)
    refine zS_iload_n (zdec eX10_tightNow 21 rfl) rfl ?_
    exact zlI (zdec eX10_tightNow 22 rfl) rfl (by rw [show e = pDays p by omega])
  | succ n ih =>
    intro e a1 a2
    have dy := V.days
    have ar := amI_rng (f := cashP p q) (k := e) a1
    refine zS_iload_n (zdec eX10_tightNow 4 rfl) rfl ?_
    refine zS_aload_n (zdec eX10_tightNow 5 rfl) rfl rfl ?_
    refine zvI (M' := mX10_days) (As := []) (st := [zI e]) (zdec eX10_tightNow 6 rfl) kM_X10_240 kV_X10_days ⟨by decide, rfl⟩ rfl rfl rfl rfl rfl (by omega) (r_days R) ?_
    refine zS_icmp_ge (tgt := 35) (zdec eX10_tightNow 7 rfl) rfl (fun cz => absurd cz (by omega)) (fun cz => ?_)
    refine zS_aload_n (zdec eX10_tightNow 8 rfl) rfl rfl ?_
    refine zS_getref (i := 70) (zdec eX10_tightNow 9 rfl) kF_X10_62 ⟨by decide, rfl⟩ rfl rfl rfl rfl rfl ?_
    refine zS_iload_n (zdec eX10_tightNow 10 rfl) rfl ?_
    refine zS_ialoadE (v := (cashP p q e)) (zdec eX10_tightNow 11 rfl) ⟨by decide, rfl⟩ (by omega) (by omega) (CA _ (by omega) (by omega)) ?_
    refine zS_aload_n (zdec eX10_tightNow 12 rfl) rfl rfl ?_
    refine zS_getref (i := 70) (zdec eX10_tightNow 13 rfl) kF_X10_62 ⟨by decide, rfl⟩ rfl rfl rfl rfl rfl ?_
    refine zS_iload_n (zdec eX10_tightNow 14 rfl) rfl ?_
    refine zS_ialoadE (v := (cashP p q (amI (cashP p q) e))) (zdec eX10_tightNow 15 rfl) ⟨by decide, rfl⟩ (by omega) (by omega) (CA _ (by omega) (by omega)) ?_
    refine zS_icmp_ge (tgt := 29) (zdec eX10_tightNow 16 rfl) rfl (fun c1 => ?_) (fun c1 => ?_)
    · refine zS_iinc (zdec eX10_tightNow 19 rfl) rfl rfl ⟨by omega, by omega⟩ ?_
      refine zS_goto (tgt := 4) (zdec eX10_tightNow 20 rfl) rfl ?_
      have k := ih (e + 1) (by omega) (by omega)
      rw [amI_s _ a1, if_neg (by omega)] at k
      exact k
    · refine zS_iload_n (zdec eX10_tightNow 17 rfl) rfl ?_
      refine zS_istore_n (zdec eX10_tightNow 18 rfl) rfl ?_
      refine zS_iinc (zdec eX10_tightNow 19 rfl) rfl rfl ⟨by omega, by omega⟩ ?_
      refine zS_goto (tgt := 4) (zdec eX10_tightNow 20 rfl) rfl ?_
      have k := ih (e + 1) (by omega) (by omega)
      rw [amI_s _ a1, if_pos (by omega)] at k
      exact k
theorem r_tightNow {d : Nat} {h : zH} {p : Pb} {q : Int → Int} (hd : 4 ≤ d) (V : PV p) (R : WR h p) (CA : CaR h p q) : zPI d mX10_tightNow [zA 108] h (amI (cashP p q) (pDays p)) := by
  have dy := V.days
  refine zmet rfl rfl rfl ?_
  refine zS_iconst (zdec eX10_tightNow 0 rfl) rfl ?_
  refine zS_istore_n (zdec eX10_tightNow 1 rfl) rfl ?_
  refine zS_iconst (zdec eX10_tightNow 2 rfl) rfl ?_
  refine zS_istore_n (zdec eX10_tightNow 3 rfl) rfl ?_
  exact L_rtight hd V R CA (pDays p - 1).toNat 1 (by omega) (by omega)
theorem r_laysNow {d : Nat} {h : zH} {D : Dk} {p : Pb} {q : Int → Int} (hp : pb0 D = p) (hq : planP p = q) (hd : 10 ≤ d) (VD : DV D) (hd0 : 0 < D 0 0) (RD : DR h 0 D) : zMV d mX10_laysNow [zA 108] h (fun h' => (PV p ∧ WR h' p ∧ PlR h' p q ∧ OrdR h' (ordP p) ∧ CaR h' p q) ∧ ((∀ b, 0 ≤ q b) ∧ (∀ b, q b ≤ pDays p)) ∧ Fr sQR h h' ∧ DR h' 0 D) := by
  refine zmet rfl rfl rfl ?_
  refine zS_aload_n (zdec eX10_laysNow 0 rfl) rfl rfl ?_
  refine zvMV (M' := mX10_lays) (As := []) (st := []) (zdec eX10_laysNow 1 rfl) kM_X10_314 kV_X10_lays ⟨by decide, rfl⟩ rfl rfl rfl rfl rfl (by omega) (r_lays (by omega) VD hd0 RD) (fun h2 ⟨R, cl2, g2⟩ => ?_)
  rw [hp] at R
  have V : PV p := by rw [← hp]; exact pb0_V VD hd0
  refine zS_aload_n (zdec eX10_laysNow 2 rfl) rfl rfl ?_
  refine zvMV (M' := mX10_runs) (As := []) (st := []) (zdec eX10_laysNow 3 rfl) kM_X10_317 kV_X10_runs ⟨by decide, rfl⟩ rfl rfl rfl rfl rfl (by omega) (r_runs (by omega) V R) (fun h3 ⟨S3, O3, g3⟩ => ?_)
  rw [hq] at S3
  have R3 : WR h3 p := R.fr g3 (fun k j z => by unfold wrP; omega)
  refine zS_aload_n (zdec eX10_laysNow 4 rfl) rfl rfl ?_
  refine zvMV (M' := mX10_laysCash) (As := []) (st := []) (zdec eX10_laysNow 5 rfl) kM_X10_292 kV_X10_laysCash ⟨by decide, rfl⟩ rfl rfl rfl rfl rfl (by omega) (r_laysCash (by omega) V R3 S3) (fun h4 ⟨CA, g4⟩ => ?_)
  have ff : Fr sQR h h4 := (g2.tr g3 (S'' := sQR) (fun k j z => by omega) (fun k j z => by omega)).tr g4 (fun k j z => z) (fun k j z => by omega)
  exact zlMV (zdec eX10_laysNow 6 rfl) rfl ⟨⟨V, R3.fr g4 (fun k j z => by unfold wrP; omega), S3.fr g4 (fun k j z => by omega), ⟨(g4 _ _ (by omega)).trans O3.1, fun i hi => (g4 _ _ (by omega)).trans (O3.2 i hi)⟩, CA⟩, ⟨fun b => by rw [← hq]; exact (planP_rng V b).1, fun b => by rw [← hq]; exact (planP_rng V b).2⟩, ff, RD.fr ff (fun k j z => by omega)⟩
theorem q_rank {d : Nat} {h : zH} {D : Dk} {x : Int} (hd : 200 ≤ d) (VD : DV D) (RD : DR h 0 D) : zMI d mX10_rank [zA 108, zI x] h (fun r h' => r = a_rank D x ∧ Fr sQR h h') := by
  obtain ⟨p, hp⟩ : ∃ p, pb0 D = p := ⟨_, rfl⟩
  obtain ⟨q, hq⟩ : ∃ q, planP p = q := ⟨_, rfl⟩
  have pd : pDays p = D 0 1 := by rw [← hp]; rfl
  have pn : pNb p = D 0 8 := by rw [← hp]; rfl
  have dy := VD.days
  have nb := VD.nb
  have ns := VD.ns
  have nl := VD.nl
  have na := VD.na
  have vfl := VD.fl
  have vfe := VD.fee
  have hin : ∀ b, 0 ≤ b → b < pNb p → pIn p b = true := fun b _ _ => by rw [← hp]; rfl
  refine zmet rfl rfl rfl ?_
  refine zS_aload_n (zdec eX10_rank 0 rfl) rfl rfl ?_
  refine zS_iconst (zdec eX10_rank 1 rfl) rfl ?_
  refine zS_putfield (x := 0) (zdec eX10_rank 2 rfl) kF_X10_71 (Or.inl kf10_0) ⟨by decide, rfl⟩ rfl rfl rfl (Or.inl (fun q => by cases q)) ?_
  obtain ⟨h0, E0⟩ : ∃ x, x = zset h 108 0 0 := ⟨_, rfl⟩
  rw [show zset h 108 0 (0 : Int) = h0 from E0.symm]
  have f0 : Fr sQR h h0 := by rw [E0]; exact Fr.rf.set (by omega)
  have RD0 : DR h0 0 D := RD.fr f0 (fun k j z => by omega)
  refine zS_aload_n (zdec eX10_rank 3 rfl) rfl rfl ?_
  refine zS_iload_n (zdec eX10_rank 4 rfl) rfl ?_
  refine zvI (M' := mX10_isSupplier) (As := [zI x]) (st := []) (zdec eX10_rank 5 rfl) kM_X10_243 kV_X10_isSupplier ⟨by decide, rfl⟩ rfl rfl rfl rfl rfl (by omega) (d_isSup (by omega) VD RD0) ?_
  refine zS_if_eq (tgt := 22) (zdec eX10_rank 6 rfl) rfl (fun c1 => ?_) (fun c1 => ?_)
  · have z1 := d2i_0.mp c1
    refine zS_bipush (zdec eX10_rank 12 rfl) rfl rfl ?_
    exact zlMI (zdec eX10_rank 13 rfl) rfl ⟨by unfold a_rank; (try rw [hp]); (try rw [hq]); first | rw [if_pos (by omega)] | rw [if_neg (by omega)], f0⟩
  · have z1 := d2i_n.mp c1
    refine zS_aload_n (zdec eX10_rank 7 rfl) rfl rfl ?_
    refine zS_getref (i := 62) (zdec eX10_rank 8 rfl) kF_X10_37 ⟨by decide, rfl⟩ rfl rfl rfl rfl rfl ?_
    refine zS_iload_n (zdec eX10_rank 9 rfl) rfl ?_
    refine zS_ialoadE (v := (D 1 x)) (zdec eX10_rank 10 rfl) ⟨by decide, rfl⟩ (by omega) (by omega) (RD0.rk (by omega) (by omega) (by omega)) ?_
    refine zS_goto (tgt := 24) (zdec eX10_rank 11 rfl) rfl ?_
    exact zlMI (zdec eX10_rank 13 rfl) rfl ⟨by unfold a_rank; (try rw [hp]); (try rw [hq]); first | rw [if_pos (by omega)] | rw [if_neg (by omega)], f0⟩
theorem q_bill {d : Nat} {h : zH} {D : Dk} {x y : Int} (hd : 200 ≤ d) (VD : DV D) (RD : DR h 0 D) : zMI d mX10_bill [zA 108, zI x, zI y] h (fun r h' => r = a_bill D x y ∧ Fr sQR h h') := by
  obtain ⟨p, hp⟩ : ∃ p, pb0 D = p := ⟨_, rfl⟩
  obtain ⟨q, hq⟩ : ∃ q, planP p = q := ⟨_, rfl⟩
  have pd : pDays p = D 0 1 := by rw [← hp]; rfl
  have pn : pNb p = D 0 8 := by rw [← hp]; rfl
  have dy := VD.days
  have nb := VD.nb
  have ns := VD.ns
  have nl := VD.nl
  have na := VD.na
  have vfl := VD.fl
  have vfe := VD.fee
  have hin : ∀ b, 0 ≤ b → b < pNb p → pIn p b = true := fun b _ _ => by rw [← hp]; rfl
  refine zmet rfl rfl rfl ?_
  refine zS_aload_n (zdec eX10_bill 0 rfl) rfl rfl ?_
  refine zS_iconst (zdec eX10_bill 1 rfl) rfl ?_
  refine zS_putfield (x := 0) (zdec eX10_bill 2 rfl) kF_X10_71 (Or.inl kf10_0) ⟨by decide, rfl⟩ rfl rfl rfl (Or.inl (fun q => by cases q)) ?_
  obtain ⟨h0, E0⟩ : ∃ x, x = zset h 108 0 0 := ⟨_, rfl⟩
  rw [show zset h 108 0 (0 : Int) = h0 from E0.symm]
  have f0 : Fr sQR h h0 := by rw [E0]; exact Fr.rf.set (by omega)
  have RD0 : DR h0 0 D := RD.fr f0 (fun k j z => by omega)
  refine zS_aload_n (zdec eX10_bill 3 rfl) rfl rfl ?_
  refine zS_iload_n (zdec eX10_bill 4 rfl) rfl ?_
  refine zS_i2l (zdec eX10_bill 5 rfl) ?_
  refine zvI (M' := mX10_isBill) (As := [zJ x]) (st := []) (zdec eX10_bill 6 rfl) kM_X10_324 kV_X10_isBill ⟨by decide, rfl⟩ rfl rfl rfl rfl rfl (by omega) (d_isBill (by omega) VD RD0) ?_
  refine zS_if_eq (tgt := 40) (zdec eX10_bill 7 rfl) rfl (fun c1 => ?_) (fun c1 => ?_)
  · have z1 := d2i_0.mp c1
    refine zS_bipush (zdec eX10_bill 23 rfl) rfl rfl ?_
    exact zlMI (zdec eX10_bill 24 rfl) rfl ⟨by unfold a_bill; (try rw [hp]); (try rw [hq]); first | rw [if_pos (by omega)] | rw [if_neg (by omega)], f0⟩
  · have z1 := d2i_n.mp c1
    refine zS_iload_n (zdec eX10_bill 8 rfl) rfl ?_
    refine zS_i2l (zdec eX10_bill 9 rfl) ?_
    refine zS_lconst (zdec eX10_bill 10 rfl) ?_
    refine zS_ldc2_w (zdec eX10_bill 11 rfl) kj_X10_327 rfl ?_
    refine zsI (M' := mX10_in) (As := [zJ y, zJ 0, zJ 6]) (st := []) (zdec eX10_bill 12 rfl) kM_X10_76 kS_X10_in rfl rfl rfl (by omega) r_in ?_
    refine zS_if_eq (tgt := 40) (zdec eX10_bill 13 rfl) rfl (fun c2 => ?_) (fun c2 => ?_)
    · have z2 := d2i_0.mp c2
      refine zS_bipush (zdec eX10_bill 23 rfl) rfl rfl ?_
      exact zlMI (zdec eX10_bill 24 rfl) rfl ⟨by unfold a_bill; (try rw [hp]); (try rw [hq]); first | rw [if_pos (by omega)] | rw [if_neg (by omega)], f0⟩
    · have z2 := d2i_n.mp c2
      refine zS_aload_n (zdec eX10_bill 14 rfl) rfl rfl ?_
      refine zS_getref (i := 63) (zdec eX10_bill 15 rfl) kF_X10_40 ⟨by decide, rfl⟩ rfl rfl rfl rfl rfl ?_
      refine zS_bipush (zdec eX10_bill 16 rfl) rfl rfl ?_
      refine zS_iload_n (zdec eX10_bill 17 rfl) rfl ?_
      refine zS_imul (zdec eX10_bill 18 rfl) ⟨by omega, by omega⟩ ?_
      refine zS_iload_n (zdec eX10_bill 19 rfl) rfl ?_
      refine zS_iadd (zdec eX10_bill 20 rfl) ⟨by omega, by omega⟩ ?_
      refine zS_ialoadE (v := (D (3 + x) y)) (zdec eX10_bill 21 rfl) ⟨by decide, rfl⟩ (by omega) (by omega) (RD0.row (by omega) (by omega) (by omega) (by omega) (by omega)) ?_
      refine zS_goto (tgt := 42) (zdec eX10_bill 22 rfl) rfl ?_
      exact zlMI (zdec eX10_bill 24 rfl) rfl ⟨by unfold a_bill; (try rw [hp]); (try rw [hq]); first | rw [if_pos (by omega)] | rw [if_neg (by omega)], f0⟩
theorem q_net {d : Nat} {h : zH} {D : Dk} {x : Int} (hd : 200 ≤ d) (VD : DV D) (RD : DR h 0 D) : zMI d mX10_net [zA 108, zI x] h (fun r h' => r = a_net D x ∧ Fr sQR h h') := by
  obtain ⟨p, hp⟩ : ∃ p, pb0 D = p := ⟨_, rfl⟩
  obtain ⟨q, hq⟩ : ∃ q, planP p = q := ⟨_, rfl⟩
  have pd : pDays p = D 0 1 := by rw [← hp]; rfl
  have pn : pNb p = D 0 8 := by rw [← hp]; rfl
  have dy := VD.days
  have nb := VD.nb
  have ns := VD.ns
  have nl := VD.nl
  have na := VD.na
  have vfl := VD.fl
  have vfe := VD.fee
  have hin : ∀ b, 0 ≤ b → b < pNb p → pIn p b = true := fun b _ _ => by rw [← hp]; rfl
  refine zmet rfl rfl rfl ?_
  refine zS_aload_n (zdec eX10_net 0 rfl) rfl rfl ?_
  refine zS_iconst (zdec eX10_net 1 rfl) rfl ?_
  refine zS_putfield (x := 0) (zdec eX10_net 2 rfl) kF_X10_71 (Or.inl kf10_0) ⟨by decide, rfl⟩ rfl rfl rfl (Or.inl (fun q => by cases q)) ?_
  obtain ⟨h0, E0⟩ : ∃ x, x = zset h 108 0 0 := ⟨_, rfl⟩
  rw [show zset h 108 0 (0 : Int) = h0 from E0.symm]
  have f0 : Fr sQR h h0 := by rw [E0]; exact Fr.rf.set (by omega)
  have RD0 : DR h0 0 D := RD.fr f0 (fun k j z => by omega)
  refine zS_aload_n (zdec eX10_net 3 rfl) rfl rfl ?_
  refine zS_iload_n (zdec eX10_net 4 rfl) rfl ?_
  refine zS_i2l (zdec eX10_net 5 rfl) ?_
  refine zvI (M' := mX10_isBill) (As := [zJ x]) (st := []) (zdec eX10_net 6 rfl) kM_X10_324 kV_X10_isBill ⟨by decide, rfl⟩ rfl rfl rfl rfl rfl (by omega) (d_isBill (by omega) VD RD0) ?_
  refine zS_if_ne (tgt := 17) (zdec eX10_net 7 rfl) rfl (fun c1 => ?_) (fun c1 => ?_)
  · have z1 := d2i_n.mp c1
    refine zS_aload_n (zdec eX10_net 10 rfl) rfl rfl ?_
    have hd0 : 0 < D 0 0 := by first | omega | exact VD.bill (show 0 ≤ x by omega) (show x < D 0 8 by omega) | exact VD.day (show 0 ≤ x by omega) (show x < D 0 1 by omega) | exact VD.sup (show 0 ≤ x by omega) (show x < D 0 7 by omega)
    refine zvMV (M' := mX10_lays) (As := []) (st := []) (zdec eX10_net 11 rfl) kM_X10_314 kV_X10_lays ⟨by decide, rfl⟩ rfl rfl rfl rfl rfl (by omega) (r_lays (by omega) VD hd0 RD0) (fun h2 ⟨R, cl2, g2⟩ => ?_)
    rw [hp] at R
    have V : PV p := by rw [← hp]; exact pb0_V VD hd0
    have f2 : Fr sQR h h2 := f0.tr g2 (fun k j z => z) (fun k j z => by omega)
    have RD2 : DR h2 0 D := RD.fr f2 (fun k j z => by omega)
    refine zS_aload_n (zdec eX10_net 12 rfl) rfl rfl ?_
    refine zS_getref (i := 68) (zdec eX10_net 13 rfl) kF_X10_56 ⟨by decide, rfl⟩ rfl rfl rfl rfl rfl ?_
    refine zS_iload_n (zdec eX10_net 14 rfl) rfl ?_
    refine zS_ialoadE (v := (pNet p x)) (zdec eX10_net 15 rfl) ⟨by decide, rfl⟩ (by omega) (by omega) (R.net (by omega) (by omega)) ?_
    exact zlMI (zdec eX10_net 16 rfl) rfl ⟨by unfold a_net; rw [if_pos (by omega), ← hp]; rfl, f2⟩
  · have z1 := d2i_0.mp c1
    refine zS_bipush (zdec eX10_net 8 rfl) rfl rfl ?_
    exact zlMI (zdec eX10_net 9 rfl) rfl ⟨by unfold a_net; rw [if_neg (by omega)], f0⟩
theorem q_costs {d : Nat} {h : zH} {D : Dk} {x y : Int} (hd : 200 ≤ d) (VD : DV D) (RD : DR h 0 D) : zMI d mX10_costs [zA 108, zI x, zI y] h (fun r h' => r = a_costs D x y ∧ Fr sQR h h') := by
  obtain ⟨p, hp⟩ : ∃ p, pb0 D = p := ⟨_, rfl⟩
  obtain ⟨q, hq⟩ : ∃ q, planP p = q := ⟨_, rfl⟩
  have pd : pDays p = D 0 1 := by rw [← hp]; rfl
  have pn : pNb p = D 0 8 := by rw [← hp]; rfl
  have dy := VD.days
  have nb := VD.nb
  have ns := VD.ns
  have nl := VD.nl
  have na := VD.na
  have vfl := VD.fl
  have vfe := VD.fee
  have hin : ∀ b, 0 ≤ b → b < pNb p → pIn p b = true := fun b _ _ => by rw [← hp]; rfl
  refine zmet rfl rfl rfl ?_
  refine zS_aload_n (zdec eX10_costs 0 rfl) rfl rfl ?_
  refine zS_iconst (zdec eX10_costs 1 rfl) rfl ?_
  refine zS_putfield (x := 0) (zdec eX10_costs 2 rfl) kF_X10_71 (Or.inl kf10_0) ⟨by decide, rfl⟩ rfl rfl rfl (Or.inl (fun q => by cases q)) ?_
  obtain ⟨h0, E0⟩ : ∃ x, x = zset h 108 0 0 := ⟨_, rfl⟩
  rw [show zset h 108 0 (0 : Int) = h0 from E0.symm]
  have f0 : Fr sQR h h0 := by rw [E0]; exact Fr.rf.set (by omega)
  have RD0 : DR h0 0 D := RD.fr f0 (fun k j z => by omega)
  refine zS_aload_n (zdec eX10_costs 3 rfl) rfl rfl ?_
  refine zS_iload_n (zdec eX10_costs 4 rfl) rfl ?_
  refine zS_i2l (zdec eX10_costs 5 rfl) ?_
  refine zvI (M' := mX10_isBill) (As := [zJ x]) (st := []) (zdec eX10_costs 6 rfl) kM_X10_324 kV_X10_isBill ⟨by decide, rfl⟩ rfl rfl rfl rfl rfl (by omega) (d_isBill (by omega) VD RD0) ?_
  refine zS_if_eq (tgt := 28) (zdec eX10_costs 7 rfl) rfl (fun c1 => ?_) (fun c1 => ?_)
  · have z1 := d2i_0.mp c1
    refine zS_bipush (zdec eX10_costs 16 rfl) rfl rfl ?_
    exact zlMI (zdec eX10_costs 17 rfl) rfl ⟨by unfold a_costs; (try rw [hp]); (try rw [hq]); first | rw [if_pos (by omega)] | rw [if_neg (by omega)], f0⟩
  · have z1 := d2i_n.mp c1
    refine zS_iload_n (zdec eX10_costs 8 rfl) rfl ?_
    refine zS_i2l (zdec eX10_costs 9 rfl) ?_
    refine zS_lconst (zdec eX10_costs 10 rfl) ?_
    refine zS_aload_n (zdec eX10_costs 11 rfl) rfl rfl ?_
    refine zvI (M' := mX10_days) (As := []) (st := [zJ 0, zJ y]) (zdec eX10_costs 12 rfl) kM_X10_240 kV_X10_days ⟨by decide, rfl⟩ rfl rfl rfl rfl rfl (by omega) (d_days RD0) ?_
    refine zS_i2l (zdec eX10_costs 13 rfl) ?_
    refine zsI (M' := mX10_in) (As := [zJ y, zJ 0, zJ (D 0 1)]) (st := []) (zdec eX10_costs 14 rfl) kM_X10_76 kS_X10_in rfl rfl rfl (by omega) r_in ?_
    refine zS_if_ne (tgt := 31) (zdec eX10_costs 15 rfl) rfl (fun c2 => ?_) (fun c2 => ?_)
    · have z2 := d2i_n.mp c2
      refine zS_aload_n (zdec eX10_costs 18 rfl) rfl rfl ?_
      have hd0 : 0 < D 0 0 := by first | omega | exact VD.bill (show 0 ≤ x by omega) (show x < D 0 8 by omega) | exact VD.day (show 0 ≤ x by omega) (show x < D 0 1 by omega) | exact VD.sup (show 0 ≤ x by omega) (show x < D 0 7 by omega) | exact VD.bill (show 0 ≤ y by omega) (show y < D 0 8 by omega) | exact VD.day (show 0 ≤ y by omega) (show y < D 0 1 by omega) | exact VD.sup (show 0 ≤ y by omega) (show y < D 0 7 by omega)
      refine zvMV (M' := mX10_lays) (As := []) (st := []) (zdec eX10_costs 19 rfl) kM_X10_314 kV_X10_lays ⟨by decide, rfl⟩ rfl rfl rfl rfl rfl (by omega) (r_lays (by omega) VD hd0 RD0) (fun h2 ⟨R, cl2, g2⟩ => ?_)
      rw [hp] at R
      have V : PV p := by rw [← hp]; exact pb0_V VD hd0
      have f2 : Fr sQR h h2 := f0.tr g2 (fun k j z => z) (fun k j z => by omega)
      have RD2 : DR h2 0 D := RD.fr f2 (fun k j z => by omega)
      refine zS_aload_n (zdec eX10_costs 20 rfl) rfl rfl ?_
      refine zS_iload_n (zdec eX10_costs 21 rfl) rfl ?_
      refine zS_iload_n (zdec eX10_costs 22 rfl) rfl ?_
      refine zvI (M' := mX10_costOf) (As := [zI x, zI y]) (st := []) (zdec eX10_costs 23 rfl) kM_X10_283 kV_X10_costOf ⟨by decide, rfl⟩ rfl rfl rfl rfl rfl (by omega) (r_costOf (by omega) V R (by omega) (by omega) (by omega) (by omega)) ?_
      exact zlMI (zdec eX10_costs 24 rfl) rfl ⟨by unfold a_costs; (try rw [hp]); (try rw [hq]); first | rw [if_pos (by omega)] | rw [if_neg (by omega)], f2⟩
    · have z2 := d2i_0.mp c2
      refine zS_bipush (zdec eX10_costs 16 rfl) rfl rfl ?_
      exact zlMI (zdec eX10_costs 17 rfl) rfl ⟨by unfold a_costs; (try rw [hp]); (try rw [hq]); first | rw [if_pos (by omega)] | rw [if_neg (by omega)], f0⟩
theorem q_closed {d : Nat} {h : zH} {D : Dk} (hd : 200 ≤ d) (VD : DV D) (RD : DR h 0 D) : zMI d mX10_closed [zA 108] h (fun r h' => r = a_closed D ∧ Fr sQR h h') := by
  obtain ⟨p, hp⟩ : ∃ p, pb0 D = p := ⟨_, rfl⟩
  obtain ⟨q, hq⟩ : ∃ q, planP p = q := ⟨_, rfl⟩
  have pd : pDays p = D 0 1 := by rw [← hp]; rfl
  have pn : pNb p = D 0 8 := by rw [← hp]; rfl
  have dy := VD.days
  have nb := VD.nb
  have ns := VD.ns
  have nl := VD.nl
  have na := VD.na
  have vfl := VD.fl
  have vfe := VD.fee
  have hin : ∀ b, 0 ≤ b → b < pNb p → pIn p b = true := fun b _ _ => by rw [← hp]; rfl
  refine zmet rfl rfl rfl ?_
  refine zS_aload_n (zdec eX10_closed 0 rfl) rfl rfl ?_
  refine zS_iconst (zdec eX10_closed 1 rfl) rfl ?_
  refine zS_putfield (x := 0) (zdec eX10_closed 2 rfl) kF_X10_71 (Or.inl kf10_0) ⟨by decide, rfl⟩ rfl rfl rfl (Or.inl (fun q => by cases q)) ?_
  obtain ⟨h0, E0⟩ : ∃ x, x = zset h 108 0 0 := ⟨_, rfl⟩
  rw [show zset h 108 0 (0 : Int) = h0 from E0.symm]
  have f0 : Fr sQR h h0 := by rw [E0]; exact Fr.rf.set (by omega)
  have RD0 : DR h0 0 D := RD.fr f0 (fun k j z => by omega)
  refine zS_aload_n (zdec eX10_closed 3 rfl) rfl rfl ?_
  refine zvI (M' := mX10_isDesk) (As := []) (st := []) (zdec eX10_closed 4 rfl) kM_X10_332 kV_X10_isDesk ⟨by decide, rfl⟩ rfl rfl rfl rfl rfl (by omega) (d_isDesk VD RD0) ?_
  refine zS_if_ne (tgt := 15) (zdec eX10_closed 5 rfl) rfl (fun c1 => ?_) (fun c1 => ?_)
  · have z1 := d2i_n.mp c1
    refine zS_aload_n (zdec eX10_closed 8 rfl) rfl rfl ?_
    have hd0 : 0 < D 0 0 := by first | omega
    refine zvMV (M' := mX10_lays) (As := []) (st := []) (zdec eX10_closed 9 rfl) kM_X10_314 kV_X10_lays ⟨by decide, rfl⟩ rfl rfl rfl rfl rfl (by omega) (r_lays (by omega) VD hd0 RD0) (fun h2 ⟨R, cl2, g2⟩ => ?_)
    rw [hp] at R
    have V : PV p := by rw [← hp]; exact pb0_V VD hd0
    have f2 : Fr sQR h h2 := f0.tr g2 (fun k j z => z) (fun k j z => by omega)
    have RD2 : DR h2 0 D := RD.fr f2 (fun k j z => by omega)
    refine zS_aload_n (zdec eX10_closed 10 rfl) rfl rfl ?_
    refine zS_getfieldE (x := 27) (v := (clI D (D 0 10))) (zdec eX10_closed 11 rfl) kF_X10_261 ⟨by decide, rfl⟩ rfl rfl rfl cl2 ?_
    exact zlMI (zdec eX10_closed 12 rfl) rfl ⟨by unfold a_closed; (try rw [hp]); (try rw [hq]); first | rw [if_pos (by omega)] | rw [if_neg (by omega)], f2⟩
  · have z1 := d2i_0.mp c1
    refine zS_bipush (zdec eX10_closed 6 rfl) rfl rfl ?_
    exact zlMI (zdec eX10_closed 7 rfl) rfl ⟨by unfold a_closed; (try rw [hp]); (try rw [hq]); first | rw [if_pos (by omega)] | rw [if_neg (by omega)], f0⟩
theorem q_day {d : Nat} {h : zH} {D : Dk} {x : Int} (hd : 200 ≤ d) (VD : DV D) (RD : DR h 0 D) : zMI d mX10_day [zA 108, zI x] h (fun r h' => r = a_day D x ∧ Fr sQR h h') := by
  obtain ⟨p, hp⟩ : ∃ p, pb0 D = p := ⟨_, rfl⟩
  obtain ⟨q, hq⟩ : ∃ q, planP p = q := ⟨_, rfl⟩
  have pd : pDays p = D 0 1 := by rw [← hp]; rfl
  have pn : pNb p = D 0 8 := by rw [← hp]; rfl
  have dy := VD.days
  have nb := VD.nb
  have ns := VD.ns
  have nl := VD.nl
  have na := VD.na
  have vfl := VD.fl
  have vfe := VD.fee
  have hin : ∀ b, 0 ≤ b → b < pNb p → pIn p b = true := fun b _ _ => by rw [← hp]; rfl
  refine zmet rfl rfl rfl ?_
  refine zS_aload_n (zdec eX10_day 0 rfl) rfl rfl ?_
  refine zS_iconst (zdec eX10_day 1 rfl) rfl ?_
  refine zS_putfield (x := 0) (zdec eX10_day 2 rfl) kF_X10_71 (Or.inl kf10_0) ⟨by decide, rfl⟩ rfl rfl rfl (Or.inl (fun q => by cases q)) ?_
  obtain ⟨h0, E0⟩ : ∃ x, x = zset h 108 0 0 := ⟨_, rfl⟩
  rw [show zset h 108 0 (0 : Int) = h0 from E0.symm]
  have f0 : Fr sQR h h0 := by rw [E0]; exact Fr.rf.set (by omega)
  have RD0 : DR h0 0 D := RD.fr f0 (fun k j z => by omega)
  refine zS_aload_n (zdec eX10_day 3 rfl) rfl rfl ?_
  refine zS_iload_n (zdec eX10_day 4 rfl) rfl ?_
  refine zS_i2l (zdec eX10_day 5 rfl) ?_
  refine zvI (M' := mX10_isBill) (As := [zJ x]) (st := []) (zdec eX10_day 6 rfl) kM_X10_324 kV_X10_isBill ⟨by decide, rfl⟩ rfl rfl rfl rfl rfl (by omega) (d_isBill (by omega) VD RD0) ?_
  refine zS_if_ne (tgt := 17) (zdec eX10_day 7 rfl) rfl (fun c1 => ?_) (fun c1 => ?_)
  · have z1 := d2i_n.mp c1
    refine zS_aload_n (zdec eX10_day 10 rfl) rfl rfl ?_
    have hd0 : 0 < D 0 0 := by first | omega | exact VD.bill (show 0 ≤ x by omega) (show x < D 0 8 by omega) | exact VD.day (show 0 ≤ x by omega) (show x < D 0 1 by omega) | exact VD.sup (show 0 ≤ x by omega) (show x < D 0 7 by omega)
    refine zvMV (M' := mX10_laysNow) (As := []) (st := []) (zdec eX10_day 11 rfl) kM_X10_342 kV_X10_laysNow ⟨by decide, rfl⟩ rfl rfl rfl rfl rfl (by omega) (r_laysNow hp hq (by omega) VD hd0 RD0) (fun h2 ⟨⟨V, R, S, O, CA⟩, ⟨q0, q1⟩, g2, RD2⟩ => ?_)
    have f2 : Fr sQR h h2 := f0.tr g2 (fun k j z => z) (fun k j z => z)
    refine zS_aload_n (zdec eX10_day 12 rfl) rfl rfl ?_
    refine zS_iload_n (zdec eX10_day 13 rfl) rfl ?_
    refine zvI (M' := mX10_dayOf) (As := [zI x]) (st := []) (zdec eX10_day 14 rfl) kM_X10_345 kV_X10_dayOf ⟨by decide, rfl⟩ rfl rfl rfl rfl rfl (by omega) (r_dayOf (by omega) V R S (by omega) (by omega) (q1 _)) ?_
    exact zlMI (zdec eX10_day 15 rfl) rfl ⟨by unfold a_day; (try rw [hp]); (try rw [hq]); first | rw [if_pos (by omega)] | rw [if_neg (by omega)], f2⟩
  · have z1 := d2i_0.mp c1
    refine zS_bipush (zdec eX10_day 8 rfl) rfl rfl ?_
    exact zlMI (zdec eX10_day 9 rfl) rfl ⟨by unfold a_day; (try rw [hp]); (try rw [hq]); first | rw [if_pos (by omega)] | rw [if_neg (by omega)], f0⟩
theorem q_file {d : Nat} {h : zH} {D : Dk} {x : Int} (hd : 200 ≤ d) (VD : DV D) (RD : DR h 0 D) : zMI d mX10_file [zA 108, zI x] h (fun r h' => r = a_file D x ∧ Fr sQR h h') := by
  obtain ⟨p, hp⟩ : ∃ p, pb0 D = p := ⟨_, rfl⟩
  obtain ⟨q, hq⟩ : ∃ q, planP p = q := ⟨_, rfl⟩
  have pd : pDays p = D 0 1 := by rw [← hp]; rfl
  have pn : pNb p = D 0 8 := by rw [← hp]; rfl
  have dy := VD.days
  have nb := VD.nb
  have ns := VD.ns
  have nl := VD.nl
  have na := VD.na
  have vfl := VD.fl
  have vfe := VD.fee
  have hin : ∀ b, 0 ≤ b → b < pNb p → pIn p b = true := fun b _ _ => by rw [← hp]; rfl
  refine zmet rfl rfl rfl ?_
  refine zS_aload_n (zdec eX10_file 0 rfl) rfl rfl ?_
  refine zS_iconst (zdec eX10_file 1 rfl) rfl ?_
  refine zS_putfield (x := 0) (zdec eX10_file 2 rfl) kF_X10_71 (Or.inl kf10_0) ⟨by decide, rfl⟩ rfl rfl rfl (Or.inl (fun q => by cases q)) ?_
  obtain ⟨h0, E0⟩ : ∃ x, x = zset h 108 0 0 := ⟨_, rfl⟩
  rw [show zset h 108 0 (0 : Int) = h0 from E0.symm]
  have f0 : Fr sQR h h0 := by rw [E0]; exact Fr.rf.set (by omega)
  have RD0 : DR h0 0 D := RD.fr f0 (fun k j z => by omega)
  refine zS_aload_n (zdec eX10_file 3 rfl) rfl rfl ?_
  refine zS_iload_n (zdec eX10_file 4 rfl) rfl ?_
  refine zvI (M' := mX10_isDay) (As := [zI x]) (st := []) (zdec eX10_file 5 rfl) kM_X10_329 kV_X10_isDay ⟨by decide, rfl⟩ rfl rfl rfl rfl rfl (by omega) (d_isDay (by omega) VD RD0) ?_
  refine zS_if_ne (tgt := 16) (zdec eX10_file 6 rfl) rfl (fun c1 => ?_) (fun c1 => ?_)
  · have z1 := d2i_n.mp c1
    refine zS_aload_n (zdec eX10_file 9 rfl) rfl rfl ?_
    have hd0 : 0 < D 0 0 := by first | omega | exact VD.bill (show 0 ≤ x by omega) (show x < D 0 8 by omega) | exact VD.day (show 0 ≤ x by omega) (show x < D 0 1 by omega) | exact VD.sup (show 0 ≤ x by omega) (show x < D 0 7 by omega)
    refine zvMV (M' := mX10_laysNow) (As := []) (st := []) (zdec eX10_file 10 rfl) kM_X10_342 kV_X10_laysNow ⟨by decide, rfl⟩ rfl rfl rfl rfl rfl (by omega) (r_laysNow hp hq (by omega) VD hd0 RD0) (fun h2 ⟨⟨V, R, S, O, CA⟩, ⟨q0, q1⟩, g2, RD2⟩ => ?_)
    have f2 : Fr sQR h h2 := f0.tr g2 (fun k j z => z) (fun k j z => z)
    refine zS_aload_n (zdec eX10_file 11 rfl) rfl rfl ?_
    refine zS_iload_n (zdec eX10_file 12 rfl) rfl ?_
    refine zvI (M' := mX10_fileOn) (As := [zI x]) (st := []) (zdec eX10_file 13 rfl) kM_X10_348 kV_X10_fileOn ⟨by decide, rfl⟩ rfl rfl rfl rfl rfl (by omega) (r_fileOn (by omega) V R S hin) ?_
    exact zlMI (zdec eX10_file 14 rfl) rfl ⟨by unfold a_file; (try rw [hp]); (try rw [hq]); first | rw [if_pos (by omega)] | rw [if_neg (by omega)], f2⟩
  · have z1 := d2i_0.mp c1
    refine zS_bipush (zdec eX10_file 7 rfl) rfl rfl ?_
    exact zlMI (zdec eX10_file 8 rfl) rfl ⟨by unfold a_file; (try rw [hp]); (try rw [hq]); first | rw [if_pos (by omega)] | rw [if_neg (by omega)], f0⟩
theorem q_pays {d : Nat} {h : zH} {D : Dk} {x : Int} (hd : 200 ≤ d) (VD : DV D) (RD : DR h 0 D) : zMI d mX10_pays [zA 108, zI x] h (fun r h' => r = a_pays D x ∧ Fr sQR h h') := by
  obtain ⟨p, hp⟩ : ∃ p, pb0 D = p := ⟨_, rfl⟩
  obtain ⟨q, hq⟩ : ∃ q, planP p = q := ⟨_, rfl⟩
  have pd : pDays p = D 0 1 := by rw [← hp]; rfl
  have pn : pNb p = D 0 8 := by rw [← hp]; rfl
  have dy := VD.days
  have nb := VD.nb
  have ns := VD.ns
  have nl := VD.nl
  have na := VD.na
  have vfl := VD.fl
  have vfe := VD.fee
  have hin : ∀ b, 0 ≤ b → b < pNb p → pIn p b = true := fun b _ _ => by rw [← hp]; rfl
  refine zmet rfl rfl rfl ?_
  refine zS_aload_n (zdec eX10_pays 0 rfl) rfl rfl ?_
  refine zS_iconst (zdec eX10_pays 1 rfl) rfl ?_
  refine zS_putfield (x := 0) (zdec eX10_pays 2 rfl) kF_X10_71 (Or.inl kf10_0) ⟨by decide, rfl⟩ rfl rfl rfl (Or.inl (fun q => by cases q)) ?_
  obtain ⟨h0, E0⟩ : ∃ x, x = zset h 108 0 0 := ⟨_, rfl⟩
  rw [show zset h 108 0 (0 : Int) = h0 from E0.symm]
  have f0 : Fr sQR h h0 := by rw [E0]; exact Fr.rf.set (by omega)
  have RD0 : DR h0 0 D := RD.fr f0 (fun k j z => by omega)
  refine zS_aload_n (zdec eX10_pays 3 rfl) rfl rfl ?_
  refine zS_iload_n (zdec eX10_pays 4 rfl) rfl ?_
  refine zvI (M' := mX10_isDay) (As := [zI x]) (st := []) (zdec eX10_pays 5 rfl) kM_X10_329 kV_X10_isDay ⟨by decide, rfl⟩ rfl rfl rfl rfl rfl (by omega) (d_isDay (by omega) VD RD0) ?_
  refine zS_if_ne (tgt := 16) (zdec eX10_pays 6 rfl) rfl (fun c1 => ?_) (fun c1 => ?_)
  · have z1 := d2i_n.mp c1
    refine zS_aload_n (zdec eX10_pays 9 rfl) rfl rfl ?_
    have hd0 : 0 < D 0 0 := by first | omega | exact VD.bill (show 0 ≤ x by omega) (show x < D 0 8 by omega) | exact VD.day (show 0 ≤ x by omega) (show x < D 0 1 by omega) | exact VD.sup (show 0 ≤ x by omega) (show x < D 0 7 by omega)
    refine zvMV (M' := mX10_laysNow) (As := []) (st := []) (zdec eX10_pays 10 rfl) kM_X10_342 kV_X10_laysNow ⟨by decide, rfl⟩ rfl rfl rfl rfl rfl (by omega) (r_laysNow hp hq (by omega) VD hd0 RD0) (fun h2 ⟨⟨V, R, S, O, CA⟩, ⟨q0, q1⟩, g2, RD2⟩ => ?_)
    have f2 : Fr sQR h h2 := f0.tr g2 (fun k j z => z) (fun k j z => z)
    refine zS_aload_n (zdec eX10_pays 11 rfl) rfl rfl ?_
    refine zS_iload_n (zdec eX10_pays 12 rfl) rfl ?_
    refine zvI (M' := mX10_outOn) (As := [zI x]) (st := []) (zdec eX10_pays 13 rfl) kM_X10_286 kV_X10_outOn ⟨by decide, rfl⟩ rfl rfl rfl rfl rfl (by omega) (r_outOn (by omega) V R S (by omega) (by omega)) ?_
    exact zlMI (zdec eX10_pays 14 rfl) rfl ⟨by unfold a_pays; (try rw [hp]); (try rw [hq]); first | rw [if_pos (by omega)] | rw [if_neg (by omega)], f2⟩
  · have z1 := d2i_0.mp c1
    refine zS_bipush (zdec eX10_pays 7 rfl) rfl rfl ?_
    exact zlMI (zdec eX10_pays 8 rfl) rfl ⟨by unfold a_pays; (try rw [hp]); (try rw [hq]); first | rw [if_pos (by omega)] | rw [if_neg (by omega)], f0⟩
theorem q_cash {d : Nat} {h : zH} {D : Dk} {x : Int} (hd : 200 ≤ d) (VD : DV D) (RD : DR h 0 D) : zMI d mX10_cash [zA 108, zI x] h (fun r h' => r = a_cash D x ∧ Fr sQR h h') := by
  obtain ⟨p, hp⟩ : ∃ p, pb0 D = p := ⟨_, rfl⟩
  obtain ⟨q, hq⟩ : ∃ q, planP p = q := ⟨_, rfl⟩
  have pd : pDays p = D 0 1 := by rw [← hp]; rfl
  have pn : pNb p = D 0 8 := by rw [← hp]; rfl
  have dy := VD.days
  have nb := VD.nb
  have ns := VD.ns
  have nl := VD.nl
  have na := VD.na
  have vfl := VD.fl
  have vfe := VD.fee
  have hin : ∀ b, 0 ≤ b → b < pNb p → pIn p b = true := fun b _ _ => by rw [← hp]; rfl
  refine zmet rfl rfl rfl ?_
  refine zS_aload_n (zdec eX10_cash 0 rfl) rfl rfl ?_
  refine zS_iconst (zdec eX10_cash 1 rfl) rfl ?_
  refine zS_putfield (x := 0) (zdec eX10_cash 2 rfl) kF_X10_71 (Or.inl kf10_0) ⟨by decide, rfl⟩ rfl rfl rfl (Or.inl (fun q => by cases q)) ?_
  obtain ⟨h0, E0⟩ : ∃ x, x = zset h 108 0 0 := ⟨_, rfl⟩
  rw [show zset h 108 0 (0 : Int) = h0 from E0.symm]
  have f0 : Fr sQR h h0 := by rw [E0]; exact Fr.rf.set (by omega)
  have RD0 : DR h0 0 D := RD.fr f0 (fun k j z => by omega)
  refine zS_aload_n (zdec eX10_cash 3 rfl) rfl rfl ?_
  refine zS_iload_n (zdec eX10_cash 4 rfl) rfl ?_
  refine zvI (M' := mX10_isDay) (As := [zI x]) (st := []) (zdec eX10_cash 5 rfl) kM_X10_329 kV_X10_isDay ⟨by decide, rfl⟩ rfl rfl rfl rfl rfl (by omega) (d_isDay (by omega) VD RD0) ?_
  refine zS_if_ne (tgt := 17) (zdec eX10_cash 6 rfl) rfl (fun c1 => ?_) (fun c1 => ?_)
  · have z1 := d2i_n.mp c1
    refine zS_aload_n (zdec eX10_cash 9 rfl) rfl rfl ?_
    have hd0 : 0 < D 0 0 := by first | omega | exact VD.bill (show 0 ≤ x by omega) (show x < D 0 8 by omega) | exact VD.day (show 0 ≤ x by omega) (show x < D 0 1 by omega) | exact VD.sup (show 0 ≤ x by omega) (show x < D 0 7 by omega)
    refine zvMV (M' := mX10_laysNow) (As := []) (st := []) (zdec eX10_cash 10 rfl) kM_X10_342 kV_X10_laysNow ⟨by decide, rfl⟩ rfl rfl rfl rfl rfl (by omega) (r_laysNow hp hq (by omega) VD hd0 RD0) (fun h2 ⟨⟨V, R, S, O, CA⟩, ⟨q0, q1⟩, g2, RD2⟩ => ?_)
    have f2 : Fr sQR h h2 := f0.tr g2 (fun k j z => z) (fun k j z => z)
    refine zS_aload_n (zdec eX10_cash 11 rfl) rfl rfl ?_
    refine zS_getref (i := 70) (zdec eX10_cash 12 rfl) kF_X10_62 ⟨by decide, rfl⟩ rfl rfl rfl rfl rfl ?_
    refine zS_iload_n (zdec eX10_cash 13 rfl) rfl ?_
    refine zS_ialoadE (v := (cashP p q x)) (zdec eX10_cash 14 rfl) ⟨by decide, rfl⟩ (by omega) (by omega) (CA _ (by omega) (by omega)) ?_
    exact zlMI (zdec eX10_cash 15 rfl) rfl ⟨by unfold a_cash; (try rw [hp]); (try rw [hq]); first | rw [if_pos (by omega)] | rw [if_neg (by omega)], f2⟩
  · have z1 := d2i_0.mp c1
    refine zS_ldc_w (zdec eX10_cash 7 rfl) kc_X10_351 rfl ?_
    exact zlMI (zdec eX10_cash 8 rfl) rfl ⟨by unfold a_cash; (try rw [hp]); (try rw [hq]); first | rw [if_pos (by omega)] | rw [if_neg (by omega)], f0⟩
theorem q_tight {d : Nat} {h : zH} {D : Dk} (hd : 200 ≤ d) (VD : DV D) (RD : DR h 0 D) : zMI d mX10_tight [zA 108] h (fun r h' => r = a_tight D ∧ Fr sQR h h') := by
  obtain ⟨p, hp⟩ : ∃ p, pb0 D = p := ⟨_, rfl⟩
  obtain ⟨q, hq⟩ : ∃ q, planP p = q := ⟨_, rfl⟩
  have pd : pDays p = D 0 1 := by rw [← hp]; rfl
  have pn : pNb p = D 0 8 := by rw [← hp]; rfl
  have dy := VD.days
  have nb := VD.nb
  have ns := VD.ns
  have nl := VD.nl
  have na := VD.na
  have vfl := VD.fl
  have vfe := VD.fee
  have hin : ∀ b, 0 ≤ b → b < pNb p → pIn p b = true := fun b _ _ => by rw [← hp]; rfl
  refine zmet rfl rfl rfl ?_
  refine zS_aload_n (zdec eX10_tight 0 rfl) rfl rfl ?_
  refine zS_iconst (zdec eX10_tight 1 rfl) rfl ?_
  refine zS_putfield (x := 0) (zdec eX10_tight 2 rfl) kF_X10_71 (Or.inl kf10_0) ⟨by decide, rfl⟩ rfl rfl rfl (Or.inl (fun q => by cases q)) ?_
  obtain ⟨h0, E0⟩ : ∃ x, x = zset h 108 0 0 := ⟨_, rfl⟩
  rw [show zset h 108 0 (0 : Int) = h0 from E0.symm]
  have f0 : Fr sQR h h0 := by rw [E0]; exact Fr.rf.set (by omega)
  have RD0 : DR h0 0 D := RD.fr f0 (fun k j z => by omega)
  refine zS_aload_n (zdec eX10_tight 3 rfl) rfl rfl ?_
  refine zvI (M' := mX10_isDesk) (As := []) (st := []) (zdec eX10_tight 4 rfl) kM_X10_332 kV_X10_isDesk ⟨by decide, rfl⟩ rfl rfl rfl rfl rfl (by omega) (d_isDesk VD RD0) ?_
  refine zS_if_ne (tgt := 15) (zdec eX10_tight 5 rfl) rfl (fun c1 => ?_) (fun c1 => ?_)
  · have z1 := d2i_n.mp c1
    refine zS_aload_n (zdec eX10_tight 8 rfl) rfl rfl ?_
    have hd0 : 0 < D 0 0 := by first | omega
    refine zvMV (M' := mX10_laysNow) (As := []) (st := []) (zdec eX10_tight 9 rfl) kM_X10_342 kV_X10_laysNow ⟨by decide, rfl⟩ rfl rfl rfl rfl rfl (by omega) (r_laysNow hp hq (by omega) VD hd0 RD0) (fun h2 ⟨⟨V, R, S, O, CA⟩, ⟨q0, q1⟩, g2, RD2⟩ => ?_)
    have f2 : Fr sQR h h2 := f0.tr g2 (fun k j z => z) (fun k j z => z)
    refine zS_aload_n (zdec eX10_tight 10 rfl) rfl rfl ?_
    refine zvI (M' := mX10_tightNow) (As := []) (st := []) (zdec eX10_tight 11 rfl) kM_X10_352 kV_X10_tightNow ⟨by decide, rfl⟩ rfl rfl rfl rfl rfl (by omega) (r_tightNow (by omega) V R CA) ?_
    exact zlMI (zdec eX10_tight 12 rfl) rfl ⟨by unfold a_tight; (try rw [hp]); (try rw [hq]); first | rw [if_pos (by omega)] | rw [if_neg (by omega)], f2⟩
  · have z1 := d2i_0.mp c1
    refine zS_bipush (zdec eX10_tight 6 rfl) rfl rfl ?_
    exact zlMI (zdec eX10_tight 7 rfl) rfl ⟨by unfold a_tight; (try rw [hp]); (try rw [hq]); first | rw [if_pos (by omega)] | rw [if_neg (by omega)], f0⟩
theorem q_open {d : Nat} {h : zH} {D : Dk} (hd : 200 ≤ d) (VD : DV D) (RD : DR h 0 D) : zMI d mX10_open [zA 108] h (fun r h' => r = a_open D ∧ Fr sQR h h') := by
  obtain ⟨p, hp⟩ : ∃ p, pb0 D = p := ⟨_, rfl⟩
  obtain ⟨q, hq⟩ : ∃ q, planP p = q := ⟨_, rfl⟩
  have pd : pDays p = D 0 1 := by rw [← hp]; rfl
  have pn : pNb p = D 0 8 := by rw [← hp]; rfl
  have dy := VD.days
  have nb := VD.nb
  have ns := VD.ns
  have nl := VD.nl
  have na := VD.na
  have vfl := VD.fl
  have vfe := VD.fee
  have hin : ∀ b, 0 ≤ b → b < pNb p → pIn p b = true := fun b _ _ => by rw [← hp]; rfl
  refine zmet rfl rfl rfl ?_
  refine zS_aload_n (zdec eX10_open 0 rfl) rfl rfl ?_
  refine zS_iconst (zdec eX10_open 1 rfl) rfl ?_
  refine zS_putfield (x := 0) (zdec eX10_open 2 rfl) kF_X10_71 (Or.inl kf10_0) ⟨by decide, rfl⟩ rfl rfl rfl (Or.inl (fun q => by cases q)) ?_
  obtain ⟨h0, E0⟩ : ∃ x, x = zset h 108 0 0 := ⟨_, rfl⟩
  rw [show zset h 108 0 (0 : Int) = h0 from E0.symm]
  have f0 : Fr sQR h h0 := by rw [E0]; exact Fr.rf.set (by omega)
  have RD0 : DR h0 0 D := RD.fr f0 (fun k j z => by omega)
  refine zS_aload_n (zdec eX10_open 3 rfl) rfl rfl ?_
  refine zvI (M' := mX10_isDesk) (As := []) (st := []) (zdec eX10_open 4 rfl) kM_X10_332 kV_X10_isDesk ⟨by decide, rfl⟩ rfl rfl rfl rfl rfl (by omega) (d_isDesk VD RD0) ?_
  refine zS_if_ne (tgt := 15) (zdec eX10_open 5 rfl) rfl (fun c1 => ?_) (fun c1 => ?_)
  · have z1 := d2i_n.mp c1
    refine zS_aload_n (zdec eX10_open 8 rfl) rfl rfl ?_
    have hd0 : 0 < D 0 0 := by first | omega
    refine zvMV (M' := mX10_laysNow) (As := []) (st := []) (zdec eX10_open 9 rfl) kM_X10_342 kV_X10_laysNow ⟨by decide, rfl⟩ rfl rfl rfl rfl rfl (by omega) (r_laysNow hp hq (by omega) VD hd0 RD0) (fun h2 ⟨⟨V, R, S, O, CA⟩, ⟨q0, q1⟩, g2, RD2⟩ => ?_)
    have f2 : Fr sQR h h2 := f0.tr g2 (fun k j z => z) (fun k j z => z)
    refine zS_aload_n (zdec eX10_open 10 rfl) rfl rfl ?_
    refine zS_aload_n (zdec eX10_open 11 rfl) rfl rfl ?_
    refine zvI (M' := mX10_days) (As := []) (st := [zA 108]) (zdec eX10_open 12 rfl) kM_X10_240 kV_X10_days ⟨by decide, rfl⟩ rfl rfl rfl rfl rfl (by omega) (r_days R) ?_
    refine zvI (M' := mX10_fileOn) (As := [zI (pDays p)]) (st := []) (zdec eX10_open 13 rfl) kM_X10_348 kV_X10_fileOn ⟨by decide, rfl⟩ rfl rfl rfl rfl rfl (by omega) (r_fileOn (by omega) V R S hin) ?_
    exact zlMI (zdec eX10_open 14 rfl) rfl ⟨by unfold a_open; rw [hp, hq, if_pos (by omega)]; rfl, f2⟩
  · have z1 := d2i_0.mp c1
    refine zS_bipush (zdec eX10_open 6 rfl) rfl rfl ?_
    exact zlMI (zdec eX10_open 7 rfl) rfl ⟨by unfold a_open; rw [if_neg (by omega)], f0⟩
theorem q_total {d : Nat} {h : zH} {D : Dk} (hd : 200 ≤ d) (VD : DV D) (RD : DR h 0 D) : zMI d mX10_total [zA 108] h (fun r h' => r = a_total D ∧ Fr sQR h h') := by
  obtain ⟨p, hp⟩ : ∃ p, pb0 D = p := ⟨_, rfl⟩
  obtain ⟨q, hq⟩ : ∃ q, planP p = q := ⟨_, rfl⟩
  have pd : pDays p = D 0 1 := by rw [← hp]; rfl
  have pn : pNb p = D 0 8 := by rw [← hp]; rfl
  have dy := VD.days
  have nb := VD.nb
  have ns := VD.ns
  have nl := VD.nl
  have na := VD.na
  have vfl := VD.fl
  have vfe := VD.fee
  have hin : ∀ b, 0 ≤ b → b < pNb p → pIn p b = true := fun b _ _ => by rw [← hp]; rfl
  refine zmet rfl rfl rfl ?_
  refine zS_aload_n (zdec eX10_total 0 rfl) rfl rfl ?_
  refine zS_iconst (zdec eX10_total 1 rfl) rfl ?_
  refine zS_putfield (x := 0) (zdec eX10_total 2 rfl) kF_X10_71 (Or.inl kf10_0) ⟨by decide, rfl⟩ rfl rfl rfl (Or.inl (fun q => by cases q)) ?_
  obtain ⟨h0, E0⟩ : ∃ x, x = zset h 108 0 0 := ⟨_, rfl⟩
  rw [show zset h 108 0 (0 : Int) = h0 from E0.symm]
  have f0 : Fr sQR h h0 := by rw [E0]; exact Fr.rf.set (by omega)
  have RD0 : DR h0 0 D := RD.fr f0 (fun k j z => by omega)
  refine zS_aload_n (zdec eX10_total 3 rfl) rfl rfl ?_
  refine zvI (M' := mX10_isDesk) (As := []) (st := []) (zdec eX10_total 4 rfl) kM_X10_332 kV_X10_isDesk ⟨by decide, rfl⟩ rfl rfl rfl rfl rfl (by omega) (d_isDesk VD RD0) ?_
  refine zS_if_ne (tgt := 15) (zdec eX10_total 5 rfl) rfl (fun c1 => ?_) (fun c1 => ?_)
  · have z1 := d2i_n.mp c1
    refine zS_aload_n (zdec eX10_total 8 rfl) rfl rfl ?_
    have hd0 : 0 < D 0 0 := by first | omega
    refine zvMV (M' := mX10_laysNow) (As := []) (st := []) (zdec eX10_total 9 rfl) kM_X10_342 kV_X10_laysNow ⟨by decide, rfl⟩ rfl rfl rfl rfl rfl (by omega) (r_laysNow hp hq (by omega) VD hd0 RD0) (fun h2 ⟨⟨V, R, S, O, CA⟩, ⟨q0, q1⟩, g2, RD2⟩ => ?_)
    have f2 : Fr sQR h h2 := f0.tr g2 (fun k j z => z) (fun k j z => z)
    refine zS_aload_n (zdec eX10_total 10 rfl) rfl rfl ?_
    refine zvI (M' := mX10_totalNow) (As := []) (st := []) (zdec eX10_total 11 rfl) kM_X10_358 kV_X10_totalNow ⟨by decide, rfl⟩ rfl rfl rfl rfl rfl (by omega) (r_totalNow (by omega) V R S q0 q1) ?_
    exact zlMI (zdec eX10_total 12 rfl) rfl ⟨by unfold a_total; (try rw [hp]); (try rw [hq]); first | rw [if_pos (by omega)] | rw [if_neg (by omega)], f2⟩
  · have z1 := d2i_0.mp c1
    refine zS_bipush (zdec eX10_total 6 rfl) rfl rfl ?_
    exact zlMI (zdec eX10_total 7 rfl) rfl ⟨by unfold a_total; (try rw [hp]); (try rw [hq]); first | rw [if_pos (by omega)] | rw [if_neg (by omega)], f0⟩
theorem q_gets {d : Nat} {h : zH} {D : Dk} {x : Int} (hd : 200 ≤ d) (VD : DV D) (RD : DR h 0 D) : zMI d mX10_gets [zA 108, zI x] h (fun r h' => r = a_gets D x ∧ Fr sQR h h') := by
  obtain ⟨p, hp⟩ : ∃ p, pb0 D = p := ⟨_, rfl⟩
  obtain ⟨q, hq⟩ : ∃ q, planP p = q := ⟨_, rfl⟩
  have pd : pDays p = D 0 1 := by rw [← hp]; rfl
  have pn : pNb p = D 0 8 := by rw [← hp]; rfl
  have dy := VD.days
  have nb := VD.nb
  have ns := VD.ns
  have nl := VD.nl
  have na := VD.na
  have vfl := VD.fl
  have vfe := VD.fee
  have hin : ∀ b, 0 ≤ b → b < pNb p → pIn p b = true := fun b _ _ => by rw [← hp]; rfl
  refine zmet rfl rfl rfl ?_
  refine zS_aload_n (zdec eX10_gets 0 rfl) rfl rfl ?_
  refine zS_iconst (zdec eX10_gets 1 rfl) rfl ?_
  refine zS_putfield (x := 0) (zdec eX10_gets 2 rfl) kF_X10_71 (Or.inl kf10_0) ⟨by decide, rfl⟩ rfl rfl rfl (Or.inl (fun q => by cases q)) ?_
  obtain ⟨h0, E0⟩ : ∃ x, x = zset h 108 0 0 := ⟨_, rfl⟩
  rw [show zset h 108 0 (0 : Int) = h0 from E0.symm]
  have f0 : Fr sQR h h0 := by rw [E0]; exact Fr.rf.set (by omega)
  have RD0 : DR h0 0 D := RD.fr f0 (fun k j z => by omega)
  refine zS_aload_n (zdec eX10_gets 3 rfl) rfl rfl ?_
  refine zS_iload_n (zdec eX10_gets 4 rfl) rfl ?_
  refine zvI (M' := mX10_isSupplier) (As := [zI x]) (st := []) (zdec eX10_gets 5 rfl) kM_X10_243 kV_X10_isSupplier ⟨by decide, rfl⟩ rfl rfl rfl rfl rfl (by omega) (d_isSup (by omega) VD RD0) ?_
  refine zS_if_ne (tgt := 16) (zdec eX10_gets 6 rfl) rfl (fun c1 => ?_) (fun c1 => ?_)
  · have z1 := d2i_n.mp c1
    refine zS_aload_n (zdec eX10_gets 9 rfl) rfl rfl ?_
    have hd0 : 0 < D 0 0 := by first | omega | exact VD.bill (show 0 ≤ x by omega) (show x < D 0 8 by omega) | exact VD.day (show 0 ≤ x by omega) (show x < D 0 1 by omega) | exact VD.sup (show 0 ≤ x by omega) (show x < D 0 7 by omega)
    refine zvMV (M' := mX10_laysNow) (As := []) (st := []) (zdec eX10_gets 10 rfl) kM_X10_342 kV_X10_laysNow ⟨by decide, rfl⟩ rfl rfl rfl rfl rfl (by omega) (r_laysNow hp hq (by omega) VD hd0 RD0) (fun h2 ⟨⟨V, R, S, O, CA⟩, ⟨q0, q1⟩, g2, RD2⟩ => ?_)
    have f2 : Fr sQR h h2 := f0.tr g2 (fun k j z => z) (fun k j z => z)
    refine zS_aload_n (zdec eX10_gets 11 rfl) rfl rfl ?_
    refine zS_iload_n (zdec eX10_gets 12 rfl) rfl ?_
    refine zvI (M' := mX10_paidTo) (As := [zI x]) (st := []) (zdec eX10_gets 13 rfl) kM_X10_361 kV_X10_paidTo ⟨by decide, rfl⟩ rfl rfl rfl rfl rfl (by omega) (r_paidTo (by omega) V R S q0 q1) ?_
    exact zlMI (zdec eX10_gets 14 rfl) rfl ⟨by unfold a_gets; (try rw [hp]); (try rw [hq]); first | rw [if_pos (by omega)] | rw [if_neg (by omega)], f2⟩
  · have z1 := d2i_0.mp c1
    refine zS_bipush (zdec eX10_gets 7 rfl) rfl rfl ?_
    exact zlMI (zdec eX10_gets 8 rfl) rfl ⟨by unfold a_gets; (try rw [hp]); (try rw [hq]); first | rw [if_pos (by omega)] | rw [if_neg (by omega)], f0⟩
theorem q_room {d : Nat} {h : zH} {D : Dk} (hd : 200 ≤ d) (VD : DV D) (RD : DR h 0 D) : zMI d mX10_room [zA 108] h (fun r h' => r = a_room D ∧ Fr sQR h h') := by
  obtain ⟨p, hp⟩ : ∃ p, pb0 D = p := ⟨_, rfl⟩
  obtain ⟨q, hq⟩ : ∃ q, planP p = q := ⟨_, rfl⟩
  have pd : pDays p = D 0 1 := by rw [← hp]; rfl
  have pn : pNb p = D 0 8 := by rw [← hp]; rfl
  have dy := VD.days
  have nb := VD.nb
  have ns := VD.ns
  have nl := VD.nl
  have na := VD.na
  have vfl := VD.fl
  have vfe := VD.fee
  have hin : ∀ b, 0 ≤ b → b < pNb p → pIn p b = true := fun b _ _ => by rw [← hp]; rfl
  refine zmet rfl rfl rfl ?_
  refine zS_aload_n (zdec eX10_room 0 rfl) rfl rfl ?_
  refine zS_iconst (zdec eX10_room 1 rfl) rfl ?_
  refine zS_putfield (x := 0) (zdec eX10_room 2 rfl) kF_X10_71 (Or.inl kf10_0) ⟨by decide, rfl⟩ rfl rfl rfl (Or.inl (fun q => by cases q)) ?_
  obtain ⟨h0, E0⟩ : ∃ x, x = zset h 108 0 0 := ⟨_, rfl⟩
  rw [show zset h 108 0 (0 : Int) = h0 from E0.symm]
  have f0 : Fr sQR h h0 := by rw [E0]; exact Fr.rf.set (by omega)
  have RD0 : DR h0 0 D := RD.fr f0 (fun k j z => by omega)
  refine zS_aload_n (zdec eX10_room 3 rfl) rfl rfl ?_
  refine zvI (M' := mX10_isDesk) (As := []) (st := []) (zdec eX10_room 4 rfl) kM_X10_332 kV_X10_isDesk ⟨by decide, rfl⟩ rfl rfl rfl rfl rfl (by omega) (d_isDesk VD RD0) ?_
  refine zS_if_ne (tgt := 16) (zdec eX10_room 5 rfl) rfl (fun c1 => ?_) (fun c1 => ?_)
  · have z1 := d2i_n.mp c1
    have hd0 : 0 < D 0 0 := by first | omega
    refine zS_aload_n (zdec eX10_room 8 rfl) rfl rfl ?_
    have hd0 : 0 < D 0 0 := by first | omega
    refine zvMV (M' := mX10_laysNow) (As := []) (st := []) (zdec eX10_room 9 rfl) kM_X10_342 kV_X10_laysNow ⟨by decide, rfl⟩ rfl rfl rfl rfl rfl (by omega) (r_laysNow hp hq (by omega) VD hd0 RD0) (fun h2 ⟨⟨V, R, S, O, CA⟩, ⟨q0, q1⟩, g2, RD2⟩ => ?_)
    have f2 : Fr sQR h h2 := f0.tr g2 (fun k j z => z) (fun k j z => z)
    refine zS_aload_n (zdec eX10_room 10 rfl) rfl rfl ?_
    refine zS_getref (i := 70) (zdec eX10_room 11 rfl) kF_X10_62 ⟨by decide, rfl⟩ rfl rfl rfl rfl rfl ?_
    refine zS_aload_n (zdec eX10_room 12 rfl) rfl rfl ?_
    have ar := amI_rng (f := cashP p q) (k := pDays p) (by have := V.days; omega)
    have cb := cashB V q ar.1 ar.2
    have vf := V.fl
    refine zvI (M' := mX10_tightNow) (As := []) (st := [zA 124]) (zdec eX10_room 13 rfl) kM_X10_352 kV_X10_tightNow ⟨by decide, rfl⟩ rfl rfl rfl rfl rfl (by omega) (r_tightNow (by omega) V R CA) ?_
    refine zS_ialoadE (v := (cashP p q (amI (cashP p q) (pDays p)))) (zdec eX10_room 14 rfl) ⟨by decide, rfl⟩ (by omega) (by omega) (CA _ (by omega) (by omega)) ?_
    refine zS_aload_n (zdec eX10_room 15 rfl) rfl rfl ?_
    refine zS_getfieldE (x := 25) (v := (pFl p)) (zdec eX10_room 16 rfl) kF_X10_252 ⟨by decide, rfl⟩ rfl rfl rfl R.fl ?_
    refine zS_isub (zdec eX10_room 17 rfl) ⟨by omega, by omega⟩ ?_
    exact zlMI (zdec eX10_room 18 rfl) rfl ⟨by unfold a_room; rw [hp, hq, if_pos (by omega), show pFl p = D 0 5 by rw [← hp]; rfl], f2⟩
  · have z1 := d2i_0.mp c1
    refine zS_ldc_w (zdec eX10_room 6 rfl) kc_X10_351 rfl ?_
    exact zlMI (zdec eX10_room 7 rfl) rfl ⟨by unfold a_room; rw [if_neg (by omega)], f0⟩
theorem q_early {d : Nat} {h : zH} {D : Dk} {x : Int} (hd : 200 ≤ d) (VD : DV D) (RD : DR h 0 D) : zMI d mX10_early [zA 108, zI x] h (fun r h' => r = a_early D x ∧ Fr sQR h h') := by
  obtain ⟨p, hp⟩ : ∃ p, pb0 D = p := ⟨_, rfl⟩
  obtain ⟨q, hq⟩ : ∃ q, planP p = q := ⟨_, rfl⟩
  have pd : pDays p = D 0 1 := by rw [← hp]; rfl
  have pn : pNb p = D 0 8 := by rw [← hp]; rfl
  have dy := VD.days
  have nb := VD.nb
  have ns := VD.ns
  have nl := VD.nl
  have na := VD.na
  have vfl := VD.fl
  have vfe := VD.fee
  have hin : ∀ b, 0 ≤ b → b < pNb p → pIn p b = true := fun b _ _ => by rw [← hp]; rfl
  refine zmet rfl rfl rfl ?_
  refine zS_aload_n (zdec eX10_early 0 rfl) rfl rfl ?_
  refine zS_iconst (zdec eX10_early 1 rfl) rfl ?_
  refine zS_putfield (x := 0) (zdec eX10_early 2 rfl) kF_X10_71 (Or.inl kf10_0) ⟨by decide, rfl⟩ rfl rfl rfl (Or.inl (fun q => by cases q)) ?_
  obtain ⟨h0, E0⟩ : ∃ x, x = zset h 108 0 0 := ⟨_, rfl⟩
  rw [show zset h 108 0 (0 : Int) = h0 from E0.symm]
  have f0 : Fr sQR h h0 := by rw [E0]; exact Fr.rf.set (by omega)
  have RD0 : DR h0 0 D := RD.fr f0 (fun k j z => by omega)
  refine zS_aload_n (zdec eX10_early 3 rfl) rfl rfl ?_
  refine zS_iload_n (zdec eX10_early 4 rfl) rfl ?_
  refine zS_i2l (zdec eX10_early 5 rfl) ?_
  refine zvI (M' := mX10_isBill) (As := [zJ x]) (st := []) (zdec eX10_early 6 rfl) kM_X10_324 kV_X10_isBill ⟨by decide, rfl⟩ rfl rfl rfl rfl rfl (by omega) (d_isBill (by omega) VD RD0) ?_
  refine zS_if_ne (tgt := 18) (zdec eX10_early 7 rfl) rfl (fun c1 => ?_) (fun c1 => ?_)
  · have z1 := d2i_n.mp c1
    refine zS_aload_n (zdec eX10_early 10 rfl) rfl rfl ?_
    have hd0 : 0 < D 0 0 := by first | omega | exact VD.bill (show 0 ≤ x by omega) (show x < D 0 8 by omega) | exact VD.day (show 0 ≤ x by omega) (show x < D 0 1 by omega) | exact VD.sup (show 0 ≤ x by omega) (show x < D 0 7 by omega)
    refine zvMV (M' := mX10_laysNow) (As := []) (st := []) (zdec eX10_early 11 rfl) kM_X10_342 kV_X10_laysNow ⟨by decide, rfl⟩ rfl rfl rfl rfl rfl (by omega) (r_laysNow hp hq (by omega) VD hd0 RD0) (fun h2 ⟨⟨V, R, S, O, CA⟩, ⟨q0, q1⟩, g2, RD2⟩ => ?_)
    have f2 : Fr sQR h h2 := f0.tr g2 (fun k j z => z) (fun k j z => z)
    refine zS_aload_n (zdec eX10_early 12 rfl) rfl rfl ?_
    refine zS_getref (i := 69) (zdec eX10_early 13 rfl) kF_X10_59 ⟨by decide, rfl⟩ rfl rfl rfl rfl rfl ?_
    refine zS_iload_n (zdec eX10_early 14 rfl) rfl ?_
    refine zS_ialoadE (v := (q x)) (zdec eX10_early 15 rfl) ⟨by decide, rfl⟩ (by omega) (by omega) (S x (by omega) (by omega)) ?_
    refine zS_aload_n (zdec eX10_early 16 rfl) rfl rfl ?_
    refine zvI (M' := mX10_days) (As := []) (st := [zI (q x)]) (zdec eX10_early 17 rfl) kM_X10_240 kV_X10_days ⟨by decide, rfl⟩ rfl rfl rfl rfl rfl (by omega) (r_days R) ?_
    refine zS_icmp_ne (tgt := 40) (zdec eX10_early 18 rfl) rfl (fun c2 => ?_) (fun c2 => ?_)
    · have rwx := V.due (show 0 ≤ x by omega) (show x < pNb p by omega)
      have qx0 := q0 x
      have qx1 := q1 x
      refine zS_aload_n (zdec eX10_early 21 rfl) rfl rfl ?_
      refine zS_getref (i := 63) (zdec eX10_early 22 rfl) kF_X10_40 ⟨by decide, rfl⟩ rfl rfl rfl rfl rfl ?_
      refine zS_bipush (zdec eX10_early 23 rfl) rfl rfl ?_
      refine zS_iload_n (zdec eX10_early 24 rfl) rfl ?_
      refine zS_imul (zdec eX10_early 25 rfl) ⟨by omega, by omega⟩ ?_
      refine zS_iconst (zdec eX10_early 26 rfl) rfl ?_
      refine zS_iadd (zdec eX10_early 27 rfl) ⟨by omega, by omega⟩ ?_
      refine zS_ialoadE (v := (pDue p x)) (zdec eX10_early 28 rfl) ⟨by decide, rfl⟩ (by omega) (by omega) (R.due (by omega) (by omega)) ?_
      refine zS_aload_n (zdec eX10_early 29 rfl) rfl rfl ?_
      refine zS_getref (i := 69) (zdec eX10_early 30 rfl) kF_X10_59 ⟨by decide, rfl⟩ rfl rfl rfl rfl rfl ?_
      refine zS_iload_n (zdec eX10_early 31 rfl) rfl ?_
      refine zS_ialoadE (v := (q x)) (zdec eX10_early 32 rfl) ⟨by decide, rfl⟩ (by omega) (by omega) (S x (by omega) (by omega)) ?_
      refine zS_isub (zdec eX10_early 33 rfl) ⟨by omega, by omega⟩ ?_
      exact zlMI (zdec eX10_early 34 rfl) rfl ⟨by unfold a_early; rw [hp, hq, if_pos (by omega), if_pos (by have := q1 x; omega), show pDue p x = D (3 + x) 4 by rw [← hp]; rfl], f2⟩
    · refine zS_bipush (zdec eX10_early 19 rfl) rfl rfl ?_
      refine zS_goto (tgt := 58) (zdec eX10_early 20 rfl) rfl ?_
      exact zlMI (zdec eX10_early 34 rfl) rfl ⟨by unfold a_early; rw [hp, hq, if_pos (by omega), if_neg (by omega)], f2⟩
  · have z1 := d2i_0.mp c1
    refine zS_sipush (zdec eX10_early 8 rfl) rfl rfl ?_
    exact zlMI (zdec eX10_early 9 rfl) rfl ⟨by unfold a_early; rw [if_neg (by omega)], f0⟩
theorem q_order {d : Nat} {h : zH} {D : Dk} {x : Int} (hd : 200 ≤ d) (VD : DV D) (RD : DR h 0 D) : zMI d mX10_order [zA 108, zI x] h (fun r h' => r = a_order D x ∧ Fr sQR h h') := by
  obtain ⟨p, hp⟩ : ∃ p, pb0 D = p := ⟨_, rfl⟩
  obtain ⟨q, hq⟩ : ∃ q, planP p = q := ⟨_, rfl⟩
  have pd : pDays p = D 0 1 := by rw [← hp]; rfl
  have pn : pNb p = D 0 8 := by rw [← hp]; rfl
  have dy := VD.days
  have nb := VD.nb
  have ns := VD.ns
  have nl := VD.nl
  have na := VD.na
  have vfl := VD.fl
  have vfe := VD.fee
  have hin : ∀ b, 0 ≤ b → b < pNb p → pIn p b = true := fun b _ _ => by rw [← hp]; rfl
  refine zmet rfl rfl rfl ?_
  refine zS_aload_n (zdec eX10_order 0 rfl) rfl rfl ?_
  refine zS_iconst (zdec eX10_order 1 rfl) rfl ?_
  refine zS_putfield (x := 0) (zdec eX10_order 2 rfl) kF_X10_71 (Or.inl kf10_0) ⟨by decide, rfl⟩ rfl rfl rfl (Or.inl (fun q => by cases q)) ?_
  obtain ⟨h0, E0⟩ : ∃ x, x = zset h 108 0 0 := ⟨_, rfl⟩
  rw [show zset h 108 0 (0 : Int) = h0 from E0.symm]
  have f0 : Fr sQR h h0 := by rw [E0]; exact Fr.rf.set (by omega)
  have RD0 : DR h0 0 D := RD.fr f0 (fun k j z => by omega)
  refine zS_aload_n (zdec eX10_order 3 rfl) rfl rfl ?_
  refine zvI (M' := mX10_isDesk) (As := []) (st := []) (zdec eX10_order 4 rfl) kM_X10_332 kV_X10_isDesk ⟨by decide, rfl⟩ rfl rfl rfl rfl rfl (by omega) (d_isDesk VD RD0) ?_
  refine zS_if_eq (tgt := 16) (zdec eX10_order 5 rfl) rfl (fun c1 => ?_) (fun c1 => ?_)
  · have z1 := d2i_0.mp c1
    refine zS_bipush (zdec eX10_order 8 rfl) rfl rfl ?_
    exact zlMI (zdec eX10_order 9 rfl) rfl ⟨by unfold a_order; rw [if_neg (by omega)], f0⟩
  · have z1 := d2i_n.mp c1
    refine zS_iload_n (zdec eX10_order 6 rfl) rfl ?_
    refine zS_if_ge (tgt := 19) (zdec eX10_order 7 rfl) rfl (fun c2 => ?_) (fun c2 => ?_)
    · refine zS_aload_n (zdec eX10_order 10 rfl) rfl rfl ?_
      have hd0 : 0 < D 0 0 := by first | omega | exact VD.bill (show 0 ≤ x by omega) (show x < D 0 8 by omega) | exact VD.day (show 0 ≤ x by omega) (show x < D 0 1 by omega) | exact VD.sup (show 0 ≤ x by omega) (show x < D 0 7 by omega)
      refine zvMV (M' := mX10_lays) (As := []) (st := []) (zdec eX10_order 11 rfl) kM_X10_314 kV_X10_lays ⟨by decide, rfl⟩ rfl rfl rfl rfl rfl (by omega) (r_lays (by omega) VD hd0 RD0) (fun h2 ⟨R, cl2, g2⟩ => ?_)
      rw [hp] at R
      have V : PV p := by rw [← hp]; exact pb0_V VD hd0
      have f2 : Fr sQR h h2 := f0.tr g2 (fun k j z => z) (fun k j z => by omega)
      have RD2 : DR h2 0 D := RD.fr f2 (fun k j z => by omega)
      refine zS_aload_n (zdec eX10_order 12 rfl) rfl rfl ?_
      refine zvMV (M' := mX10_laysTurns) (As := []) (st := []) (zdec eX10_order 13 rfl) kM_X10_304 kV_X10_laysTurns ⟨by decide, rfl⟩ rfl rfl rfl rfl rfl (by omega) (r_laysTurns (by omega) V R) (fun h3 ⟨O3, g3⟩ => ?_)
      have f3 : Fr sQR h h3 := f2.tr g3 (fun k j z => z) (fun k j z => by omega)
      have ol : ((ordP p).length : Int) ≤ pNb p := ordI_len (p := p) (e := pNb p) (by omega)
      refine zS_iload_n (zdec eX10_order 14 rfl) rfl ?_
      refine zS_aload_n (zdec eX10_order 15 rfl) rfl rfl ?_
      refine zS_getfieldE (x := 34) (v := ((ordP p).length : Int)) (zdec eX10_order 16 rfl) kF_X10_298 ⟨by decide, rfl⟩ rfl rfl rfl O3.1 ?_
      refine zS_icmp_ge (tgt := 44) (zdec eX10_order 17 rfl) rfl (fun c3 => ?_) (fun c3 => ?_)
      · refine zS_iconst (zdec eX10_order 23 rfl) rfl ?_
        exact zlMI (zdec eX10_order 24 rfl) rfl ⟨by unfold a_order; rw [hp, if_pos (by omega), if_neg (by omega)], f3⟩
      · refine zS_aload_n (zdec eX10_order 18 rfl) rfl rfl ?_
        refine zS_getref (i := 71) (zdec eX10_order 19 rfl) kF_X10_65 ⟨by decide, rfl⟩ rfl rfl rfl rfl rfl ?_
        refine zS_iload_n (zdec eX10_order 20 rfl) rfl ?_
        refine zS_ialoadE (v := ((ordP p).getD x.toNat 0)) (zdec eX10_order 21 rfl) ⟨by decide, rfl⟩ (by omega) (by omega) (by have := O3.2 x.toNat (by omega); rw [Int.toNat_of_nonneg (by omega)] at this; exact this) ?_
        refine zS_goto (tgt := 45) (zdec eX10_order 22 rfl) rfl ?_
        exact zlMI (zdec eX10_order 24 rfl) rfl ⟨by unfold a_order; rw [hp, if_pos (by omega), if_pos (by omega)], f3⟩
    · refine zS_bipush (zdec eX10_order 8 rfl) rfl rfl ?_
      exact zlMI (zdec eX10_order 9 rfl) rfl ⟨by unfold a_order; rw [if_neg (by omega)], f0⟩
theorem q_rate {d : Nat} {h : zH} {D : Dk} {x y : Int} (hd : 200 ≤ d) (VD : DV D) (RD : DR h 0 D) : zMI d mX10_rate [zA 108, zI x, zI y] h (fun r h' => r = a_rate D x y ∧ Fr sQR h h') := by
  obtain ⟨p, hp⟩ : ∃ p, pb0 D = p := ⟨_, rfl⟩
  obtain ⟨q, hq⟩ : ∃ q, planP p = q := ⟨_, rfl⟩
  have pd : pDays p = D 0 1 := by rw [← hp]; rfl
  have pn : pNb p = D 0 8 := by rw [← hp]; rfl
  have dy := VD.days
  have nb := VD.nb
  have ns := VD.ns
  have nl := VD.nl
  have na := VD.na
  have vfl := VD.fl
  have vfe := VD.fee
  have hin : ∀ b, 0 ≤ b → b < pNb p → pIn p b = true := fun b _ _ => by rw [← hp]; rfl
  refine zmet rfl rfl rfl ?_
  refine zS_aload_n (zdec eX10_rate 0 rfl) rfl rfl ?_
  refine zS_iconst (zdec eX10_rate 1 rfl) rfl ?_
  refine zS_putfield (x := 0) (zdec eX10_rate 2 rfl) kF_X10_71 (Or.inl kf10_0) ⟨by decide, rfl⟩ rfl rfl rfl (Or.inl (fun q => by cases q)) ?_
  obtain ⟨h0, E0⟩ : ∃ x, x = zset h 108 0 0 := ⟨_, rfl⟩
  rw [show zset h 108 0 (0 : Int) = h0 from E0.symm]
  have f0 : Fr sQR h h0 := by rw [E0]; exact Fr.rf.set (by omega)
  have RD0 : DR h0 0 D := RD.fr f0 (fun k j z => by omega)
  refine zS_aload_n (zdec eX10_rate 3 rfl) rfl rfl ?_
  refine zS_iload_n (zdec eX10_rate 4 rfl) rfl ?_
  refine zS_i2l (zdec eX10_rate 5 rfl) ?_
  refine zvI (M' := mX10_isBill) (As := [zJ x]) (st := []) (zdec eX10_rate 6 rfl) kM_X10_324 kV_X10_isBill ⟨by decide, rfl⟩ rfl rfl rfl rfl rfl (by omega) (d_isBill (by omega) VD RD0) ?_
  refine zS_if_eq (tgt := 21) (zdec eX10_rate 7 rfl) rfl (fun c1 => ?_) (fun c1 => ?_)
  · have z1 := d2i_0.mp c1
    refine zS_bipush (zdec eX10_rate 11 rfl) rfl rfl ?_
    exact zlMI (zdec eX10_rate 12 rfl) rfl ⟨by unfold a_rate; rw [if_neg (by omega)], f0⟩
  · have z1 := d2i_n.mp c1
    refine zS_iload_n (zdec eX10_rate 8 rfl) rfl ?_
    refine zsI (M' := mX10_isHalf) (As := [zI y]) (st := []) (zdec eX10_rate 9 rfl) kM_X10_335 kS_X10_isHalf rfl rfl rfl (by omega) (d_isHalf (by omega)) ?_
    refine zS_if_ne (tgt := 24) (zdec eX10_rate 10 rfl) rfl (fun c2 => ?_) (fun c2 => ?_)
    · have z2 := d2i_n.mp c2
      refine zS_aload_n (zdec eX10_rate 13 rfl) rfl rfl ?_
      have hd0 : 0 < D 0 0 := by first | omega | exact VD.bill (show 0 ≤ x by omega) (show x < D 0 8 by omega) | exact VD.day (show 0 ≤ x by omega) (show x < D 0 1 by omega) | exact VD.sup (show 0 ≤ x by omega) (show x < D 0 7 by omega)
      refine zvMV (M' := mX10_lays) (As := []) (st := []) (zdec eX10_rate 14 rfl) kM_X10_314 kV_X10_lays ⟨by decide, rfl⟩ rfl rfl rfl rfl rfl (by omega) (r_lays (by omega) VD hd0 RD0) (fun h2 ⟨R, cl2, g2⟩ => ?_)
      rw [hp] at R
      have V : PV p := by rw [← hp]; exact pb0_V VD hd0
      have f2 : Fr sQR h h2 := f0.tr g2 (fun k j z => z) (fun k j z => by omega)
      have RD2 : DR h2 0 D := RD.fr f2 (fun k j z => by omega)
      refine zS_aload_n (zdec eX10_rate 15 rfl) rfl rfl ?_
      refine zS_iload_n (zdec eX10_rate 16 rfl) rfl ?_
      refine zvI (M' := mX10_offOf) (As := [zI x]) (st := []) (zdec eX10_rate 17 rfl) kM_X10_271 kV_X10_offOf ⟨by decide, rfl⟩ rfl rfl rfl rfl rfl (by omega) (r_offOf V R (by omega) (by omega)) ?_
      refine zS_i2l (zdec eX10_rate 18 rfl) ?_
      refine zS_aload_n (zdec eX10_rate 19 rfl) rfl rfl ?_
      refine zS_iload_n (zdec eX10_rate 20 rfl) rfl ?_
      refine zvI (M' := mX10_spanOf) (As := [zI x]) (st := [zJ (gainP p x)]) (zdec eX10_rate 21 rfl) kM_X10_295 kV_X10_spanOf ⟨by decide, rfl⟩ rfl rfl rfl rfl rfl (by omega) (r_spanOf (by omega) V R (by omega) (by omega)) ?_
      refine zS_i2l (zdec eX10_rate 22 rfl) ?_
      refine zS_iload_n (zdec eX10_rate 23 rfl) rfl ?_
      have gb := gainB V (show 0 ≤ x by omega) (show x < pNb p by omega)
      have nt := V.net (show 0 ≤ x by omega) (show x < pNb p by omega)
      have sb := spanB V (show 0 ≤ x by omega) (show x < pNb p by omega)
      refine zsJ (M' := mX10_partOf) (As := [zJ (gainP p x), zJ (spanP p x), zI y]) (st := []) (zdec eX10_rate 24 rfl) kM_X10_338 kS_X10_partOf rfl rfl rfl (by omega) (r_partOf (by omega) (by omega) (by omega) (by omega) (by omega)) ?_
      refine zS_l2i (zdec eX10_rate 25 rfl) ?_
      exact zlMI (zdec eX10_rate 26 rfl) rfl ⟨by unfold a_rate; rw [hp, if_pos (by omega)], f2⟩
    · have z2 := d2i_0.mp c2
      refine zS_bipush (zdec eX10_rate 11 rfl) rfl rfl ?_
      exact zlMI (zdec eX10_rate 12 rfl) rfl ⟨by unfold a_rate; rw [if_neg (by omega)], f0⟩

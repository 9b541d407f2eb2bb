theorem L_income {d : Nat} {h : zH} {p : Pb} {x y : Int} (V : PV p) (R : WC h p) (hb : ∀ i, 0 ≤ i → i < pNl p → bitB y i = pCm p i) : ∀ (n : Nat) (e : Int), 0 ≤ e → e + n = pNl p → zS mX0_incomeOn_ (zr d) 5 [zA 15, zI x, zI y, zI (sumI (fun i => if pOn p i = x ∧ pCm p i = true then pAmt p i else 0) e), zI e] [] TT h (zOne (incP p x) h) := by
  intro n
  induction n with
  | zero =>
    intro e a1 a2
    refine zS_iload (zdec eX0_incomeOn_ 4 rfl) rfl ?_
    refine zS_aload_n (zdec eX0_incomeOn_ 5 rfl) rfl rfl ?_
    refine zS_getfieldE (x := 9) (v := (pNl p)) (zdec eX0_incomeOn_ 6 rfl) kF_X0_57 ⟨by decide, rfl⟩ rfl rfl rfl R.nl ?_
    refine zS_icmp_ge (tgt := 51) (zdec eX0_incomeOn_ 7 rfl) rfl (fun cz => ?_) (fun cz => absurd (by omega) cz)
    refine zS_iload_n (zdec eX0_incomeOn_ 30 rfl) rfl ?_
    exact zlI (zdec eX0_incomeOn_ 31 rfl) rfl (by unfold incP; rw [show e = pNl p by omega])
  | succ n ih =>
    intro e a1 a2
    have nl := V.nl
    have ib := incB V x (k := e) (by omega) (by omega)
    have am := V.amt (show 0 ≤ e by omega) (show e < pNl p by omega)
    refine zS_iload (zdec eX0_incomeOn_ 4 rfl) rfl ?_
    refine zS_aload_n (zdec eX0_incomeOn_ 5 rfl) rfl rfl ?_
    refine zS_getfieldE (x := 9) (v := (pNl p)) (zdec eX0_incomeOn_ 6 rfl) kF_X0_57 ⟨by decide, rfl⟩ rfl rfl rfl R.nl ?_
    refine zS_icmp_ge (tgt := 51) (zdec eX0_incomeOn_ 7 rfl) rfl (fun cz => absurd cz (by omega)) (fun cz => ?_)
    refine zS_aload_n (zdec eX0_incomeOn_ 8 rfl) rfl rfl ?_
    refine zS_getref (i := 28) (zdec eX0_incomeOn_ 9 rfl) kF_X0_23 ⟨by decide, rfl⟩ rfl rfl rfl rfl rfl ?_
    refine zS_iload (zdec eX0_incomeOn_ 10 rfl) rfl ?_
    refine zS_ialoadE (v := (pOn p e)) (zdec eX0_incomeOn_ 11 rfl) ⟨by decide, rfl⟩ (by omega) (by omega) (R.on' (by omega) (by omega)) ?_
    refine zS_iload_n (zdec eX0_incomeOn_ 12 rfl) rfl ?_
    refine zS_icmp_ne (tgt := 45) (zdec eX0_incomeOn_ 13 rfl) rfl (fun c1 => ?_) (fun c1 => ?_)
    · refine zS_iinc (zdec eX0_incomeOn_ 28 rfl) rfl rfl ⟨by omega, by omega⟩ ?_
      refine zS_goto (tgt := 5) (zdec eX0_incomeOn_ 29 rfl) rfl ?_
      have k := ih (e + 1) (by omega) (by omega)
      rw [sumI_s _ (by omega)] at k
      have hbe := hb e (by omega) (by omega)
      rw [if_neg (fun z => c1 z.1), Int.add_zero] at k
      exact k
    · refine zS_iload_n (zdec eX0_incomeOn_ 14 rfl) rfl ?_
      refine zS_iload (zdec eX0_incomeOn_ 15 rfl) rfl ?_
      refine zS_ishr (zdec eX0_incomeOn_ 16 rfl) ?_
      refine zS_iconst (zdec eX0_incomeOn_ 17 rfl) rfl ?_
      refine zS_iand (zdec eX0_incomeOn_ 18 rfl) ?_
      refine zS_iconst (zdec eX0_incomeOn_ 19 rfl) rfl ?_
      refine zS_icmp_ne (tgt := 45) (zdec eX0_incomeOn_ 20 rfl) rfl (fun c2 => ?_) (fun c2 => ?_)
      · refine zS_iinc (zdec eX0_incomeOn_ 28 rfl) rfl rfl ⟨by omega, by omega⟩ ?_
        refine zS_goto (tgt := 5) (zdec eX0_incomeOn_ 29 rfl) rfl ?_
        have k := ih (e + 1) (by omega) (by omega)
        rw [sumI_s _ (by omega)] at k
        have hbe := hb e (by omega) (by omega)
        rw [if_neg (fun z => c2 (bitB_t.mp (hbe.trans z.2))), Int.add_zero] at k
        exact k
      · refine zS_iload_n (zdec eX0_incomeOn_ 21 rfl) rfl ?_
        refine zS_aload_n (zdec eX0_incomeOn_ 22 rfl) rfl rfl ?_
        refine zS_getref (i := 27) (zdec eX0_incomeOn_ 23 rfl) kF_X0_20 ⟨by decide, rfl⟩ rfl rfl rfl rfl rfl ?_
        refine zS_iload (zdec eX0_incomeOn_ 24 rfl) rfl ?_
        refine zS_ialoadE (v := (pAmt p e)) (zdec eX0_incomeOn_ 25 rfl) ⟨by decide, rfl⟩ (by omega) (by omega) (R.amt (by omega) (by omega)) ?_
        refine zS_iadd (zdec eX0_incomeOn_ 26 rfl) ⟨by omega, by omega⟩ ?_
        refine zS_istore_n (zdec eX0_incomeOn_ 27 rfl) rfl ?_
        refine zS_iinc (zdec eX0_incomeOn_ 28 rfl) rfl rfl ⟨by omega, by omega⟩ ?_
        refine zS_goto (tgt := 5) (zdec eX0_incomeOn_ 29 rfl) rfl ?_
        have k := ih (e + 1) (by omega) (by omega)
        rw [sumI_s _ (by omega)] at k
        have hbe := hb e (by omega) (by omega)
        rw [if_pos ⟨c1, hbe.symm.trans (bitB_t.mpr c2)⟩] at k
        exact k
theorem c_income {d : Nat} {h : zH} {p : Pb} {x y : Int} (V : PV p) (R : WC h p) (hb : ∀ i, 0 ≤ i → i < pNl p → bitB y i = pCm p i) : zPI d mX0_incomeOn_ [zA 15, zI x, zI y] h (incP p x) := by
  have nl := V.nl
  refine zmet rfl rfl rfl ?_
  refine zS_iconst (zdec eX0_incomeOn_ 0 rfl) rfl ?_
  refine zS_istore_n (zdec eX0_incomeOn_ 1 rfl) rfl ?_
  refine zS_iconst (zdec eX0_incomeOn_ 2 rfl) rfl ?_
  refine zS_istore (zdec eX0_incomeOn_ 3 rfl) rfl ?_
  exact L_income V R hb (pNl p).toNat 0 (by omega) (by omega)
theorem L_clear2 {d : Nat} {h : zH} {p : Pb} {s : Int} (V : PV p) (R : WC h p) : ∀ (n : Nat) (e : Int) (h1 : zH), 0 ≤ e → e + n = pNb p → (∀ j, 0 ≤ j → j < pDays p → h1 30 j = cameP p j ∧ h1 31 j = 0) → (∀ j, 0 ≤ j → j < e → h1 28 j = -1) → Fr (fun k j => k = 28 ∨ k = 30 ∨ k = 31 ∨ (k = 14 ∧ j = 14)) h h1 → zS mX8_clearPlan (zr d) 55 [zA 14, zI s, zI e] [] TT h1 (zAnV (fun h' => PlC h' p (fun _ => pDays p) ∧ h' 14 14 = 0 ∧ Fr (fun k j => k = 28 ∨ k = 30 ∨ k = 31 ∨ (k = 14 ∧ j = 14)) h h')) := by
  intro n
  induction n with
  | zero =>
    intro e h1 a1 a2 i1 i2 i3
    have R : WC h1 p := R.fr V i3 (fun k j z => by unfold wcP; omega)
    have nb := V.nb
    refine zS_iload_n (zdec eX8_clearPlan 33 rfl) rfl ?_
    refine zS_aload_n (zdec eX8_clearPlan 34 rfl) rfl rfl ?_
    refine zS_getref (i := 18) (zdec eX8_clearPlan 35 rfl) kF_X8_12 ⟨by decide, rfl⟩ rfl rfl rfl rfl rfl ?_
    refine zS_getfieldE (x := 8) (v := (pNb p)) (zdec eX8_clearPlan 36 rfl) kF_X8_37 ⟨by decide, rfl⟩ rfl rfl rfl R.nb ?_
    refine zS_icmp_ge (tgt := 79) (zdec eX8_clearPlan 37 rfl) rfl (fun cz => ?_) (fun cz => absurd (by omega) cz)
    refine zS_aload_n (zdec eX8_clearPlan 45 rfl) rfl rfl ?_
    refine zS_iconst (zdec eX8_clearPlan 46 rfl) rfl ?_
    refine zS_putfield (x := 14) (zdec eX8_clearPlan 47 rfl) kF_X8_86 (Or.inl kf8_14) ⟨by decide, rfl⟩ rfl rfl rfl (Or.inl (fun q => by cases q)) ?_
    exact zlMV (zdec eX8_clearPlan 48 rfl) rfl ⟨⟨fun b b0 b1 => by rw [zset_k (by decide), i2 b b0 (by omega)]; unfold dayC; exact (if_neg (Int.lt_irrefl _)).symm, fun x x0 x1 => ⟨by rw [zset_k (by decide), (i1 x x0 x1).1, cash_none x1], by rw [zset_k (by decide), (i1 x x0 x1).2]; exact file_none (by omega)⟩⟩, zset_s _ _ _ _, i3.set (Or.inr (Or.inr (Or.inr ⟨rfl, rfl⟩)))⟩
  | succ n ih =>
    intro e h1 a1 a2 i1 i2 i3
    have R : WC h1 p := R.fr V i3 (fun k j z => by unfold wcP; omega)
    have nb := V.nb
    refine zS_iload_n (zdec eX8_clearPlan 33 rfl) rfl ?_
    refine zS_aload_n (zdec eX8_clearPlan 34 rfl) rfl rfl ?_
    refine zS_getref (i := 18) (zdec eX8_clearPlan 35 rfl) kF_X8_12 ⟨by decide, rfl⟩ rfl rfl rfl rfl rfl ?_
    refine zS_getfieldE (x := 8) (v := (pNb p)) (zdec eX8_clearPlan 36 rfl) kF_X8_37 ⟨by decide, rfl⟩ rfl rfl rfl R.nb ?_
    refine zS_icmp_ge (tgt := 79) (zdec eX8_clearPlan 37 rfl) rfl (fun cz => absurd cz (by omega)) (fun cz => ?_)
    refine zS_aload_n (zdec eX8_clearPlan 38 rfl) rfl rfl ?_
    refine zS_getref (i := 21) (zdec eX8_clearPlan 39 rfl) kF_X8_25 ⟨by decide, rfl⟩ rfl rfl rfl rfl rfl ?_
    refine zS_iload_n (zdec eX8_clearPlan 40 rfl) rfl ?_
    refine zS_iconst (zdec eX8_clearPlan 41 rfl) rfl ?_
    refine zS_iastore (zdec eX8_clearPlan 42 rfl) ⟨by decide, rfl⟩ (by omega) (by omega) ?_
    refine zS_iinc (zdec eX8_clearPlan 43 rfl) rfl rfl ⟨by omega, by omega⟩ ?_
    refine zS_goto (tgt := 55) (zdec eX8_clearPlan 44 rfl) rfl ?_
    exact ih (e + 1) _ (by omega) (by omega) (fun j j0 j1 => by rw [zset_k (by decide), zset_k (by decide)]; exact i1 j j0 j1) (fun j j0 j1 => by
          by_cases w : j = e
          · rw [w]; exact zset_s _ _ _ _
          · rw [zset_j w]; exact i2 j j0 (by omega)) (i3.set (Or.inl rfl))
theorem L_clear1 {d : Nat} {h : zH} {p : Pb} (hd : 1 ≤ d) (V : PV p) (R : WC h p) : ∀ (n : Nat) (e : Int) (h1 : zH), 0 ≤ e → e + n = pDays p → (∀ j, 0 ≤ j → j < e → h1 30 j = cameP p j ∧ h1 31 j = 0) → Fr (fun k j => k = 28 ∨ k = 30 ∨ k = 31 ∨ (k = 14 ∧ j = 14)) h h1 → zS mX8_clearPlan (zr d) 7 [zA 14, zI (cameP p (e - 1)), zI e] [] TT h1 (zAnV (fun h' => PlC h' p (fun _ => pDays p) ∧ h' 14 14 = 0 ∧ Fr (fun k j => k = 28 ∨ k = 30 ∨ k = 31 ∨ (k = 14 ∧ j = 14)) h h')) := by
  intro n
  induction n with
  | zero =>
    intro e h1 a1 a2 i1 i3
    have R0 := R
    have R : WC h1 p := R.fr V i3 (fun k j z => by unfold wcP; omega)
    have dy := V.days
    have nb := V.nb
    refine zS_iload_n (zdec eX8_clearPlan 5 rfl) rfl ?_
    refine zS_aload_n (zdec eX8_clearPlan 6 rfl) rfl rfl ?_
    refine zS_getref (i := 18) (zdec eX8_clearPlan 7 rfl) kF_X8_12 ⟨by decide, rfl⟩ rfl rfl rfl rfl rfl ?_
    refine zS_getfieldE (x := 1) (v := (pDays p)) (zdec eX8_clearPlan 8 rfl) kF_X8_79 ⟨by decide, rfl⟩ rfl rfl rfl R.days ?_
    refine zS_icmp_ge (tgt := 53) (zdec eX8_clearPlan 9 rfl) rfl (fun cz => ?_) (fun cz => absurd (by omega) cz)
    refine zS_iconst (zdec eX8_clearPlan 31 rfl) rfl ?_
    refine zS_istore_n (zdec eX8_clearPlan 32 rfl) rfl ?_
    exact L_clear2 V R0 (pNb p).toNat 0 h1 (by omega) (by omega) (fun j j0 j1 => i1 j j0 (by omega)) (fun j j0 j1 => by omega) i3
  | succ n ih =>
    intro e h1 a1 a2 i1 i3
    have R0 := R
    have R : WC h1 p := R.fr V i3 (fun k j z => by unfold wcP; omega)
    have dy := V.days
    have cb := cameB V (e - 1)
    have cc := cameB V e
    have cs := came_s (p := p) e
    refine zS_iload_n (zdec eX8_clearPlan 5 rfl) rfl ?_
    refine zS_aload_n (zdec eX8_clearPlan 6 rfl) rfl rfl ?_
    refine zS_getref (i := 18) (zdec eX8_clearPlan 7 rfl) kF_X8_12 ⟨by decide, rfl⟩ rfl rfl rfl rfl rfl ?_
    refine zS_getfieldE (x := 1) (v := (pDays p)) (zdec eX8_clearPlan 8 rfl) kF_X8_79 ⟨by decide, rfl⟩ rfl rfl rfl R.days ?_
    refine zS_icmp_ge (tgt := 53) (zdec eX8_clearPlan 9 rfl) rfl (fun cz => absurd cz (by omega)) (fun cz => ?_)
    refine zS_iload_n (zdec eX8_clearPlan 10 rfl) rfl ?_
    refine zS_aload_n (zdec eX8_clearPlan 11 rfl) rfl rfl ?_
    refine zS_getref (i := 18) (zdec eX8_clearPlan 12 rfl) kF_X8_12 ⟨by decide, rfl⟩ rfl rfl rfl rfl rfl ?_
    refine zS_iload_n (zdec eX8_clearPlan 13 rfl) rfl ?_
    refine zS_aload_n (zdec eX8_clearPlan 14 rfl) rfl rfl ?_
    refine zS_getfieldE (x := 6) (v := (h1 14 6)) (zdec eX8_clearPlan 15 rfl) kF_X8_68 ⟨by decide, rfl⟩ rfl rfl rfl rfl ?_
    refine zvI (M' := mX0_incomeOn_) (As := [zI e, zI (h1 14 6)]) (st := [zI (cameP p (e - 1))]) (zdec eX8_clearPlan 16 rfl) kM_X8_82 kV_X0_incomeOn_ ⟨by decide, rfl⟩ rfl rfl rfl rfl rfl (by omega) (c_income V R (fun i i0 i1 => R.cm i0 i1)) ?_
    refine zS_iadd (zdec eX8_clearPlan 17 rfl) ⟨by omega, by omega⟩ ?_
    refine zS_istore_n (zdec eX8_clearPlan 18 rfl) rfl ?_
    rw [← came_s]
    refine zS_aload_n (zdec eX8_clearPlan 19 rfl) rfl rfl ?_
    refine zS_getref (i := 23) (zdec eX8_clearPlan 20 rfl) kF_X8_31 ⟨by decide, rfl⟩ rfl rfl rfl rfl rfl ?_
    refine zS_iload_n (zdec eX8_clearPlan 21 rfl) rfl ?_
    refine zS_iload_n (zdec eX8_clearPlan 22 rfl) rfl ?_
    refine zS_iastore (zdec eX8_clearPlan 23 rfl) ⟨by decide, rfl⟩ (by omega) (by omega) ?_
    refine zS_aload_n (zdec eX8_clearPlan 24 rfl) rfl rfl ?_
    refine zS_getref (i := 24) (zdec eX8_clearPlan 25 rfl) kF_X8_34 ⟨by decide, rfl⟩ rfl rfl rfl rfl rfl ?_
    refine zS_iload_n (zdec eX8_clearPlan 26 rfl) rfl ?_
    refine zS_iconst (zdec eX8_clearPlan 27 rfl) rfl ?_
    refine zS_iastore (zdec eX8_clearPlan 28 rfl) ⟨by decide, rfl⟩ (by omega) (by omega) ?_
    refine zS_iinc (zdec eX8_clearPlan 29 rfl) rfl rfl ⟨by omega, by omega⟩ ?_
    refine zS_goto (tgt := 7) (zdec eX8_clearPlan 30 rfl) rfl ?_
    have k := ih (e + 1) (zset (zset h1 30 e (cameP p e)) 31 e 0) (by omega) (by omega) (fun j j0 j1 => by
          by_cases w : j = e
          · rw [w]; exact ⟨(congrFun (zset_k (by decide)) _).trans (zset_s _ _ _ _), zset_s _ _ _ _⟩
          · rw [zset_k (by decide), zset_j w, zset_j w, zset_k (by decide)]; exact i1 j j0 (by omega)) ((i3.set (Or.inr (Or.inl rfl))).set (Or.inr (Or.inr (Or.inl rfl))))
    rw [show e + 1 - 1 = e by omega] at k
    exact k
theorem c_clearPlan {d : Nat} {h : zH} {p : Pb} (hd : 1 ≤ d) (V : PV p) (R : WC h p) : zMV d mX8_clearPlan [zA 14] h (fun h' => PlC h' p (fun _ => pDays p) ∧ h' 14 14 = 0 ∧ Fr (fun k j => k = 28 ∨ k = 30 ∨ k = 31 ∨ (k = 14 ∧ j = 14)) h h') := by
  have dy := V.days
  refine zmet rfl rfl rfl ?_
  refine zS_aload_n (zdec eX8_clearPlan 0 rfl) rfl rfl ?_
  refine zS_getfieldE (x := 2) (v := (pCash p)) (zdec eX8_clearPlan 1 rfl) kF_X8_48 ⟨by decide, rfl⟩ rfl rfl rfl R.cash ?_
  refine zS_istore_n (zdec eX8_clearPlan 2 rfl) rfl ?_
  refine zS_iconst (zdec eX8_clearPlan 3 rfl) rfl ?_
  refine zS_istore_n (zdec eX8_clearPlan 4 rfl) rfl ?_
  have k := L_clear1 hd V R (pDays p).toNat 0 h (by omega) (by omega) (fun j j0 j1 => by omega) Fr.rf
  rw [show (0 : Int) - 1 = -1 from rfl, came_m V] at k
  exact k

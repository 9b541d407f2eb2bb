theorem L_dayByLaw {d : Nat} {h : zH} {p : Pb} {q : Int → Int} {b : Int} (hd : 2 ≤ d) (V : PV p) (R : WC h p) (S : PlC h p q) (b0 : 0 ≤ b) (b1 : b < pNb p) (hm : 0 ≤ h 14 14 ∧ h 14 14 ≤ 300000) : ∀ (n : Nat) (k e x : Int) (h1 : zH), k = n → e + 1 = k → k ≤ pDays p → bestR (canP p q b) (goesP p q b) (pDays p) k (pDays p) x → h1 = zset h 14 14 (msI p q b (h 14 14) k) → zS mX8_dayByLaw (zr d) 20 [zA 14, zI b, zI (bst p x), zI (lst p q b x), zI (lowI p q k), zI e, zN, zN] [] TT h1 (zAnI (fun r h' => r = bst p (bestP p q b) ∧ h' = zset h 14 14 (msI p q b (h 14 14) 0))) := by
  intro n
  induction n with
  | zero =>
    intro k e x h1 a1 a2 a3 i1 e1
    refine zS_iload (zdec eX8_dayByLaw 12 rfl) rfl ?_
    refine zS_if_lt (tgt := 127) (zdec eX8_dayByLaw 13 rfl) rfl (fun cz => ?_) (fun cz => absurd (by omega) cz)
    refine zS_iload_n (zdec eX8_dayByLaw 64 rfl) rfl ?_
    exact zlMI (zdec eX8_dayByLaw 65 rfl) rfl ⟨by rw [bestP_eq (show isBest p q b x by rw [show k = 0 by omega] at i1; exact i1)], by rw [e1, show k = 0 by omega]⟩
  | succ n ih =>
    intro k e x h1 a1 a2 a3 i1 e1
    have dy := V.days
    have nb := V.nb
    have ek : e + 1 = k := a2
    have R : WC h1 p := by rw [e1]; exact R.set V (by unfold wcP; omega)
    have S : PlC h1 p q := by rw [e1]; exact S.set (by decide) (by decide) (by decide)
    have m1 : h1 14 14 = msI p q b (h 14 14) k := by rw [e1]; exact zset_s _ _ _ _
    have hlow : lowI p q e = min (lowI p q k) (cashP p q e) := by rw [← ek]; exact lowI_s (by omega)
    have sg : priceP p b e + (if usedP p q e then 0 else pFee p) = goesP p q b e := rfl
    have sl : pFl p + goesP p q b e - lowI p q e = lacksP p q b e := rfl
    have gb := goesB V q b0 b1 (show e ≤ 7 by omega)
    have pb := priceB V b0 b1 (show e ≤ 7 by omega)
    have fe := V.fee
    have fl := V.fl
    have lr := lowI_rng V q (show 0 ≤ e by omega) (show e < pDays p by omega)
    have lb := lacksB V q b0 b1 (show 0 ≤ e by omega) (show e < pDays p by omega)
    have mb := msB V q b0 b1 hm (show 0 ≤ k by omega) a3
    have canb := canP_iff V (q := q) b0 b1 (show 0 ≤ e by omega) (show e < pDays p by omega)
    have bestR_no : (¬ canP p q b e ∨ (x ≠ pDays p ∧ goesP p q b x < goesP p q b e)) → bestR (canP p q b) (goesP p q b) (pDays p) e (pDays p) x := fun z => by
      have y := bestR_bwd_no i1 a3 (by rw [show k - 1 = e by omega]; exact z)
      rw [show k - 1 = e by omega] at y
      exact y
    have bestR_yes : canP p q b e ∧ (x = pDays p ∨ goesP p q b e ≤ goesP p q b x) → bestR (canP p q b) (goesP p q b) (pDays p) e (pDays p) e := fun z => by
      have y := bestR_bwd_yes i1 a3 (by rw [show k - 1 = e by omega]; exact z.1) (by rw [show k - 1 = e by omega]; exact z.2) (fun d _ _ => by omega)
      rw [show k - 1 = e by omega] at y
      exact y
    have xr : x = pDays p ∨ x < pDays p := by rcases i1 with ⟨z, -⟩ | ⟨-, z, -⟩; exact Or.inl z; exact Or.inr z
    have lstc : lst p q b x < goesP p q b e → x ≠ pDays p ∧ goesP p q b x < goesP p q b e := fun z => by
      unfold lst at z
      rcases xr with y | y
      · rw [if_neg (by omega)] at z; omega
      · rw [if_pos y] at z; exact ⟨by omega, z⟩
    have lstd : pCl p e = false ∧ lacksP p q b e ≤ 0 → ¬ lst p q b x < goesP p q b e → canP p q b e ∧ (x = pDays p ∨ goesP p q b e ≤ goesP p q b x) := fun y z => by
      refine ⟨canb.mpr y, ?_⟩
      unfold lst at z
      rcases xr with w | w
      · exact Or.inl w
      · rw [if_pos w] at z; exact Or.inr (by omega)
    refine zS_iload (zdec eX8_dayByLaw 12 rfl) rfl ?_
    refine zS_if_lt (tgt := 127) (zdec eX8_dayByLaw 13 rfl) rfl (fun cz => absurd cz (by omega)) (fun cz => ?_)
    refine zS_iload (zdec eX8_dayByLaw 14 rfl) rfl ?_
    refine zS_aload_n (zdec eX8_dayByLaw 15 rfl) rfl rfl ?_
    refine zS_getref (i := 23) (zdec eX8_dayByLaw 16 rfl) kF_X8_31 ⟨by decide, rfl⟩ rfl rfl rfl rfl rfl ?_
    refine zS_iload (zdec eX8_dayByLaw 17 rfl) rfl ?_
    refine zS_ialoadE (v := (cashP p q e)) (zdec eX8_dayByLaw 18 rfl) ⟨by decide, rfl⟩ (by omega) (by omega) (S.cash (by omega) (by omega)) ?_
    refine zS_min (zdec eX8_dayByLaw 19 rfl) kM_X8_126 rfl (by omega) ?_
    refine zS_istore (zdec eX8_dayByLaw 20 rfl) rfl ?_
    rw [← hlow]
    refine zS_aload_n (zdec eX8_dayByLaw 21 rfl) rfl rfl ?_
    refine zS_iload (zdec eX8_dayByLaw 22 rfl) rfl ?_
    refine zvI (M' := mX8_isClosed) (As := [zI e]) (st := []) (zdec eX8_dayByLaw 23 rfl) kM_X8_131 kV_X8_isClosed ⟨by decide, rfl⟩ rfl rfl rfl rfl rfl (by omega) (c_isClosed V R (by omega) (by omega)) ?_
    refine zS_if_ne (tgt := 121) (zdec eX8_dayByLaw 24 rfl) rfl (fun c1 => ?_) (fun c1 => ?_)
    · refine zS_iinc (zdec eX8_dayByLaw 62 rfl) rfl rfl ⟨by omega, by omega⟩ ?_
      refine zS_goto (tgt := 20) (zdec eX8_dayByLaw 63 rfl) rfl ?_
      refine zS_forget (i := 6) ?_
      refine zS_forget (i := 7) ?_
      exact ih e (e + -1) x h1 (by omega) (by omega) (by omega) (bestR_no (Or.inl (fun z => by have := (canb.mp z).1; rw [b2i_n.mp c1] at this; cases this))) (by rw [e1, msI_s (show e < pDays p by omega), if_pos (b2i_n.mp c1), ← ek])
    · refine zS_aload_n (zdec eX8_dayByLaw 25 rfl) rfl rfl ?_
      refine zS_iload_n (zdec eX8_dayByLaw 26 rfl) rfl ?_
      refine zS_iload (zdec eX8_dayByLaw 27 rfl) rfl ?_
      refine zvI (M' := mX8_price) (As := [zI b, zI e]) (st := []) (zdec eX8_dayByLaw 28 rfl) kM_X8_134 kV_X8_price ⟨by decide, rfl⟩ rfl rfl rfl rfl rfl (by omega) (c_price (by omega) V R (by omega) (by omega) (by omega) (by omega)) ?_
      refine zS_aload_n (zdec eX8_dayByLaw 29 rfl) rfl rfl ?_
      refine zS_iload (zdec eX8_dayByLaw 30 rfl) rfl ?_
      refine zvI (M' := mX8_feeFor) (As := [zI e]) (st := [zI (priceP p b e)]) (zdec eX8_dayByLaw 31 rfl) kM_X8_137 kV_X8_feeFor ⟨by decide, rfl⟩ rfl rfl rfl rfl rfl (by omega) (c_feeFor V R (S.file (by omega) (by omega)) (by omega) (by omega)) ?_
      refine zS_iadd (zdec eX8_dayByLaw 32 rfl) ⟨by omega, by omega⟩ ?_
      refine zS_istore (zdec eX8_dayByLaw 33 rfl) rfl ?_
      rw [sg]
      refine zS_aload_n (zdec eX8_dayByLaw 34 rfl) rfl rfl ?_
      refine zS_getfieldE (x := 3) (v := (pFl p)) (zdec eX8_dayByLaw 35 rfl) kF_X8_52 ⟨by decide, rfl⟩ rfl rfl rfl R.fl ?_
      refine zS_iload (zdec eX8_dayByLaw 36 rfl) rfl ?_
      refine zS_iadd (zdec eX8_dayByLaw 37 rfl) ⟨by omega, by omega⟩ ?_
      refine zS_iload (zdec eX8_dayByLaw 38 rfl) rfl ?_
      refine zS_isub (zdec eX8_dayByLaw 39 rfl) ⟨by omega, by omega⟩ ?_
      refine zS_istore (zdec eX8_dayByLaw 40 rfl) rfl ?_
      rw [sl]
      refine zS_iload (zdec eX8_dayByLaw 41 rfl) rfl ?_
      refine zS_if_le (tgt := 109) (zdec eX8_dayByLaw 42 rfl) rfl (fun c2 => ?_) (fun c2 => ?_)
      · refine zS_iload (zdec eX8_dayByLaw 55 rfl) rfl ?_
        refine zS_iload_n (zdec eX8_dayByLaw 56 rfl) rfl ?_
        refine zS_icmp_gt (tgt := 121) (zdec eX8_dayByLaw 57 rfl) rfl (fun c3 => ?_) (fun c3 => ?_)
        · refine zS_iinc (zdec eX8_dayByLaw 62 rfl) rfl rfl ⟨by omega, by omega⟩ ?_
          refine zS_goto (tgt := 20) (zdec eX8_dayByLaw 63 rfl) rfl ?_
          refine zS_forget (i := 6) ?_
          refine zS_forget (i := 7) ?_
          exact ih e (e + -1) x h1 (by omega) (by omega) (by omega) (bestR_no (Or.inr (lstc c3))) (by rw [e1, msI_s (show e < pDays p by omega), if_neg (by rw [b2i_0.mp c1]; decide), ← ek]; congr 1; unfold mst; rw [if_neg (by omega)])
        · refine zS_iload (zdec eX8_dayByLaw 58 rfl) rfl ?_
          refine zS_istore_n (zdec eX8_dayByLaw 59 rfl) rfl ?_
          refine zS_iload (zdec eX8_dayByLaw 60 rfl) rfl ?_
          refine zS_istore_n (zdec eX8_dayByLaw 61 rfl) rfl ?_
          refine zS_iinc (zdec eX8_dayByLaw 62 rfl) rfl rfl ⟨by omega, by omega⟩ ?_
          refine zS_goto (tgt := 20) (zdec eX8_dayByLaw 63 rfl) rfl ?_
          refine zS_forget (i := 6) ?_
          refine zS_forget (i := 7) ?_
          have b1e : bst p e = e := if_pos (by omega)
          have l1e : lst p q b e = goesP p q b e := if_pos (by omega)
          rw [← l1e]
          have k9 := ih e (e + -1) e h1 (by omega) (by omega) (by omega) (bestR_yes (lstd ⟨b2i_0.mp c1, c2⟩ c3)) (by rw [e1, msI_s (show e < pDays p by omega), if_neg (by rw [b2i_0.mp c1]; decide), ← ek]; congr 1; unfold mst; rw [if_neg (by omega)])
          rw [b1e] at k9
          exact k9
      · refine zS_aload_n (zdec eX8_dayByLaw 43 rfl) rfl rfl ?_
        refine zS_aload_n (zdec eX8_dayByLaw 44 rfl) rfl rfl ?_
        refine zS_getfieldE (x := 14) (v := (msI p q b (h 14 14) k)) (zdec eX8_dayByLaw 45 rfl) kF_X8_86 ⟨by decide, rfl⟩ rfl rfl rfl m1 ?_
        refine zS_if_ne (tgt := 94) (zdec eX8_dayByLaw 46 rfl) rfl (fun c3 => ?_) (fun c3 => ?_)
        · refine zS_aload_n (zdec eX8_dayByLaw 49 rfl) rfl rfl ?_
          refine zS_getfieldE (x := 14) (v := (msI p q b (h 14 14) k)) (zdec eX8_dayByLaw 50 rfl) kF_X8_86 ⟨by decide, rfl⟩ rfl rfl rfl m1 ?_
          refine zS_iload (zdec eX8_dayByLaw 51 rfl) rfl ?_
          refine zS_min (zdec eX8_dayByLaw 52 rfl) kM_X8_126 rfl (by omega) ?_
          refine zS_putfield (x := 14) (zdec eX8_dayByLaw 53 rfl) kF_X8_86 (Or.inl kf8_14) ⟨by decide, rfl⟩ rfl rfl rfl (Or.inl (fun q => by cases q)) ?_
          refine zS_goto (tgt := 121) (zdec eX8_dayByLaw 54 rfl) rfl ?_
          refine zS_iinc (zdec eX8_dayByLaw 62 rfl) rfl rfl ⟨by omega, by omega⟩ ?_
          refine zS_goto (tgt := 20) (zdec eX8_dayByLaw 63 rfl) rfl ?_
          refine zS_forget (i := 6) ?_
          refine zS_forget (i := 7) ?_
          exact ih e (e + -1) x _ (by omega) (by omega) (by omega) (bestR_no (Or.inl (fun z => by have := (canb.mp z).2; omega))) (by rw [e1, zset_zset, msI_s (show e < pDays p by omega), if_neg (by rw [b2i_0.mp c1]; decide), ek]; congr 1; unfold mst; rw [if_pos (by omega)]; first | rw [if_pos c3] | rw [if_neg c3])
        · refine zS_iload (zdec eX8_dayByLaw 47 rfl) rfl ?_
          refine zS_goto (tgt := 103) (zdec eX8_dayByLaw 48 rfl) rfl ?_
          refine zS_putfield (x := 14) (zdec eX8_dayByLaw 53 rfl) kF_X8_86 (Or.inl kf8_14) ⟨by decide, rfl⟩ rfl rfl rfl (Or.inl (fun q => by cases q)) ?_
          refine zS_goto (tgt := 121) (zdec eX8_dayByLaw 54 rfl) rfl ?_
          refine zS_iinc (zdec eX8_dayByLaw 62 rfl) rfl rfl ⟨by omega, by omega⟩ ?_
          refine zS_goto (tgt := 20) (zdec eX8_dayByLaw 63 rfl) rfl ?_
          refine zS_forget (i := 6) ?_
          refine zS_forget (i := 7) ?_
          exact ih e (e + -1) x _ (by omega) (by omega) (by omega) (bestR_no (Or.inl (fun z => by have := (canb.mp z).2; omega))) (by rw [e1, zset_zset, msI_s (show e < pDays p by omega), if_neg (by rw [b2i_0.mp c1]; decide), ek]; congr 1; unfold mst; rw [if_pos (by omega)]; first | rw [if_pos c3] | rw [if_neg c3])
theorem c_dayByLaw {d : Nat} {h : zH} {p : Pb} {q : Int → Int} {b : Int} (hd : 2 ≤ d) (V : PV p) (R : WC h p) (S : PlC h p q) (b0 : 0 ≤ b) (b1 : b < pNb p) (hm : 0 ≤ h 14 14 ∧ h 14 14 ≤ 300000) : zMI d mX8_dayByLaw [zA 14, zI b] h (fun r h' => r = bst p (bestP p q b) ∧ h' = zset h 14 14 (msI p q b (h 14 14) 0)) := by
  have dy := V.days
  refine zmet rfl rfl rfl ?_
  refine zS_iconst (zdec eX8_dayByLaw 0 rfl) rfl ?_
  refine zS_istore_n (zdec eX8_dayByLaw 1 rfl) rfl ?_
  refine zS_ldc (zdec eX8_dayByLaw 2 rfl) kc_X8_125 rfl ?_
  refine zS_istore_n (zdec eX8_dayByLaw 3 rfl) rfl ?_
  refine zS_ldc (zdec eX8_dayByLaw 4 rfl) kc_X8_125 rfl ?_
  refine zS_istore (zdec eX8_dayByLaw 5 rfl) rfl ?_
  refine zS_aload_n (zdec eX8_dayByLaw 6 rfl) rfl rfl ?_
  refine zS_getref (i := 18) (zdec eX8_dayByLaw 7 rfl) kF_X8_12 ⟨by decide, rfl⟩ rfl rfl rfl rfl rfl ?_
  refine zS_getfieldE (x := 1) (v := (pDays p)) (zdec eX8_dayByLaw 8 rfl) kF_X8_79 ⟨by decide, rfl⟩ rfl rfl rfl R.days ?_
  refine zS_iconst (zdec eX8_dayByLaw 9 rfl) rfl ?_
  refine zS_isub (zdec eX8_dayByLaw 10 rfl) ⟨by omega, by omega⟩ ?_
  refine zS_istore (zdec eX8_dayByLaw 11 rfl) rfl ?_
  have k9 := L_dayByLaw hd V R S b0 b1 hm (pDays p).toNat (pDays p) (pDays p - 1) (pDays p) h (by omega) (by omega) (by omega) (bestR_nil (by omega)) (by rw [msI_0, zset_id])
  rw [lowI_0] at k9
  unfold bst lst at k9
  rw [if_neg (by omega), if_neg (by omega)] at k9
  exact k9

theorem c_isAhead {d : Nat} {h : zH} {p : Pb} {b x : Int} (hd : 1 ≤ d) (V : PV p) (R : WC h p) (h0 : 0 ≤ b) (h1 : b < pNb p) (x0 : 0 ≤ x) (x1 : x < pNb p) : zPI d mX8_isAhead [zA 14, zI b, zI x] h (b2i (ahP p b x)) := by
  have nb := V.nb
  have g1 := gainB V h0 h1
  have g2 := gainB V x0 x1
  have s1 := spanB V h0 h1
  have s2 := spanB V x0 x1
  have n1 := V.net h0 h1
  have n2 := V.net x0 x1
  have m1 := mulB g1.1 (show gainP p b ≤ 750 by omega) (show 0 ≤ spanP p x by omega) s2.2
  have m2 := mulB g2.1 (show gainP p x ≤ 750 by omega) (show 0 ≤ spanP p b by omega) s1.2
  refine zmet rfl rfl rfl ?_
  refine zS_aload_n (zdec eX8_isAhead 0 rfl) rfl rfl ?_
  refine zS_getfieldE (x := 1) (v := (pLaw p)) (zdec eX8_isAhead 1 rfl) kF_X8_44 ⟨by decide, rfl⟩ rfl rfl rfl R.law ?_
  have lw := V.law
  rcases (show pLaw p = 0 ∨ pLaw p = 1 ∨ pLaw p = 2 ∨ pLaw p = 3 by omega) with e0 | e0 | e0 | e0
  · refine zS_tableIn (off := 28) (tgt := 32) (zdec eX8_isAhead 2 rfl) (by rw [e0]; decide) (by rw [e0]; decide) (by rw [e0]; rfl) rfl ?_
    refine zS_aload_n (zdec eX8_isAhead 3 rfl) rfl rfl ?_
    refine zS_iload_n (zdec eX8_isAhead 4 rfl) rfl ?_
    refine zvI (M' := mX8_rankOf) (As := [zI b]) (st := []) (zdec eX8_isAhead 5 rfl) kM_X8_113 kV_X8_rankOf ⟨by decide, rfl⟩ rfl rfl rfl rfl rfl (by omega) (c_rankOf V R (by omega) (by omega)) ?_
    refine zS_aload_n (zdec eX8_isAhead 6 rfl) rfl rfl ?_
    refine zS_iload_n (zdec eX8_isAhead 7 rfl) rfl ?_
    refine zvI (M' := mX8_rankOf) (As := [zI x]) (st := [zI (pRk p b)]) (zdec eX8_isAhead 8 rfl) kM_X8_113 kV_X8_rankOf ⟨by decide, rfl⟩ rfl rfl rfl rfl rfl (by omega) (c_rankOf V R (by omega) (by omega)) ?_
    refine zS_icmp_le (tgt := 49) (zdec eX8_isAhead 9 rfl) rfl (fun c1 => ?_) (fun c1 => ?_)
    · refine zS_iconst (zdec eX8_isAhead 12 rfl) rfl ?_
      exact zlZ (zdec eX8_isAhead 13 rfl) rfl (Or.inl rfl) (by unfold ahP; simp only [e0]; simp [b2i]; omega)
    · refine zS_iconst (zdec eX8_isAhead 10 rfl) rfl ?_
      refine zS_goto (tgt := 50) (zdec eX8_isAhead 11 rfl) rfl ?_
      exact zlZ (zdec eX8_isAhead 13 rfl) rfl (Or.inr rfl) (by unfold ahP; simp only [e0]; simp [b2i]; omega)
  · refine zS_tableIn (off := 47) (tgt := 51) (zdec eX8_isAhead 2 rfl) (by rw [e0]; decide) (by rw [e0]; decide) (by rw [e0]; rfl) rfl ?_
    refine zS_aload_n (zdec eX8_isAhead 14 rfl) rfl rfl ?_
    refine zS_iload_n (zdec eX8_isAhead 15 rfl) rfl ?_
    refine zvI (M' := mX8_gain) (As := [zI b]) (st := []) (zdec eX8_isAhead 16 rfl) kM_X8_116 kV_X8_gain ⟨by decide, rfl⟩ rfl rfl rfl rfl rfl (by omega) (c_gain V R (by omega) (by omega)) ?_
    refine zS_aload_n (zdec eX8_isAhead 17 rfl) rfl rfl ?_
    refine zS_iload_n (zdec eX8_isAhead 18 rfl) rfl ?_
    refine zvI (M' := mX8_span) (As := [zI x]) (st := [zI (gainP p b)]) (zdec eX8_isAhead 19 rfl) kM_X8_119 kV_X8_span ⟨by decide, rfl⟩ rfl rfl rfl rfl rfl (by omega) (c_span V R (by omega) (by omega)) ?_
    refine zS_imul (zdec eX8_isAhead 20 rfl) ⟨by omega, by omega⟩ ?_
    refine zS_aload_n (zdec eX8_isAhead 21 rfl) rfl rfl ?_
    refine zS_iload_n (zdec eX8_isAhead 22 rfl) rfl ?_
    refine zvI (M' := mX8_gain) (As := [zI x]) (st := [zI ((gainP p b) * (spanP p x))]) (zdec eX8_isAhead 23 rfl) kM_X8_116 kV_X8_gain ⟨by decide, rfl⟩ rfl rfl rfl rfl rfl (by omega) (c_gain V R (by omega) (by omega)) ?_
    refine zS_aload_n (zdec eX8_isAhead 24 rfl) rfl rfl ?_
    refine zS_iload_n (zdec eX8_isAhead 25 rfl) rfl ?_
    refine zvI (M' := mX8_span) (As := [zI b]) (st := [zI (gainP p x), zI ((gainP p b) * (spanP p x))]) (zdec eX8_isAhead 26 rfl) kM_X8_119 kV_X8_span ⟨by decide, rfl⟩ rfl rfl rfl rfl rfl (by omega) (c_span V R (by omega) (by omega)) ?_
    refine zS_imul (zdec eX8_isAhead 27 rfl) ⟨by omega, by omega⟩ ?_
    refine zS_icmp_le (tgt := 80) (zdec eX8_isAhead 28 rfl) rfl (fun c1 => ?_) (fun c1 => ?_)
    · refine zS_iconst (zdec eX8_isAhead 31 rfl) rfl ?_
      exact zlZ (zdec eX8_isAhead 32 rfl) rfl (Or.inl rfl) (by unfold ahP; simp only [e0]; simp [b2i]; omega)
    · refine zS_iconst (zdec eX8_isAhead 29 rfl) rfl ?_
      refine zS_goto (tgt := 81) (zdec eX8_isAhead 30 rfl) rfl ?_
      exact zlZ (zdec eX8_isAhead 32 rfl) rfl (Or.inr rfl) (by unfold ahP; simp only [e0]; simp [b2i]; omega)
  · refine zS_tableIn (off := 78) (tgt := 82) (zdec eX8_isAhead 2 rfl) (by rw [e0]; decide) (by rw [e0]; decide) (by rw [e0]; rfl) rfl ?_
    refine zS_aload_n (zdec eX8_isAhead 33 rfl) rfl rfl ?_
    refine zS_getref (i := 18) (zdec eX8_isAhead 34 rfl) kF_X8_12 ⟨by decide, rfl⟩ rfl rfl rfl rfl rfl ?_
    refine zS_getref (i := 26) (zdec eX8_isAhead 35 rfl) kF_X8_75 ⟨by decide, rfl⟩ rfl rfl rfl rfl rfl ?_
    refine zS_iload_n (zdec eX8_isAhead 36 rfl) rfl ?_
    refine zS_aaload1 (i := 1) (zdec eX8_isAhead 37 rfl) (Or.inr (Or.inl rfl)) ⟨by decide, rfl⟩ rfl rfl rfl (by omega) (by omega) ?_
    refine zS_iconst (zdec eX8_isAhead 38 rfl) rfl ?_
    refine zS_ialoadE (v := (pDue p b)) (zdec eX8_isAhead 39 rfl) (zrow_18 (by omega) (by omega)) (by decide) (by decide) (R.due (by omega) (by omega)) ?_
    refine zS_aload_n (zdec eX8_isAhead 40 rfl) rfl rfl ?_
    refine zS_getref (i := 18) (zdec eX8_isAhead 41 rfl) kF_X8_12 ⟨by decide, rfl⟩ rfl rfl rfl rfl rfl ?_
    refine zS_getref (i := 26) (zdec eX8_isAhead 42 rfl) kF_X8_75 ⟨by decide, rfl⟩ rfl rfl rfl rfl rfl ?_
    refine zS_iload_n (zdec eX8_isAhead 43 rfl) rfl ?_
    refine zS_aaload1 (i := 1) (zdec eX8_isAhead 44 rfl) (Or.inr (Or.inl rfl)) ⟨by decide, rfl⟩ rfl rfl rfl (by omega) (by omega) ?_
    refine zS_iconst (zdec eX8_isAhead 45 rfl) rfl ?_
    refine zS_ialoadE (v := (pDue p x)) (zdec eX8_isAhead 46 rfl) (zrow_18 (by omega) (by omega)) (by decide) (by decide) (R.due (by omega) (by omega)) ?_
    refine zS_icmp_ge (tgt := 111) (zdec eX8_isAhead 47 rfl) rfl (fun c1 => ?_) (fun c1 => ?_)
    · refine zS_iconst (zdec eX8_isAhead 50 rfl) rfl ?_
      exact zlZ (zdec eX8_isAhead 51 rfl) rfl (Or.inl rfl) (by unfold ahP; simp only [e0]; simp [b2i]; omega)
    · refine zS_iconst (zdec eX8_isAhead 48 rfl) rfl ?_
      refine zS_goto (tgt := 112) (zdec eX8_isAhead 49 rfl) rfl ?_
      exact zlZ (zdec eX8_isAhead 51 rfl) rfl (Or.inr rfl) (by unfold ahP; simp only [e0]; simp [b2i]; omega)
  · refine zS_tableOut (tgt := 113) (zdec eX8_isAhead 2 rfl) (Or.inr (by rw [e0]; decide)) rfl ?_
    refine zS_aload_n (zdec eX8_isAhead 52 rfl) rfl rfl ?_
    refine zS_getref (i := 19) (zdec eX8_isAhead 53 rfl) kF_X8_18 ⟨by decide, rfl⟩ rfl rfl rfl rfl rfl ?_
    refine zS_iload_n (zdec eX8_isAhead 54 rfl) rfl ?_
    refine zS_ialoadE (v := (pNet p b)) (zdec eX8_isAhead 55 rfl) ⟨by decide, rfl⟩ (by omega) (by omega) (R.net (by omega) (by omega)) ?_
    refine zS_aload_n (zdec eX8_isAhead 56 rfl) rfl rfl ?_
    refine zS_getref (i := 19) (zdec eX8_isAhead 57 rfl) kF_X8_18 ⟨by decide, rfl⟩ rfl rfl rfl rfl rfl ?_
    refine zS_iload_n (zdec eX8_isAhead 58 rfl) rfl ?_
    refine zS_ialoadE (v := (pNet p x)) (zdec eX8_isAhead 59 rfl) ⟨by decide, rfl⟩ (by omega) (by omega) (R.net (by omega) (by omega)) ?_
    refine zS_icmp_ge (tgt := 132) (zdec eX8_isAhead 60 rfl) rfl (fun c1 => ?_) (fun c1 => ?_)
    · refine zS_iconst (zdec eX8_isAhead 63 rfl) rfl ?_
      exact zlZ (zdec eX8_isAhead 64 rfl) rfl (Or.inl rfl) (by unfold ahP; simp only [e0]; simp [b2i]; omega)
    · refine zS_iconst (zdec eX8_isAhead 61 rfl) rfl ?_
      refine zS_goto (tgt := 133) (zdec eX8_isAhead 62 rfl) rfl ?_
      exact zlZ (zdec eX8_isAhead 64 rfl) rfl (Or.inr rfl) (by unfold ahP; simp only [e0]; simp [b2i]; omega)
theorem L_spend {d : Nat} {h : zH} {p : Pb} {x s : Int} (V : PV p) (B : ∀ j, 0 ≤ j → j < pDays p → -1000000 ≤ h 30 j ∧ h 30 j ≤ 1000000) (s0 : -10000 ≤ s ∧ s ≤ 10000) (x0 : 0 ≤ x) : ∀ (n : Nat) (e : Int) (h1 : zH), x ≤ e → e + n = pDays p → (∀ j, h1 30 j = h 30 j - (if x ≤ j ∧ j < e then s else 0)) → Fr (fun k _ => k = 30) h h1 → WC h1 p → zS mX8_spend (zr d) 2 [zA 14, zI x, zI s, zI e] [] TT h1 (zAnV (fun h' => (∀ j, h' 30 j = h 30 j - (if x ≤ j ∧ j < pDays p then s else 0)) ∧ Fr (fun k _ => k = 30) h h')) := by
  intro n
  induction n with
  | zero =>
    intro e h1 a1 a2 i1 i2 R
    refine zS_iload_n (zdec eX8_spend 2 rfl) rfl ?_
    refine zS_aload_n (zdec eX8_spend 3 rfl) rfl rfl ?_
    refine zS_getref (i := 18) (zdec eX8_spend 4 rfl) kF_X8_12 ⟨by decide, rfl⟩ rfl rfl rfl rfl rfl ?_
    refine zS_getfieldE (x := 1) (v := (pDays p)) (zdec eX8_spend 5 rfl) kF_X8_79 ⟨by decide, rfl⟩ rfl rfl rfl R.days ?_
    refine zS_icmp_ge (tgt := 29) (zdec eX8_spend 6 rfl) rfl (fun cz => ?_) (fun cz => absurd (by omega) cz)
    exact zlMV (zdec eX8_spend 17 rfl) rfl ⟨fun j => by rw [i1 j, show e = pDays p by omega], i2⟩
  | succ n ih =>
    intro e h1 a1 a2 i1 i2 R
    have nb := V.days
    have b1 := B e (by omega) (by omega)
    have b2 := i1 e
    rw [if_neg (by omega)] at b2
    refine zS_iload_n (zdec eX8_spend 2 rfl) rfl ?_
    refine zS_aload_n (zdec eX8_spend 3 rfl) rfl rfl ?_
    refine zS_getref (i := 18) (zdec eX8_spend 4 rfl) kF_X8_12 ⟨by decide, rfl⟩ rfl rfl rfl rfl rfl ?_
    refine zS_getfieldE (x := 1) (v := (pDays p)) (zdec eX8_spend 5 rfl) kF_X8_79 ⟨by decide, rfl⟩ rfl rfl rfl R.days ?_
    refine zS_icmp_ge (tgt := 29) (zdec eX8_spend 6 rfl) rfl (fun cz => absurd cz (by omega)) (fun cz => ?_)
    refine zS_aload_n (zdec eX8_spend 7 rfl) rfl rfl ?_
    refine zS_getref (i := 23) (zdec eX8_spend 8 rfl) kF_X8_31 ⟨by decide, rfl⟩ rfl rfl rfl rfl rfl ?_
    refine zS_iload_n (zdec eX8_spend 9 rfl) rfl ?_
    refine zS_dup2 (zdec eX8_spend 10 rfl) (fun q => by cases q) (fun q => by cases q) ?_
    refine zS_ialoadE (v := (h1 30 e)) (zdec eX8_spend 11 rfl) ⟨by decide, rfl⟩ (by omega) (by omega) rfl ?_
    refine zS_iload_n (zdec eX8_spend 12 rfl) rfl ?_
    refine zS_isub (zdec eX8_spend 13 rfl) ⟨by omega, by omega⟩ ?_
    refine zS_iastore (zdec eX8_spend 14 rfl) ⟨by decide, rfl⟩ (by omega) (by omega) ?_
    refine zS_iinc (zdec eX8_spend 15 rfl) rfl rfl ⟨by omega, by omega⟩ ?_
    refine zS_goto (tgt := 2) (zdec eX8_spend 16 rfl) rfl ?_
    have i3 : ∀ j, (zset h1 30 e ((h1 30 e) - s)) 30 j = h 30 j - (if x ≤ j ∧ j < e + 1 then s else 0) := fun j => by
      by_cases q : j = e
      · subst q; rw [zset_s, if_pos (by omega)]; omega
      · rw [zset_j q, i1 j]
        by_cases w : x ≤ j ∧ j < e
        · rw [if_pos w, if_pos (by omega)]
        · rw [if_neg w, if_neg (by omega)]
    exact ih (e + 1) _ (by omega) (by omega) i3 (i2.set rfl) (R.set V (by unfold wcP; omega))
theorem c_spend {d : Nat} {h : zH} {p : Pb} {x s : Int} (V : PV p) (R : WC h p) (B : ∀ j, 0 ≤ j → j < pDays p → -1000000 ≤ h 30 j ∧ h 30 j ≤ 1000000) (s0 : -10000 ≤ s ∧ s ≤ 10000) (x0 : 0 ≤ x) (x1 : x ≤ pDays p) : zMV d mX8_spend [zA 14, zI x, zI s] h (fun h' => (∀ j, h' 30 j = h 30 j - (if x ≤ j ∧ j < pDays p then s else 0)) ∧ Fr (fun k _ => k = 30) h h') := by
  refine zmet rfl rfl rfl ?_
  refine zS_iload_n (zdec eX8_spend 0 rfl) rfl ?_
  refine zS_istore_n (zdec eX8_spend 1 rfl) rfl ?_
  exact L_spend V B s0 x0 (pDays p - x).toNat x h (by omega) (by omega) (fun j => by rw [if_neg (by omega)]; omega) Fr.rf R

theorem L_netOf {d : Nat} {h : zH} {D : Dk} {b : Int} (V : DV D) (R : DC h 15 D) (b0 : 0 ≤ b) (b1 : b < D 0 8) : ∀ (n : Nat) (e : Int), 0 ≤ e → e + n = D 0 10 → anyI (fun i => D 10 i == b) e = false → zS mX0_netOf (zr d) 2 [zA 15, zI b, zI e] [] TT h (zOne (netD D b) h) := by
  intro n
  induction n with
  | zero =>
    intro e a1 a2 i1
    have nb := V.nb
    have na := V.na
    have rw9 := V.row b0 b1
    refine zS_iload_n (zdec eX0_netOf 2 rfl) rfl ?_
    refine zS_aload_n (zdec eX0_netOf 3 rfl) rfl rfl ?_
    refine zS_getfieldE (x := 10) (v := (D 0 10)) (zdec eX0_netOf 4 rfl) kF_X0_60 ⟨by decide, rfl⟩ rfl rfl rfl (R.s (by decide) (by decide)) ?_
    refine zS_icmp_ge (tgt := 35) (zdec eX0_netOf 5 rfl) rfl (fun cz => ?_) (fun cz => absurd (by omega) cz)
    refine zS_aload_n (zdec eX0_netOf 21 rfl) rfl rfl ?_
    refine zS_getref (i := 26) (zdec eX0_netOf 22 rfl) kF_X0_17 ⟨by decide, rfl⟩ rfl rfl rfl rfl rfl ?_
    refine zS_iload_n (zdec eX0_netOf 23 rfl) rfl ?_
    refine zS_aaload1 (i := 1) (zdec eX0_netOf 24 rfl) (Or.inr (Or.inl rfl)) ⟨by decide, rfl⟩ rfl rfl rfl (by omega) (by omega) ?_
    refine zS_iconst (zdec eX0_netOf 25 rfl) rfl ?_
    refine zS_ialoadE (v := (D (3 + b) 1)) (zdec eX0_netOf 26 rfl) (zrow_18 (by omega) (by omega)) (by decide) (by decide) (R.row (by omega) (by omega) (by omega) (by decide) (by decide)) ?_
    refine zS_aload_n (zdec eX0_netOf 27 rfl) rfl rfl ?_
    refine zS_getref (i := 26) (zdec eX0_netOf 28 rfl) kF_X0_17 ⟨by decide, rfl⟩ rfl rfl rfl rfl rfl ?_
    refine zS_iload_n (zdec eX0_netOf 29 rfl) rfl ?_
    refine zS_aaload1 (i := 1) (zdec eX0_netOf 30 rfl) (Or.inr (Or.inl rfl)) ⟨by decide, rfl⟩ rfl rfl rfl (by omega) (by omega) ?_
    refine zS_bipush (zdec eX0_netOf 31 rfl) rfl rfl ?_
    refine zS_ialoadE (v := (D (3 + b) 6)) (zdec eX0_netOf 32 rfl) (zrow_18 (by omega) (by omega)) (by decide) (by decide) (R.row (by omega) (by omega) (by omega) (by decide) (by decide)) ?_
    refine zS_isub (zdec eX0_netOf 33 rfl) ⟨by omega, by omega⟩ ?_
    exact zlI (zdec eX0_netOf 34 rfl) rfl (by unfold netD; rw [if_neg (by unfold relD; rw [show D 0 10 = e by omega, i1]; decide)])
  | succ n ih =>
    intro e a1 a2 i1
    have nb := V.nb
    have na := V.na
    have rw9 := V.row b0 b1
    refine zS_iload_n (zdec eX0_netOf 2 rfl) rfl ?_
    refine zS_aload_n (zdec eX0_netOf 3 rfl) rfl rfl ?_
    refine zS_getfieldE (x := 10) (v := (D 0 10)) (zdec eX0_netOf 4 rfl) kF_X0_60 ⟨by decide, rfl⟩ rfl rfl rfl (R.s (by decide) (by decide)) ?_
    refine zS_icmp_ge (tgt := 35) (zdec eX0_netOf 5 rfl) rfl (fun cz => absurd cz (by omega)) (fun cz => ?_)
    refine zS_aload_n (zdec eX0_netOf 6 rfl) rfl rfl ?_
    refine zS_getref (i := 29) (zdec eX0_netOf 7 rfl) kF_X0_26 ⟨by decide, rfl⟩ rfl rfl rfl rfl rfl ?_
    refine zS_iload_n (zdec eX0_netOf 8 rfl) rfl ?_
    refine zS_ialoadE (v := (D 10 e)) (zdec eX0_netOf 9 rfl) ⟨by decide, rfl⟩ (by omega) (by omega) (R.act (by omega) (by omega) (by omega)) ?_
    refine zS_iload_n (zdec eX0_netOf 10 rfl) rfl ?_
    refine zS_icmp_ne (tgt := 29) (zdec eX0_netOf 11 rfl) rfl (fun c1 => ?_) (fun c1 => ?_)
    · refine zS_iinc (zdec eX0_netOf 19 rfl) rfl rfl ⟨by omega, by omega⟩ ?_
      refine zS_goto (tgt := 2) (zdec eX0_netOf 20 rfl) rfl ?_
      exact ih (e + 1) (by omega) (by omega) (by rw [anyI_s _ (by omega), i1]; simpa using c1)
    · refine zS_aload_n (zdec eX0_netOf 12 rfl) rfl rfl ?_
      refine zS_getref (i := 26) (zdec eX0_netOf 13 rfl) kF_X0_17 ⟨by decide, rfl⟩ rfl rfl rfl rfl rfl ?_
      refine zS_iload_n (zdec eX0_netOf 14 rfl) rfl ?_
      refine zS_aaload1 (i := 1) (zdec eX0_netOf 15 rfl) (Or.inr (Or.inl rfl)) ⟨by decide, rfl⟩ rfl rfl rfl (by omega) (by omega) ?_
      refine zS_iconst (zdec eX0_netOf 16 rfl) rfl ?_
      refine zS_ialoadE (v := (D (3 + b) 1)) (zdec eX0_netOf 17 rfl) (zrow_18 (by omega) (by omega)) (by decide) (by decide) (R.row (by omega) (by omega) (by omega) (by decide) (by decide)) ?_
      exact zlI (zdec eX0_netOf 18 rfl) rfl (by unfold netD; rw [if_pos (show relD D b = true from anyI_iff.mpr ⟨e, a1, by omega, by simpa using c1⟩)])
theorem c_netOf {d : Nat} {h : zH} {D : Dk} {b : Int} (V : DV D) (R : DC h 15 D) (b0 : 0 ≤ b) (b1 : b < D 0 8) : zPI d mX0_netOf [zA 15, zI b] h (netD D b) := by
  have na := V.na
  refine zmet rfl rfl rfl ?_
  refine zS_iconst (zdec eX0_netOf 0 rfl) rfl ?_
  refine zS_istore_n (zdec eX0_netOf 1 rfl) rfl ?_
  exact L_netOf V R b0 b1 (D 0 10).toNat 0 (by omega) (by omega) (anyI_0 _ (by omega))
theorem L_closed {d : Nat} {h : zH} {D : Dk} (V : DV D) (R : DC h 15 D) : ∀ (n : Nat) (e : Int), 0 ≤ e → e + n = D 0 10 → zS mX0_closedDays (zr d) 4 [zA 15, zI (clI D e), zI e] [] TT h (zOne (clI D (D 0 10)) h) := by
  intro n
  induction n with
  | zero =>
    intro e a1 a2
    have na := V.na
    refine zS_iload_n (zdec eX0_closedDays 4 rfl) rfl ?_
    refine zS_aload_n (zdec eX0_closedDays 5 rfl) rfl rfl ?_
    refine zS_getfieldE (x := 10) (v := (D 0 10)) (zdec eX0_closedDays 6 rfl) kF_X0_60 ⟨by decide, rfl⟩ rfl rfl rfl (R.s (by decide) (by decide)) ?_
    refine zS_icmp_ge (tgt := 41) (zdec eX0_closedDays 7 rfl) rfl (fun cz => ?_) (fun cz => absurd (by omega) cz)
    refine zS_iload_n (zdec eX0_closedDays 27 rfl) rfl ?_
    exact zlI (zdec eX0_closedDays 28 rfl) rfl (by rw [show e = D 0 10 by omega])
  | succ n ih =>
    intro e a1 a2
    have na := V.na
    have dy := V.days
    have ac := V.act (show 0 ≤ e by omega) (show e < D 0 10 by omega)
    refine zS_iload_n (zdec eX0_closedDays 4 rfl) rfl ?_
    refine zS_aload_n (zdec eX0_closedDays 5 rfl) rfl rfl ?_
    refine zS_getfieldE (x := 10) (v := (D 0 10)) (zdec eX0_closedDays 6 rfl) kF_X0_60 ⟨by decide, rfl⟩ rfl rfl rfl (R.s (by decide) (by decide)) ?_
    refine zS_icmp_ge (tgt := 41) (zdec eX0_closedDays 7 rfl) rfl (fun cz => absurd cz (by omega)) (fun cz => ?_)
    refine zS_aload_n (zdec eX0_closedDays 8 rfl) rfl rfl ?_
    refine zS_getref (i := 29) (zdec eX0_closedDays 9 rfl) kF_X0_26 ⟨by decide, rfl⟩ rfl rfl rfl rfl rfl ?_
    refine zS_iload_n (zdec eX0_closedDays 10 rfl) rfl ?_
    refine zS_ialoadE (v := (D 10 e)) (zdec eX0_closedDays 11 rfl) ⟨by decide, rfl⟩ (by omega) (by omega) (R.act (by omega) (by omega) (by omega)) ?_
    refine zS_iconst (zdec eX0_closedDays 12 rfl) rfl ?_
    refine zS_icmp_lt (tgt := 35) (zdec eX0_closedDays 13 rfl) rfl (fun c1 => ?_) (fun c1 => ?_)
    · refine zS_iinc (zdec eX0_closedDays 25 rfl) rfl rfl ⟨by omega, by omega⟩ ?_
      refine zS_goto (tgt := 4) (zdec eX0_closedDays 26 rfl) rfl ?_
      have k := ih (e + 1) (by omega) (by omega)
      rw [clI_s _ (by omega), if_pos c1] at k
      exact k
    · refine zS_iload_n (zdec eX0_closedDays 14 rfl) rfl ?_
      refine zS_iconst (zdec eX0_closedDays 15 rfl) rfl ?_
      refine zS_aload_n (zdec eX0_closedDays 16 rfl) rfl rfl ?_
      refine zS_getref (i := 29) (zdec eX0_closedDays 17 rfl) kF_X0_26 ⟨by decide, rfl⟩ rfl rfl rfl rfl rfl ?_
      refine zS_iload_n (zdec eX0_closedDays 18 rfl) rfl ?_
      refine zS_ialoadE (v := (D 10 e)) (zdec eX0_closedDays 19 rfl) ⟨by decide, rfl⟩ (by omega) (by omega) (R.act (by omega) (by omega) (by omega)) ?_
      refine zS_iconst (zdec eX0_closedDays 20 rfl) rfl ?_
      refine zS_isub (zdec eX0_closedDays 21 rfl) ⟨by omega, by omega⟩ ?_
      refine zS_ishl (zdec eX0_closedDays 22 rfl) ?_
      refine zS_ior (zdec eX0_closedDays 23 rfl) ?_
      refine zS_istore_n (zdec eX0_closedDays 24 rfl) rfl ?_
      refine zS_iinc (zdec eX0_closedDays 25 rfl) rfl rfl ⟨by omega, by omega⟩ ?_
      refine zS_goto (tgt := 4) (zdec eX0_closedDays 26 rfl) rfl ?_
      have k := ih (e + 1) (by omega) (by omega)
      rw [clI_s _ (by omega), if_neg c1] at k
      exact k
theorem c_closedDays {d : Nat} {h : zH} {D : Dk} (V : DV D) (R : DC h 15 D) : zPI d mX0_closedDays [zA 15] h (clI D (D 0 10)) := by
  have na := V.na
  refine zmet rfl rfl rfl ?_
  refine zS_iconst (zdec eX0_closedDays 0 rfl) rfl ?_
  refine zS_istore_n (zdec eX0_closedDays 1 rfl) rfl ?_
  refine zS_iconst (zdec eX0_closedDays 2 rfl) rfl ?_
  refine zS_istore_n (zdec eX0_closedDays 3 rfl) rfl ?_
  exact L_closed V R (D 0 10).toNat 0 (by omega) (by omega)
theorem c_allBills {d : Nat} {h : zH} {D : Dk} (V : DV D) (R : DC h 15 D) : zPI d mX8_allBills [zA 14] h (zShl 1 (D 0 8) - 1) := by
  have nb := V.nb
  have ar := all_rng (k := D 0 8) nb.1 (by omega)
  refine zmet rfl rfl rfl ?_
  refine zS_iconst (zdec eX8_allBills 0 rfl) rfl ?_
  refine zS_aload_n (zdec eX8_allBills 1 rfl) rfl rfl ?_
  refine zS_getref (i := 18) (zdec eX8_allBills 2 rfl) kF_X8_12 ⟨by decide, rfl⟩ rfl rfl rfl rfl rfl ?_
  refine zS_getfieldE (x := 8) (v := (D 0 8)) (zdec eX8_allBills 3 rfl) kF_X8_37 ⟨by decide, rfl⟩ rfl rfl rfl (R.s (by decide) (by decide)) ?_
  refine zS_ishl (zdec eX8_allBills 4 rfl) ?_
  refine zS_iconst (zdec eX8_allBills 5 rfl) rfl ?_
  refine zS_isub (zdec eX8_allBills 6 rfl) ⟨by omega, by omega⟩ ?_
  exact zlI (zdec eX8_allBills 7 rfl) rfl rfl
abbrev sAs : Int → Int → Prop := fun k j => (k = 14 ∧ 1 ≤ j ∧ j ≤ 6) ∨ k = 26 ∨ k = 27
theorem told_WC {h : zH} {D : Dk} (V : DV D) (hd0 : 0 < D 0 0) (R : DC h 15 D) (i1 : h 14 1 = D 0 2) (i2 : h 14 2 = D 0 4) (i3 : h 14 3 = D 0 5) (i4 : h 14 4 = clI D (D 0 10)) (i5 : h 14 5 = zShl 1 (D 0 8) - 1) (i6 : h 14 6 = zShl 1 (D 0 9) - 1) (i7 : ∀ b, 0 ≤ b → b < D 0 8 → h 26 b = netD D b ∧ h 27 b = D (3 + b) 2) : WC h (pb0 D) := by
  have nb := V.nb
  have nl := V.nl
  have na := V.na
  refine ⟨R.s (by decide) (by decide), R.s (by decide) (by decide), R.s (by decide) (by decide), i3, i1, i2, R.s (by decide) (by decide), fun b b0 b1 => ?_, fun i j0 j1 => ⟨R.amt j0 (by have : i < D 0 9 := j1; omega) j1, R.on' j0 (by have : i < D 0 9 := j1; omega) j1⟩, fun d d0 d1 => ?_, fun b b0 b1 => ?_, fun i j0 j1 => ?_⟩
  · have b1 : b < D 0 8 := b1
    have r := V.row b0 b1
    have ns := V.ns
    exact ⟨(i7 b b0 b1).1, (i7 b b0 b1).2, R.row b0 (by omega) b1 (by decide) (by decide), R.row b0 (by omega) b1 (by decide) (by decide), R.row b0 (by omega) b1 (by decide) (by decide), R.rk r.1.1 (by show D (3 + b) 0 < 4; omega) r.1.2, R.row b0 (by omega) b1 (by decide) (by decide)⟩
  · rw [i4, (clI_is V na.1 (by omega)).2 d d0 (by omega)]
    rfl
  · rw [i5, all_bit nb.1 (by omega) b0 b1]
    rfl
  · rw [i6, all_bit nl.1 (by omega) j0 j1]
    rfl
theorem L_asTold {d : Nat} {h : zH} {D : Dk} (hd : 1 ≤ d) (hd0 : 0 < D 0 0) (V : DV D) (R : DC h 15 D) : ∀ (n : Nat) (e : Int) (h1 : zH), 0 ≤ e → e + n = D 0 8 → h1 14 1 = D 0 2 → h1 14 2 = D 0 4 → h1 14 3 = D 0 5 → h1 14 4 = clI D (D 0 10) → h1 14 5 = zShl 1 (D 0 8) - 1 → h1 14 6 = zShl 1 (D 0 9) - 1 → (∀ b, 0 ≤ b → b < e → h1 26 b = netD D b ∧ h1 27 b = D (3 + b) 2) → Fr sAs h h1 → zS mX8_asTold (zr d) 69 [zA 14, zI e] [] TT h1 (zAnV (fun h' => WC h' (pb0 D) ∧ h' 14 4 = clI D (D 0 10) ∧ Fr sAs h h')) := by
  intro n
  induction n with
  | zero =>
    intro e h1 a1 a2 i1 i2 i3 i4 i5 i6 i7 i8
    have R0 := R
    have R : DC h1 15 D := R.fr i8 (fun k j z => by omega)
    have nb := V.nb
    have nl := V.nl
    refine zS_iload_n (zdec eX8_asTold 35 rfl) rfl ?_
    refine zS_aload_n (zdec eX8_asTold 36 rfl) rfl rfl ?_
    refine zS_getref (i := 18) (zdec eX8_asTold 37 rfl) kF_X8_12 ⟨by decide, rfl⟩ rfl rfl rfl rfl rfl ?_
    refine zS_getfieldE (x := 8) (v := (D 0 8)) (zdec eX8_asTold 38 rfl) kF_X8_37 ⟨by decide, rfl⟩ rfl rfl rfl (R.s (by decide) (by decide)) ?_
    refine zS_icmp_ge (tgt := 117) (zdec eX8_asTold 39 rfl) rfl (fun cz => ?_) (fun cz => absurd (by omega) cz)
    exact zlMV (zdec eX8_asTold 61 rfl) rfl ⟨told_WC V hd0 R i1 i2 i3 i4 i5 i6 (fun b b0 b1 => i7 b b0 (by omega)), i4, i8⟩
  | succ n ih =>
    intro e h1 a1 a2 i1 i2 i3 i4 i5 i6 i7 i8
    have R0 := R
    have R : DC h1 15 D := R.fr i8 (fun k j z => by omega)
    have nb := V.nb
    have nl := V.nl
    refine zS_iload_n (zdec eX8_asTold 35 rfl) rfl ?_
    refine zS_aload_n (zdec eX8_asTold 36 rfl) rfl rfl ?_
    refine zS_getref (i := 18) (zdec eX8_asTold 37 rfl) kF_X8_12 ⟨by decide, rfl⟩ rfl rfl rfl rfl rfl ?_
    refine zS_getfieldE (x := 8) (v := (D 0 8)) (zdec eX8_asTold 38 rfl) kF_X8_37 ⟨by decide, rfl⟩ rfl rfl rfl (R.s (by decide) (by decide)) ?_
    refine zS_icmp_ge (tgt := 117) (zdec eX8_asTold 39 rfl) rfl (fun cz => absurd cz (by omega)) (fun cz => ?_)
    refine zS_aload_n (zdec eX8_asTold 40 rfl) rfl rfl ?_
    refine zS_getref (i := 19) (zdec eX8_asTold 41 rfl) kF_X8_18 ⟨by decide, rfl⟩ rfl rfl rfl rfl rfl ?_
    refine zS_iload_n (zdec eX8_asTold 42 rfl) rfl ?_
    refine zS_aload_n (zdec eX8_asTold 43 rfl) rfl rfl ?_
    refine zS_getref (i := 18) (zdec eX8_asTold 44 rfl) kF_X8_12 ⟨by decide, rfl⟩ rfl rfl rfl rfl rfl ?_
    refine zS_iload_n (zdec eX8_asTold 45 rfl) rfl ?_
    refine zvI (M' := mX0_netOf) (As := [zI e]) (st := [zI e, zA 26]) (zdec eX8_asTold 46 rfl) kM_X8_71 kV_X0_netOf ⟨by decide, rfl⟩ rfl rfl rfl rfl rfl (by omega) (c_netOf V R (by omega) (by omega)) ?_
    refine zS_iastore (zdec eX8_asTold 47 rfl) ⟨by decide, rfl⟩ (by omega) (by omega) ?_
    refine zS_aload_n (zdec eX8_asTold 48 rfl) rfl rfl ?_
    refine zS_getref (i := 20) (zdec eX8_asTold 49 rfl) kF_X8_22 ⟨by decide, rfl⟩ rfl rfl rfl rfl rfl ?_
    refine zS_iload_n (zdec eX8_asTold 50 rfl) rfl ?_
    refine zS_aload_n (zdec eX8_asTold 51 rfl) rfl rfl ?_
    refine zS_getref (i := 18) (zdec eX8_asTold 52 rfl) kF_X8_12 ⟨by decide, rfl⟩ rfl rfl rfl rfl rfl ?_
    refine zS_getref (i := 26) (zdec eX8_asTold 53 rfl) kF_X8_75 ⟨by decide, rfl⟩ rfl rfl rfl rfl rfl ?_
    refine zS_iload_n (zdec eX8_asTold 54 rfl) rfl ?_
    refine zS_aaload1 (i := 1) (zdec eX8_asTold 55 rfl) (Or.inr (Or.inl rfl)) ⟨by decide, rfl⟩ rfl rfl rfl (by omega) (by omega) ?_
    refine zS_iconst (zdec eX8_asTold 56 rfl) rfl ?_
    refine zS_ialoadE (v := (D (3 + e) 2)) (zdec eX8_asTold 57 rfl) (zrow_18 (by omega) (by omega)) (by decide) (by decide) ((congrFun (zset_k (by omega)) _).trans (R.row (by omega) (by omega) (by omega) (by decide) (by decide))) ?_
    refine zS_iastore (zdec eX8_asTold 58 rfl) ⟨by decide, rfl⟩ (by omega) (by omega) ?_
    refine zS_iinc (zdec eX8_asTold 59 rfl) rfl rfl ⟨by omega, by omega⟩ ?_
    refine zS_goto (tgt := 69) (zdec eX8_asTold 60 rfl) rfl ?_
    exact ih (e + 1) _ (by omega) (by omega) (by rw [zset_k (by decide), zset_k (by decide)]; exact i1) (by rw [zset_k (by decide), zset_k (by decide)]; exact i2) (by rw [zset_k (by decide), zset_k (by decide)]; exact i3) (by rw [zset_k (by decide), zset_k (by decide)]; exact i4) (by rw [zset_k (by decide), zset_k (by decide)]; exact i5) (by rw [zset_k (by decide), zset_k (by decide)]; exact i6) (fun b b0 b1 => by
        by_cases w : b = e
        · rw [w]; exact ⟨(congrFun (zset_k (by decide)) _).trans (zset_s _ _ _ _), zset_s _ _ _ _⟩
        · rw [zset_k (by decide), zset_j w, zset_j w, zset_k (by decide)]; exact i7 b b0 (by omega)) ((i8.set (Or.inr (Or.inl rfl))).set (Or.inr (Or.inr rfl)))
theorem c_asTold {d : Nat} {h : zH} {D : Dk} (hd : 1 ≤ d) (hd0 : 0 < D 0 0) (V : DV D) (R : DC h 15 D) : zMV d mX8_asTold [zA 14] h (fun h' => WC h' (pb0 D) ∧ h' 14 4 = clI D (D 0 10) ∧ Fr sAs h h') := by
  have nb := V.nb
  have nl := V.nl
  have ar := all_rng (k := D 0 9) nl.1 (by omega)
  refine zmet rfl rfl rfl ?_
  refine zS_aload_n (zdec eX8_asTold 0 rfl) rfl rfl ?_
  refine zS_aload_n (zdec eX8_asTold 1 rfl) rfl rfl ?_
  refine zS_getref (i := 18) (zdec eX8_asTold 2 rfl) kF_X8_12 ⟨by decide, rfl⟩ rfl rfl rfl rfl rfl ?_
  refine zS_getfieldE (x := 2) (v := (D 0 2)) (zdec eX8_asTold 3 rfl) kF_X8_41 ⟨by decide, rfl⟩ rfl rfl rfl (R.s (by decide) (by decide)) ?_
  refine zS_putfield (x := 1) (zdec eX8_asTold 4 rfl) kF_X8_44 (Or.inl kf8_1) ⟨by decide, rfl⟩ rfl rfl rfl (Or.inl (fun q => by cases q)) ?_
  refine zS_aload_n (zdec eX8_asTold 5 rfl) rfl rfl ?_
  refine zS_aload_n (zdec eX8_asTold 6 rfl) rfl rfl ?_
  refine zS_getref (i := 18) (zdec eX8_asTold 7 rfl) kF_X8_12 ⟨by decide, rfl⟩ rfl rfl rfl rfl rfl ?_
  refine zS_getfieldE (x := 4) (v := (D 0 4)) (zdec eX8_asTold 8 rfl) kF_X8_45 ⟨by decide, rfl⟩ rfl rfl rfl ((congrFun (zset_k (by decide)) _).trans (R.s (by decide) (by decide))) ?_
  refine zS_putfield (x := 2) (zdec eX8_asTold 9 rfl) kF_X8_48 (Or.inl kf8_2) ⟨by decide, rfl⟩ rfl rfl rfl (Or.inl (fun q => by cases q)) ?_
  refine zS_aload_n (zdec eX8_asTold 10 rfl) rfl rfl ?_
  refine zS_aload_n (zdec eX8_asTold 11 rfl) rfl rfl ?_
  refine zS_getref (i := 18) (zdec eX8_asTold 12 rfl) kF_X8_12 ⟨by decide, rfl⟩ rfl rfl rfl rfl rfl ?_
  refine zS_getfieldE (x := 5) (v := (D 0 5)) (zdec eX8_asTold 13 rfl) kF_X8_49 ⟨by decide, rfl⟩ rfl rfl rfl ((congrFun (zset_k (by decide)) _).trans ((congrFun (zset_k (by decide)) _).trans (R.s (by decide) (by decide)))) ?_
  refine zS_putfield (x := 3) (zdec eX8_asTold 14 rfl) kF_X8_52 (Or.inl kf8_3) ⟨by decide, rfl⟩ rfl rfl rfl (Or.inl (fun q => by cases q)) ?_
  refine zS_aload_n (zdec eX8_asTold 15 rfl) rfl rfl ?_
  refine zS_aload_n (zdec eX8_asTold 16 rfl) rfl rfl ?_
  refine zS_getref (i := 18) (zdec eX8_asTold 17 rfl) kF_X8_12 ⟨by decide, rfl⟩ rfl rfl rfl rfl rfl ?_
  refine zvI (M' := mX0_closedDays) (As := []) (st := [zA 14]) (zdec eX8_asTold 18 rfl) kM_X8_53 kV_X0_closedDays ⟨by decide, rfl⟩ rfl rfl rfl rfl rfl (by omega) (c_closedDays V (R.fr (S := sAs) (((Fr.rf.set (Or.inl ⟨rfl, by decide, by decide⟩)).set (Or.inl ⟨rfl, by decide, by decide⟩)).set (Or.inl ⟨rfl, by decide, by decide⟩)) (fun k j z => by omega))) ?_
  refine zS_putfield (x := 4) (zdec eX8_asTold 19 rfl) kF_X8_57 (Or.inl kf8_4) ⟨by decide, rfl⟩ rfl rfl rfl (Or.inl (fun q => by cases q)) ?_
  refine zS_aload_n (zdec eX8_asTold 20 rfl) rfl rfl ?_
  refine zS_aload_n (zdec eX8_asTold 21 rfl) rfl rfl ?_
  refine zvI (M' := mX8_allBills) (As := []) (st := [zA 14]) (zdec eX8_asTold 22 rfl) kM_X8_59 kV_X8_allBills ⟨by decide, rfl⟩ rfl rfl rfl rfl rfl (by omega) (c_allBills V (R.fr (S := sAs) ((((Fr.rf.set (Or.inl ⟨rfl, by decide, by decide⟩)).set (Or.inl ⟨rfl, by decide, by decide⟩)).set (Or.inl ⟨rfl, by decide, by decide⟩)).set (Or.inl ⟨rfl, by decide, by decide⟩)) (fun k j z => by omega))) ?_
  refine zS_putfield (x := 5) (zdec eX8_asTold 23 rfl) kF_X8_62 (Or.inl kf8_5) ⟨by decide, rfl⟩ rfl rfl rfl (Or.inl (fun q => by cases q)) ?_
  refine zS_aload_n (zdec eX8_asTold 24 rfl) rfl rfl ?_
  refine zS_iconst (zdec eX8_asTold 25 rfl) rfl ?_
  refine zS_aload_n (zdec eX8_asTold 26 rfl) rfl rfl ?_
  refine zS_getref (i := 18) (zdec eX8_asTold 27 rfl) kF_X8_12 ⟨by decide, rfl⟩ rfl rfl rfl rfl rfl ?_
  refine zS_getfieldE (x := 9) (v := (D 0 9)) (zdec eX8_asTold 28 rfl) kF_X8_65 ⟨by decide, rfl⟩ rfl rfl rfl ((congrFun (zset_k (by decide)) _).trans ((congrFun (zset_k (by decide)) _).trans ((congrFun (zset_k (by decide)) _).trans ((congrFun (zset_k (by decide)) _).trans ((congrFun (zset_k (by decide)) _).trans (R.s (by decide) (by decide))))))) ?_
  refine zS_ishl (zdec eX8_asTold 29 rfl) ?_
  refine zS_iconst (zdec eX8_asTold 30 rfl) rfl ?_
  refine zS_isub (zdec eX8_asTold 31 rfl) ⟨by omega, by omega⟩ ?_
  refine zS_putfield (x := 6) (zdec eX8_asTold 32 rfl) kF_X8_68 (Or.inl kf8_6) ⟨by decide, rfl⟩ rfl rfl rfl (Or.inl (fun q => by cases q)) ?_
  refine zS_iconst (zdec eX8_asTold 33 rfl) rfl ?_
  refine zS_istore_n (zdec eX8_asTold 34 rfl) rfl ?_
  exact L_asTold hd hd0 V R (D 0 8).toNat 0 _ (by omega) (by omega) (by rw [zset_j (by decide)]; rw [zset_j (by decide)]; rw [zset_j (by decide)]; rw [zset_j (by decide)]; rw [zset_j (by decide)]; exact zset_s _ _ _ _) (by rw [zset_j (by decide)]; rw [zset_j (by decide)]; rw [zset_j (by decide)]; rw [zset_j (by decide)]; exact zset_s _ _ _ _) (by rw [zset_j (by decide)]; rw [zset_j (by decide)]; rw [zset_j (by decide)]; exact zset_s _ _ _ _) (by rw [zset_j (by decide)]; rw [zset_j (by decide)]; exact zset_s _ _ _ _) (by rw [zset_j (by decide)]; exact zset_s _ _ _ _) (by exact zset_s _ _ _ _) (fun b b0 b1 => by omega) ((((((Fr.rf.set (Or.inl ⟨rfl, by decide, by decide⟩)).set (Or.inl ⟨rfl, by decide, by decide⟩)).set (Or.inl ⟨rfl, by decide, by decide⟩)).set (Or.inl ⟨rfl, by decide, by decide⟩)).set (Or.inl ⟨rfl, by decide, by decide⟩)).set (Or.inl ⟨rfl, by decide, by decide⟩))

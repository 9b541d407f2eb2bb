theorem L_choose {d : Nat} {h : zH} {p : Pb} {fb fd L : Int} {k : Nat} {b m : Int} (hd : 6 + 2 * k ≤ d) (V : PV p) (hin : ∀ c, 0 ≤ c → c < pNb p → pIn p c = true) (IH : ChC p fb fd L k) (b0 : 0 ≤ b) (b1 : b + 1 + k = pNb p) (m0 : 0 ≤ m) (R : WC h p) (RR : SeR h p fb fd) (LW : lawP p (preP p b m) = true) (FT : fitP fb fd b (preP p b m)) : ∀ (n : Nat) (e : Int) (h1 : zH), 0 ≤ e → e + n = pDays p + 1 → PlC h1 p (preP p b m) → SeS h1 p (stI p fb fd L ((m * (pDays p + 1) + e) * bwN p k)) → SeT h1 (preP p b m) b → Fr sSe h h1 → zS mX4_choose (zr d) 50 [zA 75, zA 14, zI b, zI (parS p (preP p b m) b), zI e] [] TT h1 (zAnV (fun h' => PlC h' p (preP p b m) ∧ SeS h' p (stI p fb fd L ((m + 1) * bwN p (k + 1))) ∧ SeT h' (preP p b m) b ∧ Fr sSe h h')) := by
  intro n
  induction n with
  | zero =>
    intro e h1 a1 a2 i1 i2 i3 i4
    have R0 := R
    have R : WC h1 p := R.fr V i4 (fun k j z => by unfold wcP; omega)
    have RR0 := RR
    have RR := RR.fr i4
    have dy := V.days
    have nb := V.nb
    refine zS_iload (zdec eX4_choose 29 rfl) rfl ?_
    refine zS_aload_n (zdec eX4_choose 30 rfl) rfl rfl ?_
    refine zS_getref (i := 18) (zdec eX4_choose 31 rfl) kF_X4_44 ⟨by decide, rfl⟩ rfl rfl rfl rfl rfl ?_
    refine zS_getfieldE (x := 1) (v := (pDays p)) (zdec eX4_choose 32 rfl) kF_X4_54 ⟨by decide, rfl⟩ rfl rfl rfl R.days ?_
    refine zS_icmp_gt (tgt := 94) (zdec eX4_choose 33 rfl) rfl (fun cz => ?_) (fun cz => absurd (by omega) cz)
    exact zlMV (zdec eX4_choose 50 rfl) rfl ⟨i1, by rw [show e = pDays p + 1 by omega] at i2; rw [show (m + 1) * bwN p (k + 1) = (m * (pDays p + 1) + (pDays p + 1)) * bwN p k by show (m + 1) * (bwN p k * (pDays p + 1)) = _; rw [Int.mul_comm (bwN p k), ← Int.mul_assoc, Int.add_mul, Int.one_mul]]; exact i2, i3, i4⟩
  | succ n ih =>
    intro e h1 a1 a2 i1 i2 i3 i4
    have R0 := R
    have R : WC h1 p := R.fr V i4 (fun k j z => by unfold wcP; omega)
    have RR0 := RR
    have RR := RR.fr i4
    have dy := V.days
    have nb := V.nb
    refine zS_iload (zdec eX4_choose 29 rfl) rfl ?_
    refine zS_aload_n (zdec eX4_choose 30 rfl) rfl rfl ?_
    refine zS_getref (i := 18) (zdec eX4_choose 31 rfl) kF_X4_44 ⟨by decide, rfl⟩ rfl rfl rfl rfl rfl ?_
    refine zS_getfieldE (x := 1) (v := (pDays p)) (zdec eX4_choose 32 rfl) kF_X4_54 ⟨by decide, rfl⟩ rfl rfl rfl R.days ?_
    refine zS_icmp_gt (tgt := 94) (zdec eX4_choose 33 rfl) rfl (fun cz => absurd cz (by omega)) (fun cz => ?_)
    refine zS_iload_n (zdec eX4_choose 34 rfl) rfl ?_
    refine zS_aload_n (zdec eX4_choose 35 rfl) rfl rfl ?_
    refine zS_getfieldE (x := 4) (v := fb) (zdec eX4_choose 36 rfl) kF_X4_25 ⟨by decide, rfl⟩ rfl rfl rfl RR.1 ?_
    refine zS_icmp_ne (tgt := 79) (zdec eX4_choose 37 rfl) rfl (fun c1 => ?_) (fun c1 => ?_)
    · have hx : b ≠ fb ∨ e = fd := by omega
      refine zS_aload_n (zdec eX4_choose 42 rfl) rfl rfl ?_
      refine zS_aload_n (zdec eX4_choose 43 rfl) rfl rfl ?_
      refine zS_iload_n (zdec eX4_choose 44 rfl) rfl ?_
      refine zS_iload (zdec eX4_choose 45 rfl) rfl ?_
      refine zS_iload_n (zdec eX4_choose 46 rfl) rfl ?_
      refine zvMV (M' := mX4_tryDay) (As := [zA 14, zI b, zI e, zI (parS p (preP p b m) b)]) (st := []) (zdec eX4_choose 47 rfl) kM_X4_72 kV_X4_tryDay ⟨by decide, rfl⟩ rfl rfl rfl rfl rfl (by omega) (c_tryDay (by omega) V hin IH b0 b1 m0 (by omega) (by omega) hx R i1 RR i2 i3 LW FT) (fun h5 ⟨k2, k3, k4, k5⟩ => ?_)
      refine zS_iinc (zdec eX4_choose 48 rfl) rfl rfl ⟨by omega, by omega⟩ ?_
      refine zS_goto (tgt := 50) (zdec eX4_choose 49 rfl) rfl ?_
      exact ih (e + 1) h5 (by omega) (by omega) k2 (by rw [← Int.add_assoc]; exact k3) k4 (i4.tr k5 (fun k j z => z) (fun k j z => z))
    · refine zS_iload (zdec eX4_choose 38 rfl) rfl ?_
      refine zS_aload_n (zdec eX4_choose 39 rfl) rfl rfl ?_
      refine zS_getfieldE (x := 5) (v := fd) (zdec eX4_choose 40 rfl) kF_X4_28 ⟨by decide, rfl⟩ rfl rfl rfl RR.2.1 ?_
      refine zS_icmp_ne (tgt := 88) (zdec eX4_choose 41 rfl) rfl (fun c2 => ?_) (fun c2 => ?_)
      · refine zS_iinc (zdec eX4_choose 48 rfl) rfl rfl ⟨by omega, by omega⟩ ?_
        refine zS_goto (tgt := 50) (zdec eX4_choose 49 rfl) rfl ?_
        have blk : stI p fb fd L ((m * (pDays p + 1) + (e + 1)) * bwN p k) = stI p fb fd L ((m * (pDays p + 1) + e) * bwN p k) := stI_blk (Int.mul_nonneg (by have := mul_nn m0 (show 0 ≤ pDays p + 1 by omega); omega) (by have := bw_pos V k; omega)) (by rw [← Int.add_assoc, Int.add_mul _ 1]; have := bw_pos V k; omega) (fun n n0 n1 ok => by
            have B := blk_pre V k (b + 1) (m * (pDays p + 1) + e) n (by omega) (by omega) n0 (by rw [Int.add_assoc]; exact n1) b b0 (by omega)
            rw [preP_s V b0 (by omega) (by omega), updI_s] at B
            unfold okN at ok
            rw [show fb = b by omega, B] at ok
            have n1 : (b == -1) = false := by simp; omega
            have n2 : (e == fd) = false := by simp; omega
            rw [n1, n2] at ok
            simp at ok)
        exact ih (e + 1) h1 (by omega) (by omega) i1 (by rw [blk]; exact i2) i3 i4
      · have hx : b ≠ fb ∨ e = fd := by omega
        refine zS_aload_n (zdec eX4_choose 42 rfl) rfl rfl ?_
        refine zS_aload_n (zdec eX4_choose 43 rfl) rfl rfl ?_
        refine zS_iload_n (zdec eX4_choose 44 rfl) rfl ?_
        refine zS_iload (zdec eX4_choose 45 rfl) rfl ?_
        refine zS_iload_n (zdec eX4_choose 46 rfl) rfl ?_
        refine zvMV (M' := mX4_tryDay) (As := [zA 14, zI b, zI e, zI (parS p (preP p b m) b)]) (st := []) (zdec eX4_choose 47 rfl) kM_X4_72 kV_X4_tryDay ⟨by decide, rfl⟩ rfl rfl rfl rfl rfl (by omega) (c_tryDay (by omega) V hin IH b0 b1 m0 (by omega) (by omega) hx R i1 RR i2 i3 LW FT) (fun h5 ⟨k2, k3, k4, k5⟩ => ?_)
        refine zS_iinc (zdec eX4_choose 48 rfl) rfl rfl ⟨by omega, by omega⟩ ?_
        refine zS_goto (tgt := 50) (zdec eX4_choose 49 rfl) rfl ?_
        exact ih (e + 1) h5 (by omega) (by omega) k2 (by rw [← Int.add_assoc]; exact k3) k4 (i4.tr k5 (fun k j z => z) (fun k j z => z))
theorem c_choose {p : Pb} {fb fd L : Int} (V : PV p) (hin : ∀ c, 0 ≤ c → c < pNb p → pIn p c = true) (hf : fb < pNb p) : ∀ k, ChC p fb fd L k := by
  intro k
  induction k with
  | zero =>
    intro d h b m hd b0 b1 m0 R S RR SS T LW FT
    have dy := V.days
    have nb := V.nb
    have sb := parB V (preP_rng V b m) b0 (show b ≤ pNb p by omega)
    have rb := restB V b0 (show b ≤ pNb p by omega)
    refine zmet rfl rfl rfl ?_
    refine zS_iload_n (zdec eX4_choose 0 rfl) rfl ?_
    refine zS_aload_n (zdec eX4_choose 1 rfl) rfl rfl ?_
    refine zS_getref (i := 50) (zdec eX4_choose 2 rfl) kF_X4_18 ⟨by decide, rfl⟩ rfl rfl rfl rfl rfl ?_
    refine zS_iload_n (zdec eX4_choose 3 rfl) rfl ?_
    refine zS_ialoadE (v := (restP p b)) (zdec eX4_choose 4 rfl) ⟨by decide, rfl⟩ (by omega) (by omega) (RR.2.2 _ (by omega) (by omega)) ?_
    refine zS_iadd (zdec eX4_choose 5 rfl) ⟨by omega, by omega⟩ ?_
    refine zS_aload_n (zdec eX4_choose 6 rfl) rfl rfl ?_
    refine zS_getfieldE (x := 3) (v := (stI p fb fd L (m * bwN p 0)).1) (zdec eX4_choose 7 rfl) kF_X4_21 ⟨by decide, rfl⟩ rfl rfl rfl SS.1 ?_
    refine zS_icmp_lt (tgt := 16) (zdec eX4_choose 8 rfl) rfl (fun c1 => ?_) (fun c1 => ?_)
    · refine zS_iload_n (zdec eX4_choose 10 rfl) rfl ?_
      refine zS_aload_n (zdec eX4_choose 11 rfl) rfl rfl ?_
      refine zS_getref (i := 18) (zdec eX4_choose 12 rfl) kF_X4_44 ⟨by decide, rfl⟩ rfl rfl rfl rfl rfl ?_
      refine zS_getfieldE (x := 8) (v := (pNb p)) (zdec eX4_choose 13 rfl) kF_X4_48 ⟨by decide, rfl⟩ rfl rfl rfl R.nb ?_
      refine zS_icmp_lt (tgt := 47) (zdec eX4_choose 14 rfl) rfl (fun cz => absurd cz (by omega)) (fun cz => ?_)
      refine zS_aload_n (zdec eX4_choose 15 rfl) rfl rfl ?_
      refine zS_iload_n (zdec eX4_choose 16 rfl) rfl ?_
      refine zS_putfield (x := 3) (zdec eX4_choose 17 rfl) kF_X4_21 (Or.inl kf4_3) ⟨by decide, rfl⟩ rfl rfl rfl (Or.inl (fun q => by cases q)) ?_
      refine zS_aload_n (zdec eX4_choose 18 rfl) rfl rfl ?_
      refine zS_getref (i := 49) (zdec eX4_choose 19 rfl) kF_X4_15 ⟨by decide, rfl⟩ rfl rfl rfl rfl rfl ?_
      refine zS_iconst (zdec eX4_choose 20 rfl) rfl ?_
      refine zS_aload_n (zdec eX4_choose 21 rfl) rfl rfl ?_
      refine zS_getref (i := 48) (zdec eX4_choose 22 rfl) kF_X4_9 ⟨by decide, rfl⟩ rfl rfl rfl rfl rfl ?_
      refine zS_iconst (zdec eX4_choose 23 rfl) rfl ?_
      refine zS_iconst (zdec eX4_choose 24 rfl) rfl ?_
      refine zS_copyI (zdec eX4_choose 25 rfl) kM_X4_66 rfl (by omega) ⟨by decide, rfl⟩ ⟨by decide, rfl⟩ (by decide) (by decide) (by decide) (by decide) (by decide) ?_
      have eb : b = pNb p := by omega
      subst eb
      have fin : stI p fb fd L ((m + 1) * bwN p 0) = (totN p m, m) := by
        rw [show bwN p 0 = 1 from rfl] at SS c1 ⊢
        rw [Int.mul_one] at SS c1 ⊢
        rw [stI_s m0, if_pos]
        rw [Bool.and_eq_true, decide_eq_true_eq]
        refine ⟨?_, by unfold totN; rw [total_par hin]; rw [rest_n] at c1; omega⟩
        unfold okN
        rw [LW, Bool.and_true, Bool.or_eq_true, beq_iff_eq, beq_iff_eq]
        rcases FT with z | z | z
        · exact Or.inl z
        · exact absurd z (by omega)
        · exact Or.inr z
      exact zlMV (zdec eX4_choose 26 rfl) rfl ⟨S.of (fun k j z => by rw [zcpy_k (by omega), zset_k (by omega)]), by
        rw [fin]
        refine ⟨?_, fun _ c c0 c1 => ?_⟩
        · rw [zcpy_k (by decide), zset_s]; unfold totN; rw [total_par hin]
        · show (if (76 : Int) = 76 ∧ 0 ≤ c ∧ c < 0 + 5 then _ else _) = _
          rw [if_pos ⟨rfl, c0, by omega⟩, zset_k (by decide)]
          have := T c c0 (by omega)
          rw [show (0 : Int) + (c - 0) = c by omega]
          exact this, fun c c0 c1 => by rw [zcpy_k (by decide), zset_k (by decide)]; exact T c c0 c1, fun k j hn => by rw [zcpy_k (by omega)]; exact (Fr.rf.set (by omega)) k j hn⟩
    · have blk : stI p fb fd L ((m + 1) * bwN p 0) = stI p fb fd L (m * bwN p 0) := stI_blk (Int.mul_nonneg m0 (by have := bw_pos V 0; omega)) (by rw [Int.add_mul]; have := bw_pos V 0; omega) (fun n n0 n1 _ => by
        have E := pre_extP V (k := 0) (b := b) b0 b1 n0 n1
        have B := blk_pre V 0 b m n b0 b1 n0 n1
        have t := tot_ge V hin b0 (by omega) E B (preP_rng V (pNb p) n)
        unfold totN
        omega)
      exact zlMV (zdec eX4_choose 9 rfl) rfl ⟨S, by rw [blk]; exact SS, T, Fr.rf⟩
  | succ k ih =>
    intro d h b m hd b0 b1 m0 R S RR SS T LW FT
    have dy := V.days
    have nb := V.nb
    have sb := parB V (preP_rng V b m) b0 (show b ≤ pNb p by omega)
    have rb := restB V b0 (show b ≤ pNb p by omega)
    refine zmet rfl rfl rfl ?_
    refine zS_iload_n (zdec eX4_choose 0 rfl) rfl ?_
    refine zS_aload_n (zdec eX4_choose 1 rfl) rfl rfl ?_
    refine zS_getref (i := 50) (zdec eX4_choose 2 rfl) kF_X4_18 ⟨by decide, rfl⟩ rfl rfl rfl rfl rfl ?_
    refine zS_iload_n (zdec eX4_choose 3 rfl) rfl ?_
    refine zS_ialoadE (v := (restP p b)) (zdec eX4_choose 4 rfl) ⟨by decide, rfl⟩ (by omega) (by omega) (RR.2.2 _ (by omega) (by omega)) ?_
    refine zS_iadd (zdec eX4_choose 5 rfl) ⟨by omega, by omega⟩ ?_
    refine zS_aload_n (zdec eX4_choose 6 rfl) rfl rfl ?_
    refine zS_getfieldE (x := 3) (v := (stI p fb fd L (m * bwN p (k + 1))).1) (zdec eX4_choose 7 rfl) kF_X4_21 ⟨by decide, rfl⟩ rfl rfl rfl SS.1 ?_
    refine zS_icmp_lt (tgt := 16) (zdec eX4_choose 8 rfl) rfl (fun c1 => ?_) (fun c1 => ?_)
    · refine zS_iload_n (zdec eX4_choose 10 rfl) rfl ?_
      refine zS_aload_n (zdec eX4_choose 11 rfl) rfl rfl ?_
      refine zS_getref (i := 18) (zdec eX4_choose 12 rfl) kF_X4_44 ⟨by decide, rfl⟩ rfl rfl rfl rfl rfl ?_
      refine zS_getfieldE (x := 8) (v := (pNb p)) (zdec eX4_choose 13 rfl) kF_X4_48 ⟨by decide, rfl⟩ rfl rfl rfl R.nb ?_
      refine zS_icmp_lt (tgt := 47) (zdec eX4_choose 14 rfl) rfl (fun cz => ?_) (fun cz => absurd (by omega) cz)
      refine zS_iconst (zdec eX4_choose 27 rfl) rfl ?_
      refine zS_istore (zdec eX4_choose 28 rfl) rfl ?_
      exact L_choose (by omega) V hin ih b0 (by omega) m0 R RR LW FT (pDays p + 1).toNat 0 h (by omega) (by omega) S (by rw [Int.add_zero, Int.mul_assoc, Int.mul_comm (pDays p + 1)]; exact SS) T Fr.rf
    · have blk : stI p fb fd L ((m + 1) * bwN p (k + 1)) = stI p fb fd L (m * bwN p (k + 1)) := stI_blk (Int.mul_nonneg m0 (by have := bw_pos V (k + 1); omega)) (by rw [Int.add_mul]; have := bw_pos V (k + 1); omega) (fun n n0 n1 _ => by
        have E := pre_extP V (k := (k + 1)) (b := b) b0 b1 n0 n1
        have B := blk_pre V (k + 1) b m n b0 b1 n0 n1
        have t := tot_ge V hin b0 (by omega) E B (preP_rng V (pNb p) n)
        unfold totN
        omega)
      exact zlMV (zdec eX4_choose 9 rfl) rfl ⟨S, by rw [blk]; exact SS, T, Fr.rf⟩
abbrev sLe : Int → Int → Prop := fun k j => k = 28 ∨ k = 30 ∨ k = 31 ∨ (k = 14 ∧ j = 14) ∨ (k = 75 ∧ 3 ≤ j) ∨ k = 76 ∨ k = 77 ∨ k = 78
def stA (p : Pb) (fb fd L : Int) : Int × Int := stI p fb fd L (bwN p (pNb p).toNat)
theorem c_least {d : Nat} {h : zH} {p : Pb} {fb fd L : Int} (hd : 15 ≤ d) (V : PV p) (hin : ∀ c, 0 ≤ c → c < pNb p → pIn p c = true) (R : WC h p) (hf : fb = -1 ∨ 0 ≤ fb) (hg : fb < pNb p) : zMI d mX4_least [zA 75, zA 14, zI fb, zI fd, zI L] h (fun x h' => x = (stA p fb fd L).1 ∧ SeS h' p (stA p fb fd L) ∧ Fr sLe h h') := by
  have dy := V.days
  have nb := V.nb
  have g0 : Fr sLe h (zset (zset (zset h 75 3 L) 75 4 fb) 75 5 fd) := ((Fr.rf.set (by omega)).set (by omega)).set (by omega)
  have R1 : WC (zset (zset (zset h 75 3 L) 75 4 fb) 75 5 fd) p := R.fr V g0 (fun k j z => by unfold wcP; omega)
  refine zmet rfl rfl rfl ?_
  refine zS_aload_n (zdec eX4_least 0 rfl) rfl rfl ?_
  refine zS_iload (zdec eX4_least 1 rfl) rfl ?_
  refine zS_putfield (x := 3) (zdec eX4_least 2 rfl) kF_X4_21 (Or.inl kf4_3) ⟨by decide, rfl⟩ rfl rfl rfl (Or.inl (fun q => by cases q)) ?_
  refine zS_aload_n (zdec eX4_least 3 rfl) rfl rfl ?_
  refine zS_iload_n (zdec eX4_least 4 rfl) rfl ?_
  refine zS_putfield (x := 4) (zdec eX4_least 5 rfl) kF_X4_25 (Or.inl kf4_4) ⟨by decide, rfl⟩ rfl rfl rfl (Or.inl (fun q => by cases q)) ?_
  refine zS_aload_n (zdec eX4_least 6 rfl) rfl rfl ?_
  refine zS_iload_n (zdec eX4_least 7 rfl) rfl ?_
  refine zS_putfield (x := 5) (zdec eX4_least 8 rfl) kF_X4_28 (Or.inl kf4_5) ⟨by decide, rfl⟩ rfl rfl rfl (Or.inl (fun q => by cases q)) ?_
  refine zS_aload_n (zdec eX4_least 9 rfl) rfl rfl ?_
  refine zvMV (M' := mX8_clearPlan) (As := []) (st := []) (zdec eX4_least 10 rfl) kM_X4_31 kV_X8_clearPlan ⟨by decide, rfl⟩ rfl rfl rfl rfl rfl (by omega) (c_clearPlan (by omega) V R1) (fun h2 ⟨S2, m2, g2⟩ => ?_)
  have R2 : WC h2 p := R1.fr V g2 (fun k j z => by unfold wcP; omega)
  refine zS_aload_n (zdec eX4_least 11 rfl) rfl rfl ?_
  refine zS_aload_n (zdec eX4_least 12 rfl) rfl rfl ?_
  refine zvMV (M' := mX4_reckonRest) (As := [zA 14]) (st := []) (zdec eX4_least 13 rfl) kM_X4_36 kV_X4_reckonRest ⟨by decide, rfl⟩ rfl rfl rfl rfl rfl (by omega) (c_reckonRest (by omega) V R2) (fun h3 ⟨RS, g3⟩ => ?_)
  have R3 : WC h3 p := R2.fr V g3 (fun k j z => by unfold wcP; omega)
  refine zS_aload_n (zdec eX4_least 14 rfl) rfl rfl ?_
  refine zS_aload_n (zdec eX4_least 15 rfl) rfl rfl ?_
  refine zS_iconst (zdec eX4_least 16 rfl) rfl ?_
  refine zS_iconst (zdec eX4_least 17 rfl) rfl ?_
  have RR : SeR h3 p fb fd := ⟨by rw [g3 75 4 (by decide), g2 75 4 (by decide), zset_j (by decide), zset_s], by rw [g3 75 5 (by decide), g2 75 5 (by decide), zset_s], RS⟩
  have p0 : parS p (fun _ => pDays p) 0 = 0 := by unfold parS feesP; rw [sumI_zero (k := pDays p) (fun j j0 j1 => by rw [used_none (by omega)]; rfl)]; rfl
  have k1 := c_choose (L := L) V hin hg (pNb p).toNat (d := d - 1) (h := h3) (b := 0) (m := 0) (fb := fb) (fd := fd) (by omega) (by omega) (by omega) (by omega) R3 (S2.of (fun k j z => g3 k j (by omega))) RR ⟨by rw [g3 75 3 (by decide), g2 75 3 (by decide), zset_j (by decide), zset_j (by decide), zset_s, Int.zero_mul]; rfl, fun z => by rw [Int.zero_mul] at z; exact absurd (show (0 : Int) ≤ -1 from z) (by decide)⟩ (fun c c0 c1 => by omega) (law_none p) (by unfold fitP; omega)
  rw [preP_0, p0, Int.zero_add, Int.one_mul] at k1
  refine zvMV (M' := mX4_choose) (As := [zA 14, zI 0, zI 0]) (st := []) (zdec eX4_least 18 rfl) kM_X4_40 kV_X4_choose ⟨by decide, rfl⟩ rfl rfl rfl rfl rfl (by omega) k1 (fun h5 ⟨k2, k3, k4, k5⟩ => ?_)
  refine zS_aload_n (zdec eX4_least 19 rfl) rfl rfl ?_
  refine zS_getfieldE (x := 3) (v := (h5 75 3)) (zdec eX4_least 20 rfl) kF_X4_21 ⟨by decide, rfl⟩ rfl rfl rfl rfl ?_
  exact zlMI (zdec eX4_least 21 rfl) rfl ⟨k3.1, k3, (g0.tr (g2.tr (g3.tr k5 (S'' := sLe) (fun k j z => by omega) (fun k j z => by omega)) (S'' := sLe) (fun k j z => by omega) (fun k j z => z)) (fun k j z => z) (fun k j z => z))⟩

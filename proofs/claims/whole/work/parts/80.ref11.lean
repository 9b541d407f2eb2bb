def udN (p : Pb) (q : Int → Int) : Nat → Int
  | 0 => 0
  | n + 1 => zOr (udN p q n) (if q n < pDays p then zShl 1 (q n) else 0)
def udI (p : Pb) (q : Int → Int) (k : Int) : Int := udN p q k.toNat
theorem udI_s (p : Pb) (q : Int → Int) {k : Int} (h : 0 ≤ k) : udI p q (k + 1) = zOr (udI p q k) (if q k < pDays p then zShl 1 (q k) else 0) := by
  unfold udI
  rw [show (k + 1).toNat = k.toNat + 1 by omega]
  show zOr (udN p q k.toNat) (if q (k.toNat : Int) < pDays p then zShl 1 (q (k.toNat : Int)) else 0) = _
  rw [Int.toNat_of_nonneg h]
theorem or_rng7 {x b : Int} (h0 : 0 ≤ x) (h1 : x < 128) (b0 : 0 ≤ b) (b1 : b < 7) : (0 ≤ zOr x (zShl 1 b) ∧ zOr x (zShl 1 b) < 128) ∧ ∀ d, 0 ≤ d → d < 31 → bitB (zOr x (zShl 1 b)) d = (bitB x d || decide (d = b)) := by
  obtain ⟨y, rfl⟩ := Int.eq_ofNat_of_zero_le h0
  obtain ⟨c, rfl⟩ := Int.eq_ofNat_of_zero_le b0
  obtain ⟨w, y1, y2, y3⟩ := orN (x := y) (b := c) (m := 7) (by omega) (by omega) (by omega)
  refine ⟨by rw [y1]; omega, fun d d0 d1 => ?_⟩
  obtain ⟨n, rfl⟩ := Int.eq_ofNat_of_zero_le d0
  rw [y1, y3 n (by omega)]
  congr 1
  apply Bool.eq_iff_iff.mpr
  rw [decide_eq_true_eq, decide_eq_true_eq]
  omega
theorem udI_is {p : Pb} (V : PV p) {q : Int → Int} (q0 : ∀ b, 0 ≤ q b) : ∀ k : Int, 0 ≤ k → (0 ≤ udI p q k ∧ udI p q k < 128) ∧ ∀ d, 0 ≤ d → d < 31 → bitB (udI p q k) d = anyI (fun b => decide (q b < pDays p) && decide (d = q b)) k := by
  have dy := V.days
  refine up_ind ⟨⟨by show (0 : Int) ≤ 0; omega, by show (0 : Int) < 128; omega⟩, fun d d0 d1 => by rw [anyI_0 _ (by omega)]; exact bit0 d0 d1⟩ (fun j hj ih => ?_)
  obtain ⟨⟨a0, a1⟩, a2⟩ := ih
  have qj := q0 j
  rw [udI_s _ _ hj]
  by_cases c : q j < pDays p
  · rw [if_pos c]
    have o := or_rng7 a0 a1 qj (show q j < 7 by omega)
    refine ⟨o.1, fun d d0 d1 => ?_⟩
    rw [o.2 d d0 d1, a2 d d0 d1, anyI_s _ hj, decide_eq_true c, Bool.true_and]
  · rw [if_neg c, zOr_0 a0 (by omega)]
    refine ⟨⟨a0, a1⟩, fun d d0 d1 => ?_⟩
    rw [a2 d d0 d1, anyI_s _ hj, decide_eq_false c, Bool.false_and, Bool.or_false]
theorem ud_bits {p : Pb} (V : PV p) (hin : ∀ b, 0 ≤ b → b < pNb p → pIn p b = true) {q : Int → Int} (q0 : ∀ b, 0 ≤ q b) : udI p q (pNb p) = bitsI (usedP p q) (pDays p) := by
  have dy := V.days
  have nb := V.nb
  have u := udI_is V q0 (pNb p) nb.1
  have br := bitsI_rng (f := usedP p q) (k := pDays p) (by omega) (by omega)
  have hp : (2 : Int) ^ (pDays p).toNat ≤ 128 := by
    have : (2 : Nat) ^ (pDays p).toNat ≤ 2 ^ 7 := Nat.pow_le_pow_right (by decide) (by omega)
    exact_mod_cast this
  refine bit_ext u.1.1 (by omega) br.1 (by omega) (fun c c0 c1 => ?_)
  rw [u.2 c c0 c1, bitsI_bit (by omega) (by omega) c0 c1]
  apply Bool.eq_iff_iff.mpr
  rw [anyI_iff, Bool.and_eq_true, decide_eq_true_eq, used_iff hin]
  constructor
  · rintro ⟨b, b0, b1, b2⟩
    rw [Bool.and_eq_true, decide_eq_true_eq, decide_eq_true_eq] at b2
    exact ⟨by omega, b, b0, b1, b2.2.symm⟩
  · rintro ⟨h, b, b0, b1, b2⟩
    exact ⟨b, b0, b1, by rw [Bool.and_eq_true, decide_eq_true_eq, decide_eq_true_eq]; omega⟩
theorem L_rud {d : Nat} {h : zH} {p : Pb} {q : Int → Int} (hd : 2 ≤ d) (V : PV p) (R : WR h p) (S : PlR h p q) (q0 : ∀ b, 0 ≤ q b) : ∀ (n : Nat) (e : Int), 0 ≤ e → e + n = pNb p → zS mX10_usedDays (zr d) 4 [zA 108, zI (udI p q e), zI e] [] TT h (zOne (udI p q (pNb p)) h) := by
  intro n
  induction n with
  | zero =>
    intro e a1 a2
    refine zS_iload_n (zdec eX10_usedDays 4 rfl) rfl ?_
    refine zS_aload_n (zdec eX10_usedDays 5 rfl) rfl rfl ?_
    refine zvI (M' := mX10_bills) (As := []) (st := [zI e]) (zdec eX10_usedDays 6 rfl) kM_X10_236 kV_X10_bills ⟨by decide, rfl⟩ rfl rfl rfl rfl rfl (by omega) (r_bills R) ?_
    refine zS_icmp_ge (tgt := 46) (zdec eX10_usedDays 7 rfl) rfl (fun cz => ?_) (fun cz => absurd (by omega) cz)
    refine zS_iload_n (zdec eX10_usedDays 28 rfl) rfl ?_
    exact zlI (zdec eX10_usedDays 29 rfl) rfl (by rw [show e = pNb p by omega])
  | succ n ih =>
    intro e a1 a2
    have nb := V.nb
    refine zS_iload_n (zdec eX10_usedDays 4 rfl) rfl ?_
    refine zS_aload_n (zdec eX10_usedDays 5 rfl) rfl rfl ?_
    refine zvI (M' := mX10_bills) (As := []) (st := [zI e]) (zdec eX10_usedDays 6 rfl) kM_X10_236 kV_X10_bills ⟨by decide, rfl⟩ rfl rfl rfl rfl rfl (by omega) (r_bills R) ?_
    refine zS_icmp_ge (tgt := 46) (zdec eX10_usedDays 7 rfl) rfl (fun cz => absurd cz (by omega)) (fun cz => ?_)
    refine zS_iload_n (zdec eX10_usedDays 8 rfl) rfl ?_
    refine zS_aload_n (zdec eX10_usedDays 9 rfl) rfl rfl ?_
    refine zS_getref (i := 69) (zdec eX10_usedDays 10 rfl) kF_X10_59 ⟨by decide, rfl⟩ rfl rfl rfl rfl rfl ?_
    refine zS_iload_n (zdec eX10_usedDays 11 rfl) rfl ?_
    refine zS_ialoadE (v := (q e)) (zdec eX10_usedDays 12 rfl) ⟨by decide, rfl⟩ (by omega) (by omega) (S e (by omega) (by omega)) ?_
    refine zS_aload_n (zdec eX10_usedDays 13 rfl) rfl rfl ?_
    refine zvI (M' := mX10_days) (As := []) (st := [zI (q e), zI (udI p q e)]) (zdec eX10_usedDays 14 rfl) kM_X10_240 kV_X10_days ⟨by decide, rfl⟩ rfl rfl rfl rfl rfl (by omega) (r_days R) ?_
    refine zS_icmp_ge (tgt := 37) (zdec eX10_usedDays 15 rfl) rfl (fun c1 => ?_) (fun c1 => ?_)
    · refine zS_iconst (zdec eX10_usedDays 23 rfl) rfl ?_
      refine zS_ior (zdec eX10_usedDays 24 rfl) ?_
      refine zS_istore_n (zdec eX10_usedDays 25 rfl) rfl ?_
      refine zS_iinc (zdec eX10_usedDays 26 rfl) rfl rfl ⟨by omega, by omega⟩ ?_
      refine zS_goto (tgt := 4) (zdec eX10_usedDays 27 rfl) rfl ?_
      have k := ih (e + 1) (by omega) (by omega)
      rw [udI_s _ _ a1, if_neg (by omega)] at k
      exact k
    · refine zS_iconst (zdec eX10_usedDays 16 rfl) rfl ?_
      refine zS_aload_n (zdec eX10_usedDays 17 rfl) rfl rfl ?_
      refine zS_getref (i := 69) (zdec eX10_usedDays 18 rfl) kF_X10_59 ⟨by decide, rfl⟩ rfl rfl rfl rfl rfl ?_
      refine zS_iload_n (zdec eX10_usedDays 19 rfl) rfl ?_
      refine zS_ialoadE (v := (q e)) (zdec eX10_usedDays 20 rfl) ⟨by decide, rfl⟩ (by omega) (by omega) (S e (by omega) (by omega)) ?_
      refine zS_ishl (zdec eX10_usedDays 21 rfl) ?_
      refine zS_goto (tgt := 38) (zdec eX10_usedDays 22 rfl) rfl ?_
      refine zS_ior (zdec eX10_usedDays 24 rfl) ?_
      refine zS_istore_n (zdec eX10_usedDays 25 rfl) rfl ?_
      refine zS_iinc (zdec eX10_usedDays 26 rfl) rfl rfl ⟨by omega, by omega⟩ ?_
      refine zS_goto (tgt := 4) (zdec eX10_usedDays 27 rfl) rfl ?_
      have k := ih (e + 1) (by omega) (by omega)
      rw [udI_s _ _ a1, if_pos (by omega)] at k
      exact k
theorem r_usedDays {d : Nat} {h : zH} {p : Pb} {q : Int → Int} (hd : 2 ≤ d) (V : PV p) (R : WR h p) (S : PlR h p q) (q0 : ∀ b, 0 ≤ q b) (hin : ∀ b, 0 ≤ b → b < pNb p → pIn p b = true) : zPI d mX10_usedDays [zA 108] h (bitsI (usedP p q) (pDays p)) := by
  have nb := V.nb
  rw [← ud_bits V hin q0]
  refine zmet rfl rfl rfl ?_
  refine zS_iconst (zdec eX10_usedDays 0 rfl) rfl ?_
  refine zS_istore_n (zdec eX10_usedDays 1 rfl) rfl ?_
  refine zS_iconst (zdec eX10_usedDays 2 rfl) rfl ?_
  refine zS_istore_n (zdec eX10_usedDays 3 rfl) rfl ?_
  exact L_rud hd V R S q0 (pNb p).toNat 0 (by omega) (by omega)
theorem L_rlast {d : Nat} {h5 : zH} {p : Pb} {e : Int} {Q : Option zV → zT → zH → Prop} (hd : 2 ≤ d) (V : PV p) (R5 : WR h5 p) (K : zS mX10_laysBatch (zr d) 101 [zA 108, zI (bwN p (pNb p).toNat), zI e, zI (bitsI (usedP p (preP p (pNb p) e)) (pDays p)), zI (totN p e), zI (btD p e), zI (pDays p)] [] TT h5 Q) : ∀ (n : Nat) (t : Int), 0 ≤ t → t + n = pDays p → zS mX10_laysBatch (zr d) 68 [zA 108, zI (bwN p (pNb p).toNat), zI e, zI (bitsI (usedP p (preP p (pNb p) e)) (pDays p)), zI (totN p e), zI (lsI (usedP p (preP p (pNb p) e)) t), zI t] [] TT h5 Q := by
  intro n
  induction n with
  | zero =>
    intro t t0 t1
    refine zS_iload (zdec eX10_laysBatch 37 rfl) rfl ?_
    refine zS_aload_n (zdec eX10_laysBatch 38 rfl) rfl rfl ?_
    refine zvI (M' := mX10_days) (As := []) (st := [zI t]) (zdec eX10_laysBatch 39 rfl) kM_X10_240 kV_X10_days ⟨by decide, rfl⟩ rfl rfl rfl rfl rfl (by omega) (r_days R5) ?_
    refine zS_icmp_ge (tgt := 101) (zdec eX10_laysBatch 40 rfl) rfl (fun cz => ?_) (fun cz => absurd (by omega) cz)
    rw [show t = pDays p by omega]
    exact K
  | succ n ih =>
    intro t t0 t1
    have dy := V.days
    have ub : bitB (bitsI (usedP p (preP p (pNb p) e)) (pDays p)) t = usedP p (preP p (pNb p) e) t := by rw [bitsI_bit (by omega) (by omega) t0 (by omega), decide_eq_true (by omega), Bool.true_and]
    refine zS_iload (zdec eX10_laysBatch 37 rfl) rfl ?_
    refine zS_aload_n (zdec eX10_laysBatch 38 rfl) rfl rfl ?_
    refine zvI (M' := mX10_days) (As := []) (st := [zI t]) (zdec eX10_laysBatch 39 rfl) kM_X10_240 kV_X10_days ⟨by decide, rfl⟩ rfl rfl rfl rfl rfl (by omega) (r_days R5) ?_
    refine zS_icmp_ge (tgt := 101) (zdec eX10_laysBatch 40 rfl) rfl (fun cz => absurd cz (by omega)) (fun cz => ?_)
    refine zS_iload_n (zdec eX10_laysBatch 41 rfl) rfl ?_
    refine zS_iload (zdec eX10_laysBatch 42 rfl) rfl ?_
    refine zsI (M' := mX10_isBit) (As := [zI (bitsI (usedP p (preP p (pNb p) e)) (pDays p)), zI t]) (st := []) (zdec eX10_laysBatch 43 rfl) kM_X10_264 kS_X10_isBit rfl rfl rfl (by omega) r_isBit ?_
    refine zS_if_eq (tgt := 91) (zdec eX10_laysBatch 44 rfl) rfl (fun c1 => ?_) (fun c1 => ?_)
    · have z1 := b2i_0.mp c1
      refine zS_iload (zdec eX10_laysBatch 47 rfl) rfl ?_
      refine zS_istore (zdec eX10_laysBatch 48 rfl) rfl ?_
      refine zS_iinc (zdec eX10_laysBatch 49 rfl) rfl rfl ⟨by omega, by omega⟩ ?_
      refine zS_goto (tgt := 68) (zdec eX10_laysBatch 50 rfl) rfl ?_
      have k := ih (t + 1) (by omega) (by omega)
      rw [lsI_s _ t0, if_neg (by rw [← ub, z1]; decide)] at k
      exact k
    · have z1 := b2i_n.mp c1
      refine zS_iload (zdec eX10_laysBatch 45 rfl) rfl ?_
      refine zS_goto (tgt := 93) (zdec eX10_laysBatch 46 rfl) rfl ?_
      refine zS_istore (zdec eX10_laysBatch 48 rfl) rfl ?_
      refine zS_iinc (zdec eX10_laysBatch 49 rfl) rfl rfl ⟨by omega, by omega⟩ ?_
      refine zS_goto (tgt := 68) (zdec eX10_laysBatch 50 rfl) rfl ?_
      have k := ih (t + 1) (by omega) (by omega)
      rw [lsI_s _ t0, if_pos (by rw [← ub]; exact z1)] at k
      exact k
theorem L_rbatch {d : Nat} {h : zH} {p : Pb} (hd : 12 ≤ d) (V : PV p) (hin : ∀ b, 0 ≤ b → b < pNb p → pIn p b = true) : ∀ (n : Nat) (e T x : Int) (h1 : zH), 0 ≤ e → e + n = bwN p (pNb p).toNat → WR h1 p → h1 108 37 = T → h1 108 38 = x → Fr (fun k j => (k = 108 ∧ ((23 ≤ j ∧ j ≤ 28) ∨ j = 37 ∨ j = 38)) ∨ (121 ≤ k ∧ k ≤ 124)) h h1 → btI p e T x → zS mX10_laysBatch (zr d) 23 [zA 108, zI (bwN p (pNb p).toNat), zI e, zN, zN, zN, zN] [] TT h1 (zAnV (fun h' => h' 108 37 = min (totalP p (fun _ => pDays p)) (mnI (loP p) (pDays p)) ∧ h' 108 38 = (slI (fun _ => true) (loP p) (totalP p (fun _ => pDays p) + 1) (pDays p)).1 ∧ Fr (fun k j => (k = 108 ∧ ((23 ≤ j ∧ j ≤ 28) ∨ j = 37 ∨ j = 38)) ∨ (121 ≤ k ∧ k ≤ 124)) h h')) := by
  intro n
  induction n with
  | zero =>
    intro e T x h1 a1 a2 R b37 b38 i1 bt
    refine zS_iload_n (zdec eX10_laysBatch 13 rfl) rfl ?_
    refine zS_iload_n (zdec eX10_laysBatch 14 rfl) rfl ?_
    refine zS_icmp_ge (tgt := 169) (zdec eX10_laysBatch 15 rfl) rfl (fun cz => ?_) (fun cz => absurd (by omega) cz)
    have be := bt_end V hin (show btI p (bwN p (pNb p).toNat) T x by rw [show bwN p (pNb p).toNat = e by omega]; exact bt)
    exact zlMV (zdec eX10_laysBatch 82 rfl) rfl ⟨b37.trans be.1, b38.trans be.2, i1⟩
  | succ n ih =>
    intro e T x h1 a1 a2 R b37 b38 i1 bt
    have nb := V.nb
    have bb := bwB V (k := pNb p) nb.1 (Int.le_refl _)
    refine zS_iload_n (zdec eX10_laysBatch 13 rfl) rfl ?_
    refine zS_iload_n (zdec eX10_laysBatch 14 rfl) rfl ?_
    refine zS_icmp_ge (tgt := 169) (zdec eX10_laysBatch 15 rfl) rfl (fun cz => absurd cz (by omega)) (fun cz => ?_)
    refine zS_aload_n (zdec eX10_laysBatch 16 rfl) rfl rfl ?_
    refine zS_iload_n (zdec eX10_laysBatch 17 rfl) rfl ?_
    refine zvMV (M' := mX10_laysNth) (As := [zI e]) (st := []) (zdec eX10_laysBatch 18 rfl) kM_X10_388 kV_X10_laysNth ⟨by decide, rfl⟩ rfl rfl rfl rfl rfl (by omega) (r_laysNth (by omega) V R a1 (by omega)) (fun h3 ⟨S3, g3⟩ => ?_)
    have R3 : WR h3 p := R.fr g3 (fun k j z => by unfold wrP; omega)
    have f3 : Fr (fun k j => (k = 108 ∧ ((23 ≤ j ∧ j ≤ 28) ∨ j = 37 ∨ j = 38)) ∨ (121 ≤ k ∧ k ≤ 124)) h h3 := i1.tr g3 (fun k j z => z) (fun k j z => by omega)
    have q0 : ∀ b, 0 ≤ (preP p (pNb p) e) b := fun b => (preP_rng V _ _ b).1
    have q1 : ∀ b, (preP p (pNb p) e) b ≤ pDays p := fun b => (preP_rng V _ _ b).2
    refine zS_aload_n (zdec eX10_laysBatch 19 rfl) rfl rfl ?_
    refine zvI (M' := mX10_usedDays) (As := []) (st := []) (zdec eX10_laysBatch 20 rfl) kM_X10_400 kV_X10_usedDays ⟨by decide, rfl⟩ rfl rfl rfl rfl rfl (by omega) (r_usedDays (by omega) V R3 S3 q0 hin) ?_
    refine zS_istore_n (zdec eX10_laysBatch 21 rfl) rfl ?_
    have dy := V.days
    have ur := bitsI_rng (f := usedP p (preP p (pNb p) e)) (k := pDays p) (by omega) (by omega)
    have hp2 : (2 : Int) ^ (pDays p).toNat ≤ 128 := by
      have : (2 : Nat) ^ (pDays p).toNat ≤ 2 ^ 7 := Nat.pow_le_pow_right (by decide) (by omega)
      exact_mod_cast this
    refine zS_iload_n (zdec eX10_laysBatch 22 rfl) rfl ?_
    refine zsI (M' := mX10_sizeOf) (As := [zI (bitsI (usedP p (preP p (pNb p) e)) (pDays p))]) (st := []) (zdec eX10_laysBatch 23 rfl) kM_X10_364 kS_X10_sizeOf rfl rfl rfl (by omega) (show zPI (d - 1) mX10_sizeOf [zI (bitsI (usedP p (preP p (pNb p) e)) (pDays p))] h3 (ctI (usedP p (preP p (pNb p) e)) (pDays p)) from by rw [← ct_bits (f := usedP p (preP p (pNb p) e)) (k := pDays p) (by omega) (by omega)]; exact r_sizeOf ur.1 (by omega)) ?_
    refine zS_iconst (zdec eX10_laysBatch 24 rfl) rfl ?_
    refine zS_icmp_gt (tgt := 163) (zdec eX10_laysBatch 25 rfl) rfl (fun c1 => ?_) (fun c1 => ?_)
    · refine zS_iinc (zdec eX10_laysBatch 80 rfl) rfl rfl ⟨by omega, by omega⟩ ?_
      refine zS_goto (tgt := 23) (zdec eX10_laysBatch 81 rfl) rfl ?_
      refine zS_forget (i := 3) ?_
      exact ih (e + 1) T x h3 (by omega) (by omega) R3 (by rw [g3 _ _ (by omega)]; exact b37) (by rw [g3 _ _ (by omega)]; exact b38) f3 (bt_keep a1 bt (fun z => by have := z.1; omega))
    · refine zS_aload_n (zdec eX10_laysBatch 26 rfl) rfl rfl ?_
      refine zvMI (M' := mX10_isLawful) (As := []) (st := []) (zdec eX10_laysBatch 27 rfl) kM_X10_376 kV_X10_isLawful ⟨by decide, rfl⟩ rfl rfl rfl rfl rfl (by omega) (r_isLawful (by omega) V R3 S3 hin q0 q1) (fun x5 h5 ⟨e5, g5⟩ => ?_)
      have R5 : WR h5 p := R3.fr g5 (fun k j z => by unfold wrP; omega)
      have f5 : Fr (fun k j => (k = 108 ∧ ((23 ≤ j ∧ j ≤ 28) ∨ j = 37 ∨ j = 38)) ∨ (121 ≤ k ∧ k ≤ 124)) h h5 := f3.tr g5 (fun k j z => z) (fun k j z => by omega)
      have S5 : PlR h5 p (preP p (pNb p) e) := S3.fr g5 (fun k j z => by omega)
      refine zS_if_ne (tgt := 56) (zdec eX10_laysBatch 28 rfl) rfl (fun c2 => ?_) (fun c2 => ?_)
      · refine zS_aload_n (zdec eX10_laysBatch 30 rfl) rfl rfl ?_
        refine zvI (M' := mX10_totalNow) (As := []) (st := []) (zdec eX10_laysBatch 31 rfl) kM_X10_358 kV_X10_totalNow ⟨by decide, rfl⟩ rfl rfl rfl rfl rfl (by omega) (show zPI (d - 1) mX10_totalNow [zA 108] h5 (totN p e) from r_totalNow (by omega) V R5 S5 q0 q1) ?_
        refine zS_istore (zdec eX10_laysBatch 32 rfl) rfl ?_
        refine zS_iconst (zdec eX10_laysBatch 33 rfl) rfl ?_
        refine zS_istore (zdec eX10_laysBatch 34 rfl) rfl ?_
        refine zS_iconst (zdec eX10_laysBatch 35 rfl) rfl ?_
        refine zS_istore (zdec eX10_laysBatch 36 rfl) rfl ?_
        refine L_rlast (by omega) V R5 ?_ (pDays p).toNat 0 (by omega) (by omega)
        refine zS_iload (zdec eX10_laysBatch 51 rfl) rfl ?_
        refine zS_aload_n (zdec eX10_laysBatch 52 rfl) rfl rfl ?_
        refine zS_getfieldE (x := 37) (v := T) (zdec eX10_laysBatch 53 rfl) kF_X10_394 ⟨by decide, rfl⟩ rfl rfl rfl ((g5 _ _ (by omega)).trans ((g3 _ _ (by omega)).trans b37)) ?_
        refine zS_icmp_ge (tgt := 125) (zdec eX10_laysBatch 54 rfl) rfl (fun k1 => ?_) (fun k1 => ?_)
        · refine zS_iload (zdec eX10_laysBatch 62 rfl) rfl ?_
          refine zS_aload_n (zdec eX10_laysBatch 63 rfl) rfl rfl ?_
          refine zS_getfieldE (x := 37) (v := T) (zdec eX10_laysBatch 64 rfl) kF_X10_394 ⟨by decide, rfl⟩ rfl rfl rfl ((g5 _ _ (by omega)).trans ((g3 _ _ (by omega)).trans b37)) ?_
          refine zS_icmp_ne (tgt := 163) (zdec eX10_laysBatch 65 rfl) rfl (fun k2 => ?_) (fun k2 => ?_)
          · refine zS_iinc (zdec eX10_laysBatch 80 rfl) rfl rfl ⟨by omega, by omega⟩ ?_
            refine zS_goto (tgt := 23) (zdec eX10_laysBatch 81 rfl) rfl ?_
            refine zS_forget (i := 3) ?_
            refine zS_forget (i := 4) ?_
            refine zS_forget (i := 5) ?_
            refine zS_forget (i := 6) ?_
            exact ih (e + 1) T x h5 (by omega) (by omega) R5 (by rw [g5 _ _ (by omega), g3 _ _ (by omega)]; exact b37) (by rw [g5 _ _ (by omega), g3 _ _ (by omega)]; exact b38) f5 (bt_keep a1 bt (fun _ => ⟨by omega, fun t => by omega⟩))
          · refine zS_iload (zdec eX10_laysBatch 66 rfl) rfl ?_
            refine zS_iconst (zdec eX10_laysBatch 67 rfl) rfl ?_
            refine zS_icmp_eq (tgt := 163) (zdec eX10_laysBatch 68 rfl) rfl (fun k3 => ?_) (fun k3 => ?_)
            · refine zS_iinc (zdec eX10_laysBatch 80 rfl) rfl rfl ⟨by omega, by omega⟩ ?_
              refine zS_goto (tgt := 23) (zdec eX10_laysBatch 81 rfl) rfl ?_
              refine zS_forget (i := 3) ?_
              refine zS_forget (i := 4) ?_
              refine zS_forget (i := 5) ?_
              refine zS_forget (i := 6) ?_
              exact ih (e + 1) T x h5 (by omega) (by omega) R5 (by rw [g5 _ _ (by omega), g3 _ _ (by omega)]; exact b37) (by rw [g5 _ _ (by omega), g3 _ _ (by omega)]; exact b38) f5 (bt_keep a1 bt (fun _ => ⟨by omega, fun t u => by omega⟩))
            · refine zS_aload_n (zdec eX10_laysBatch 69 rfl) rfl rfl ?_
              refine zS_getfieldE (x := 38) (v := x) (zdec eX10_laysBatch 70 rfl) kF_X10_397 ⟨by decide, rfl⟩ rfl rfl rfl ((g5 _ _ (by omega)).trans ((g3 _ _ (by omega)).trans b38)) ?_
              refine zS_iconst (zdec eX10_laysBatch 71 rfl) rfl ?_
              refine zS_icmp_eq (tgt := 157) (zdec eX10_laysBatch 72 rfl) rfl (fun k4 => ?_) (fun k4 => ?_)
              · refine zS_aload_n (zdec eX10_laysBatch 77 rfl) rfl rfl ?_
                refine zS_iload (zdec eX10_laysBatch 78 rfl) rfl ?_
                refine zS_putfield (x := 38) (zdec eX10_laysBatch 79 rfl) kF_X10_397 (Or.inl kf10_38) ⟨by decide, rfl⟩ rfl rfl rfl (Or.inl (fun q => by cases q)) ?_
                refine zS_iinc (zdec eX10_laysBatch 80 rfl) rfl rfl ⟨by omega, by omega⟩ ?_
                refine zS_goto (tgt := 23) (zdec eX10_laysBatch 81 rfl) rfl ?_
                refine zS_forget (i := 3) ?_
                refine zS_forget (i := 4) ?_
                refine zS_forget (i := 5) ?_
                refine zS_forget (i := 6) ?_
                have sn : btS p e := ⟨by omega, b2i_n.mp (by omega)⟩
                exact ih (e + 1) _ _ _ (by omega) (by omega) (R5.set (by unfold wrP; omega)) (by rw [zset_n (by omega), g5 _ _ (by omega), g3 _ _ (by omega)]; exact b37) (zset_s _ _ _ _) (f5.set (by omega)) (bt_same a1 bt sn (by omega) (by omega) (by omega))
              · refine zS_iload (zdec eX10_laysBatch 73 rfl) rfl ?_
                refine zS_aload_n (zdec eX10_laysBatch 74 rfl) rfl rfl ?_
                refine zS_getfieldE (x := 38) (v := x) (zdec eX10_laysBatch 75 rfl) kF_X10_397 ⟨by decide, rfl⟩ rfl rfl rfl ((g5 _ _ (by omega)).trans ((g3 _ _ (by omega)).trans b38)) ?_
                refine zS_icmp_ge (tgt := 163) (zdec eX10_laysBatch 76 rfl) rfl (fun k5 => ?_) (fun k5 => ?_)
                · refine zS_iinc (zdec eX10_laysBatch 80 rfl) rfl rfl ⟨by omega, by omega⟩ ?_
                  refine zS_goto (tgt := 23) (zdec eX10_laysBatch 81 rfl) rfl ?_
                  refine zS_forget (i := 3) ?_
                  refine zS_forget (i := 4) ?_
                  refine zS_forget (i := 5) ?_
                  refine zS_forget (i := 6) ?_
                  exact ih (e + 1) T x h5 (by omega) (by omega) R5 (by rw [g5 _ _ (by omega), g3 _ _ (by omega)]; exact b37) (by rw [g5 _ _ (by omega), g3 _ _ (by omega)]; exact b38) f5 (bt_keep a1 bt (fun _ => ⟨by omega, fun t u => ⟨by omega, by omega⟩⟩))
                · refine zS_aload_n (zdec eX10_laysBatch 77 rfl) rfl rfl ?_
                  refine zS_iload (zdec eX10_laysBatch 78 rfl) rfl ?_
                  refine zS_putfield (x := 38) (zdec eX10_laysBatch 79 rfl) kF_X10_397 (Or.inl kf10_38) ⟨by decide, rfl⟩ rfl rfl rfl (Or.inl (fun q => by cases q)) ?_
                  refine zS_iinc (zdec eX10_laysBatch 80 rfl) rfl rfl ⟨by omega, by omega⟩ ?_
                  refine zS_goto (tgt := 23) (zdec eX10_laysBatch 81 rfl) rfl ?_
                  refine zS_forget (i := 3) ?_
                  refine zS_forget (i := 4) ?_
                  refine zS_forget (i := 5) ?_
                  refine zS_forget (i := 6) ?_
                  have sn : btS p e := ⟨by omega, b2i_n.mp (by omega)⟩
                  exact ih (e + 1) _ _ _ (by omega) (by omega) (R5.set (by unfold wrP; omega)) (by rw [zset_n (by omega), g5 _ _ (by omega), g3 _ _ (by omega)]; exact b37) (zset_s _ _ _ _) (f5.set (by omega)) (bt_same a1 bt sn (by omega) (by omega) (by omega))
        · refine zS_aload_n (zdec eX10_laysBatch 55 rfl) rfl rfl ?_
          refine zS_iload (zdec eX10_laysBatch 56 rfl) rfl ?_
          refine zS_putfield (x := 37) (zdec eX10_laysBatch 57 rfl) kF_X10_394 (Or.inl kf10_37) ⟨by decide, rfl⟩ rfl rfl rfl (Or.inl (fun q => by cases q)) ?_
          refine zS_aload_n (zdec eX10_laysBatch 58 rfl) rfl rfl ?_
          refine zS_iload (zdec eX10_laysBatch 59 rfl) rfl ?_
          refine zS_putfield (x := 38) (zdec eX10_laysBatch 60 rfl) kF_X10_397 (Or.inl kf10_38) ⟨by decide, rfl⟩ rfl rfl rfl (Or.inl (fun q => by cases q)) ?_
          refine zS_goto (tgt := 163) (zdec eX10_laysBatch 61 rfl) rfl ?_
          refine zS_iinc (zdec eX10_laysBatch 80 rfl) rfl rfl ⟨by omega, by omega⟩ ?_
          refine zS_goto (tgt := 23) (zdec eX10_laysBatch 81 rfl) rfl ?_
          refine zS_forget (i := 3) ?_
          refine zS_forget (i := 4) ?_
          refine zS_forget (i := 5) ?_
          refine zS_forget (i := 6) ?_
          have sn : btS p e := ⟨by omega, b2i_n.mp (by omega)⟩
          exact ih (e + 1) _ _ _ (by omega) (by omega) ((R5.set (by unfold wrP; omega)).set (by unfold wrP; omega)) (by rw [zset_n (by omega), zset_s]) (zset_s _ _ _ _) ((f5.set (by omega)).set (by omega)) (bt_less a1 bt sn (by omega))
      · refine zS_goto (tgt := 163) (zdec eX10_laysBatch 29 rfl) rfl ?_
        refine zS_iinc (zdec eX10_laysBatch 80 rfl) rfl rfl ⟨by omega, by omega⟩ ?_
        refine zS_goto (tgt := 23) (zdec eX10_laysBatch 81 rfl) rfl ?_
        refine zS_forget (i := 3) ?_
        exact ih (e + 1) T x h5 (by omega) (by omega) R5 (by rw [g5 _ _ (by omega), g3 _ _ (by omega)]; exact b37) (by rw [g5 _ _ (by omega), g3 _ _ (by omega)]; exact b38) f5 (bt_keep a1 bt (fun z => by have := z.2; rw [show lawP p (preP p (pNb p) e) = false from b2i_0.mp (by omega)] at this; cases this))
theorem r_laysBatch {d : Nat} {h : zH} {D : Dk} {p : Pb} (hd : 12 ≤ d) (V : PV p) (hin : ∀ b, 0 ≤ b → b < pNb p → pIn p b = true) (hp : pb0 D = p) (VD : DV D) (hd0 : 0 < D 0 0) (RD : DR h 0 D) : zMV d mX10_laysBatch [zA 108] h (fun h' => h' 108 37 = min (totalP p (fun _ => pDays p)) (mnI (loP p) (pDays p)) ∧ h' 108 38 = (slI (fun _ => true) (loP p) (totalP p (fun _ => pDays p) + 1) (pDays p)).1 ∧ Fr (fun k j => (k = 108 ∧ ((23 ≤ j ∧ j ≤ 28) ∨ j = 37 ∨ j = 38)) ∨ (121 ≤ k ∧ k ≤ 124)) h h') := by
  have bp := bw_pos V (pNb p).toNat
  refine zmet rfl rfl rfl ?_
  refine zS_aload_n (zdec eX10_laysBatch 0 rfl) rfl rfl ?_
  refine zvMV (M' := mX10_lays) (As := []) (st := []) (zdec eX10_laysBatch 1 rfl) kM_X10_314 kV_X10_lays ⟨by decide, rfl⟩ rfl rfl rfl rfl rfl (by omega) (r_lays (by omega) VD hd0 RD) (fun h2 ⟨R, cl2, g2⟩ => ?_)
  rw [hp] at R
  refine zS_aload_n (zdec eX10_laysBatch 2 rfl) rfl rfl ?_
  refine zS_ldc_w (zdec eX10_laysBatch 3 rfl) kc_X10_310 rfl ?_
  refine zS_putfield (x := 37) (zdec eX10_laysBatch 4 rfl) kF_X10_394 (Or.inl kf10_37) ⟨by decide, rfl⟩ rfl rfl rfl (Or.inl (fun q => by cases q)) ?_
  refine zS_aload_n (zdec eX10_laysBatch 5 rfl) rfl rfl ?_
  refine zS_iconst (zdec eX10_laysBatch 6 rfl) rfl ?_
  refine zS_putfield (x := 38) (zdec eX10_laysBatch 7 rfl) kF_X10_397 (Or.inl kf10_38) ⟨by decide, rfl⟩ rfl rfl rfl (Or.inl (fun q => by cases q)) ?_
  refine zS_aload_n (zdec eX10_laysBatch 8 rfl) rfl rfl ?_
  refine zvI (M' := mX10_allPlans) (As := []) (st := []) (zdec eX10_laysBatch 9 rfl) kM_X10_385 kV_X10_allPlans ⟨by decide, rfl⟩ rfl rfl rfl rfl rfl (by omega) (r_allPlans (by omega) V ((R.set (by unfold wrP; omega)).set (by unfold wrP; omega))) ?_
  refine zS_istore_n (zdec eX10_laysBatch 10 rfl) rfl ?_
  refine zS_iconst (zdec eX10_laysBatch 11 rfl) rfl ?_
  refine zS_istore_n (zdec eX10_laysBatch 12 rfl) rfl ?_
  exact L_rbatch hd V hin (bwN p (pNb p).toNat).toNat 0 100000000 (-1) _ (by omega) (by omega) ((R.set (by unfold wrP; omega)).set (by unfold wrP; omega)) (by rw [zset_n (by omega), zset_s]) (zset_s _ _ _ _) (((g2.mono (fun k j z => by omega)).set (by omega)).set (by omega)) ⟨fun i a b => by omega, Or.inl rfl, fun _ i a b => by omega, fun z => absurd rfl z⟩
theorem q_batch {d : Nat} {h : zH} {D : Dk} (hd : 200 ≤ d) (VD : DV D) (RD : DR h 0 D) : zMI d mX10_batch [zA 108] h (fun r h' => r = a_batch D ∧ Fr sQR h h') := by
  obtain ⟨p, hp⟩ : ∃ p, pb0 D = p := ⟨_, rfl⟩
  obtain ⟨q, hq⟩ : ∃ q, planP p = q := ⟨_, rfl⟩
  have pd : pDays p = D 0 1 := by rw [← hp]; rfl
  have pn : pNb p = D 0 8 := by rw [← hp]; rfl
  have dy := VD.days
  have nb := VD.nb
  have ns := VD.ns
  have nl := VD.nl
  have na := VD.na
  have vfl := VD.fl
  have vfe := VD.fee
  have hin : ∀ b, 0 ≤ b → b < pNb p → pIn p b = true := fun b _ _ => by rw [← hp]; rfl
  refine zmet rfl rfl rfl ?_
  refine zS_aload_n (zdec eX10_batch 0 rfl) rfl rfl ?_
  refine zS_iconst (zdec eX10_batch 1 rfl) rfl ?_
  refine zS_putfield (x := 0) (zdec eX10_batch 2 rfl) kF_X10_71 (Or.inl kf10_0) ⟨by decide, rfl⟩ rfl rfl rfl (Or.inl (fun q => by cases q)) ?_
  obtain ⟨h0, E0⟩ : ∃ x, x = zset h 108 0 0 := ⟨_, rfl⟩
  rw [show zset h 108 0 (0 : Int) = h0 from E0.symm]
  have f0 : Fr sQR h h0 := by rw [E0]; exact Fr.rf.set (by omega)
  have RD0 : DR h0 0 D := RD.fr f0 (fun k j z => by omega)
  refine zS_aload_n (zdec eX10_batch 3 rfl) rfl rfl ?_
  refine zvI (M' := mX10_isDesk) (As := []) (st := []) (zdec eX10_batch 4 rfl) kM_X10_332 kV_X10_isDesk ⟨by decide, rfl⟩ rfl rfl rfl rfl rfl (by omega) (d_isDesk VD RD0) ?_
  refine zS_if_ne (tgt := 15) (zdec eX10_batch 5 rfl) rfl (fun c1 => ?_) (fun c1 => ?_)
  · have z1 := d2i_n.mp c1
    refine zS_aload_n (zdec eX10_batch 8 rfl) rfl rfl ?_
    have hd0 : 0 < D 0 0 := by first | omega
    have V : PV p := by rw [← hp]; exact pb0_V VD hd0
    refine zvMV (M' := mX10_laysBatch) (As := []) (st := []) (zdec eX10_batch 9 rfl) kM_X10_403 kV_X10_laysBatch ⟨by decide, rfl⟩ rfl rfl rfl rfl rfl (by omega) (r_laysBatch (by omega) V hin hp VD hd0 RD0) (fun h3 ⟨b37, b38, g3⟩ => ?_)
    have f3 : Fr sQR h h3 := f0.tr g3 (fun k j z => z) (fun k j z => by omega)
    refine zS_aload_n (zdec eX10_batch 10 rfl) rfl rfl ?_
    refine zS_getfieldE (x := 37) (v := (min (totalP p (fun _ => pDays p)) (mnI (loP p) (pDays p)))) (zdec eX10_batch 11 rfl) kF_X10_394 ⟨by decide, rfl⟩ rfl rfl rfl b37 ?_
    exact zlMI (zdec eX10_batch 12 rfl) rfl ⟨by unfold a_batch; rw [hp, if_pos (by omega), pd], f3⟩
  · have z1 := d2i_0.mp c1
    refine zS_bipush (zdec eX10_batch 6 rfl) rfl rfl ?_
    exact zlMI (zdec eX10_batch 7 rfl) rfl ⟨by unfold a_batch; rw [if_neg (by omega)], f0⟩
theorem q_when {d : Nat} {h : zH} {D : Dk} (hd : 200 ≤ d) (VD : DV D) (RD : DR h 0 D) : zMI d mX10_when [zA 108] h (fun r h' => r = a_when D ∧ Fr sQR h h') := by
  obtain ⟨p, hp⟩ : ∃ p, pb0 D = p := ⟨_, rfl⟩
  obtain ⟨q, hq⟩ : ∃ q, planP p = q := ⟨_, rfl⟩
  have pd : pDays p = D 0 1 := by rw [← hp]; rfl
  have pn : pNb p = D 0 8 := by rw [← hp]; rfl
  have dy := VD.days
  have nb := VD.nb
  have ns := VD.ns
  have nl := VD.nl
  have na := VD.na
  have vfl := VD.fl
  have vfe := VD.fee
  have hin : ∀ b, 0 ≤ b → b < pNb p → pIn p b = true := fun b _ _ => by rw [← hp]; rfl
  refine zmet rfl rfl rfl ?_
  refine zS_aload_n (zdec eX10_when 0 rfl) rfl rfl ?_
  refine zS_iconst (zdec eX10_when 1 rfl) rfl ?_
  refine zS_putfield (x := 0) (zdec eX10_when 2 rfl) kF_X10_71 (Or.inl kf10_0) ⟨by decide, rfl⟩ rfl rfl rfl (Or.inl (fun q => by cases q)) ?_
  obtain ⟨h0, E0⟩ : ∃ x, x = zset h 108 0 0 := ⟨_, rfl⟩
  rw [show zset h 108 0 (0 : Int) = h0 from E0.symm]
  have f0 : Fr sQR h h0 := by rw [E0]; exact Fr.rf.set (by omega)
  have RD0 : DR h0 0 D := RD.fr f0 (fun k j z => by omega)
  refine zS_aload_n (zdec eX10_when 3 rfl) rfl rfl ?_
  refine zvI (M' := mX10_isDesk) (As := []) (st := []) (zdec eX10_when 4 rfl) kM_X10_332 kV_X10_isDesk ⟨by decide, rfl⟩ rfl rfl rfl rfl rfl (by omega) (d_isDesk VD RD0) ?_
  refine zS_if_ne (tgt := 15) (zdec eX10_when 5 rfl) rfl (fun c1 => ?_) (fun c1 => ?_)
  · have z1 := d2i_n.mp c1
    refine zS_aload_n (zdec eX10_when 8 rfl) rfl rfl ?_
    have hd0 : 0 < D 0 0 := by first | omega
    have V : PV p := by rw [← hp]; exact pb0_V VD hd0
    refine zvMV (M' := mX10_laysBatch) (As := []) (st := []) (zdec eX10_when 9 rfl) kM_X10_403 kV_X10_laysBatch ⟨by decide, rfl⟩ rfl rfl rfl rfl rfl (by omega) (r_laysBatch (by omega) V hin hp VD hd0 RD0) (fun h3 ⟨b37, b38, g3⟩ => ?_)
    have f3 : Fr sQR h h3 := f0.tr g3 (fun k j z => z) (fun k j z => by omega)
    refine zS_aload_n (zdec eX10_when 10 rfl) rfl rfl ?_
    refine zS_getfieldE (x := 38) (v := ((slI (fun _ => true) (loP p) (totalP p (fun _ => pDays p) + 1) (pDays p)).1)) (zdec eX10_when 11 rfl) kF_X10_397 ⟨by decide, rfl⟩ rfl rfl rfl b38 ?_
    exact zlMI (zdec eX10_when 12 rfl) rfl ⟨by unfold a_when; rw [hp, if_pos (by omega), pd], f3⟩
  · have z1 := d2i_0.mp c1
    refine zS_bipush (zdec eX10_when 6 rfl) rfl rfl ?_
    exact zlMI (zdec eX10_when 7 rfl) rfl ⟨by unfold a_when; rw [if_neg (by omega)], f0⟩

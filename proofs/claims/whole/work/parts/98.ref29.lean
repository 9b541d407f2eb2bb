def br0 (B : Int → Int) (L : Int) (P : Tp) (D : Dk) : Int := nvR (twP B L (bl0 B L P D) 10) 0 (D 0 7 - 1)
def br1 (B : Int → Int) (L : Int) (P : Tp) (D : Dk) : Int := nvR (twP B L (bl1 B L P D) 11) 1 3000
def br2 (B : Int → Int) (L : Int) (P : Tp) (D : Dk) : Int := nvR (twP B L (bl2 B L P D) 12) 0 20
def br3 (B : Int → Int) (L : Int) (P : Tp) (D : Dk) : Int := nvR (twP B L (bl3 B L P D) 13) 0 6
def br4 (B : Int → Int) (L : Int) (P : Tp) (D : Dk) : Int := nvR (twP B L (bl4 B L P D) 14) 0 6
def br5 (B : Int → Int) (L : Int) (P : Tp) (D : Dk) : Int := nvR (twP B L (bl5 B L P D) 15) 0 99
def br6 (B : Int → Int) (L : Int) (P : Tp) (D : Dk) : Int := if (decide (bl6 B L P D 3 = 0) && isW B (bl6 B L P D) 16) = true then nvR (twP B L (bl6 B L P D) 16) 0 (br1 B L P D) else 0
def brF (B : Int → Int) (L : Int) (P : Tp) (D : Dk) : Int → Int := fun w => if w = 0 then br0 B L P D else if w = 1 then br1 B L P D else if w = 2 then br2 B L P D else if w = 3 then br3 B L P D else if w = 4 then br4 B L P D else if w = 5 then br5 B L P D else br6 B L P D
theorem b6_ok {B : Int → Int} {L : Int} {P : Tp} {D : Dk} (h : bl6 B L P D 3 = 0) : (br0 B L P D = bv0 B L P D ∧ br1 B L P D = bv1 B L P D ∧ br2 B L P D = bv2 B L P D ∧ br3 B L P D = bv3 B L P D ∧ br4 B L P D = bv4 B L P D ∧ br5 B L P D = bv5 B L P D) := by
  have k5 := tf_ok (P := bl5 B L P D) h
  have k4 := tf_ok (P := bl4 B L P D) k5.1
  have k3 := tf_ok (P := bl3 B L P D) k4.1
  have k2 := tf_ok (P := bl2 B L P D) k3.1
  have k1 := tf_ok (P := bl1 B L P D) k2.1
  have k0 := tf_ok (P := bl0 B L P D) k1.1
  exact ⟨k0.2.1, k1.2.1, k2.2.1, k3.2.1, k4.2.1, k5.2.1⟩
theorem tf_f {B : Int → Int} {L i lo hi : Int} {P : Tp} (h : P 3 ≠ 0) : tfP B L P i lo hi = P := by
  unfold tfP tnP
  have e : twP B L P i = P := by rw [twP_n (by rw [decide_eq_false h, Bool.false_and]), rfu_f h]
  rw [e, tnQ_f h, nxP_f h]
theorem blP_n {B : Int → Int} {L : Int} {P : Tp} {D : Dk} (h : (decide (bl6 B L P D 3 = 0) && isW B (bl6 B L P D) 16) = false) : blP B L P D = bl6 B L P D := by
  unfold blP
  by_cases c : bl6 B L P D 3 = 0
  · rw [decide_eq_true c, Bool.true_and] at h
    rw [if_neg (by rw [h]; decide)]
  · split
    · exact tf_f c
    · rfl
theorem blP_y {B : Int → Int} {L : Int} {P : Tp} {D : Dk} (h : (decide (bl6 B L P D 3 = 0) && isW B (bl6 B L P D) 16) = true) : blP B L P D = tfP B L (bl6 B L P D) 16 0 (br1 B L P D) := by
  rw [Bool.and_eq_true, decide_eq_true_eq] at h
  unfold blP
  rw [if_pos h.2, (b6_ok h.1).2.1]
theorem bl_ok {B : Int → Int} {L : Int} {P : Tp} {D : Dk} (h : blP B L P D 3 = 0) : (∀ w, 0 ≤ w → w < 7 → brF B L P D w = bvF B L P D w) ∧ bl6 B L P D 3 = 0 := by
  have k : bl6 B L P D 3 = 0 ∧ br6 B L P D = bv6 B L P D := by
    by_cases c : (decide (bl6 B L P D 3 = 0) && isW B (bl6 B L P D) 16) = true
    · have c' := c
      rw [Bool.and_eq_true, decide_eq_true_eq] at c'
      have q := h
      rw [blP_y c] at q
      have z := tf_ok q
      refine ⟨c'.1, ?_⟩
      unfold br6 bv6
      rw [if_pos c, if_pos c'.2, ← (b6_ok c'.1).2.1]
      exact z.2.1
    · have c1 := Bool.eq_false_iff.mpr c
      have q := h
      rw [blP_n c1] at q
      refine ⟨q, ?_⟩
      unfold br6 bv6
      rw [decide_eq_true q, Bool.true_and] at c1
      rw [if_neg c, if_neg (by rw [c1]; decide)]
  obtain ⟨k6, kv⟩ := k
  obtain ⟨a0, a1, a2, a3, a4, a5⟩ := b6_ok k6
  refine ⟨fun w w0 w1 => ?_, k6⟩
  unfold brF bvF
  rw [a0, a1, a2, a3, a4, a5, kv]
theorem br1_b {B : Int → Int} {L : Int} {P : Tp} {D : Dk} : br1 B L P D ≤ 3000 := by
  unfold br1 nvR
  split
  · rename_i q
    have z := tn_ok (B := B) (L := L) (P := twP B L (bl1 B L P D) 11) (lo := 1) (hi := 3000) ((nxP_3 B L _).trans q)
    have e : tnV (twP B L (bl1 B L P D) 11) 1 3000 = twP B L (bl1 B L P D) 11 8 := by unfold tnV; rw [if_pos q]
    omega
  · omega
theorem r_billLine {d : Nat} {h : zH} {B : Int → Int} {L : Int} {P : Tp} {D : Dk} (hd : 8 ≤ d) (V : TV L P) (R0 : PR h B L (bl0 B L P D)) (c : CT D) (m1 : D 0 8 < 5) (h7 : h 115 46 = D 0 7) (h8 : h 115 47 = D 0 8) : zMV d mX10_billLine [zA 108] h (fun h' => PR h' B L (blP B L P D) ∧ (∀ w, 0 ≤ w → w < 7 → h' 117 (7 * (20 + D 0 8) + w) = brF B L P D w) ∧ h' 115 47 = D 0 8 + 1 ∧ Fr (fun k j => sPR k j ∨ (k = 117 ∧ 7 * (20 + D 0 8) ≤ j ∧ j < 7 * (20 + D 0 8) + 7) ∨ (k = 115 ∧ j = 47)) h h') := by
  have c7 := c.1
  have c8 := c.2.1
  have vd := V.bl B D
  refine zmet rfl rfl rfl ?_
  refine zS_bipush (zdec eX10_billLine 0 rfl) rfl rfl ?_
  refine zS_bipush (zdec eX10_billLine 1 rfl) rfl rfl ?_
  refine zS_aload_n (zdec eX10_billLine 2 rfl) rfl rfl ?_
  refine zS_bipush (zdec eX10_billLine 3 rfl) rfl rfl ?_
  refine zvI (M' := mX10_hasRead) (As := [zI 7]) (st := [zI 20, zI 7]) (zdec eX10_billLine 4 rfl) kM_X10_153 kV_X10_hasRead ⟨by decide, rfl⟩ rfl rfl rfl rfl rfl (by omega) (r_hasRead (x := 7) (v := D 0 8) (by omega) (by omega) h8) ?_
  refine zS_iadd (zdec eX10_billLine 5 rfl) ⟨by omega, by omega⟩ ?_
  refine zS_imul (zdec eX10_billLine 6 rfl) ⟨by omega, by omega⟩ ?_
  refine zS_istore_n (zdec eX10_billLine 7 rfl) rfl ?_
  refine zS_aload_n (zdec eX10_billLine 8 rfl) rfl rfl ?_
  refine zS_getref (i := 63) (zdec eX10_billLine 9 rfl) kF_X10_40 ⟨by decide, rfl⟩ rfl rfl rfl rfl rfl ?_
  refine zS_iload_n (zdec eX10_billLine 10 rfl) rfl ?_
  refine zS_aload_n (zdec eX10_billLine 11 rfl) rfl rfl ?_
  refine zS_ldc2_w (zdec eX10_billLine 12 rfl) kj_X10_157 rfl ?_
  refine zS_iconst (zdec eX10_billLine 13 rfl) rfl ?_
  refine zS_aload_n (zdec eX10_billLine 14 rfl) rfl rfl ?_
  refine zS_bipush (zdec eX10_billLine 15 rfl) rfl rfl ?_
  refine zvI (M' := mX10_hasRead) (As := [zI 6]) (st := [zI 0, zJ 411, zA 108, zI (7 * (20 + (D 0 8))), zA 117]) (zdec eX10_billLine 16 rfl) kM_X10_153 kV_X10_hasRead ⟨by decide, rfl⟩ rfl rfl rfl rfl rfl (by omega) (r_hasRead (x := 6) (v := D 0 7) (by omega) (by omega) h7) ?_
  refine zS_iconst (zdec eX10_billLine 17 rfl) rfl ?_
  refine zS_isub (zdec eX10_billLine 18 rfl) ⟨by omega, by omega⟩ ?_
  refine zvMI (M' := mX10_number_) (As := [zJ 411, zI 0, zI ((D 0 7) - 1)]) (st := [zI (7 * (20 + (D 0 8))), zA 117]) (zdec eX10_billLine 19 rfl) kM_X10_159 kV_X10_number_ ⟨by decide, rfl⟩ rfl rfl rfl rfl rfl (by omega) (r_number_ (i := 10) (by omega) (by omega) (by omega) (by omega) (by omega) wk_10 vd.1 R0) (fun y0 t0 ⟨e0, R0', f0⟩ => ?_)
  rw [show y0 = br0 B L P D from e0]
  refine zS_iastore (zdec eX10_billLine 20 rfl) ⟨by decide, rfl⟩ (by omega) (by omega) ?_
  obtain ⟨s0, E0⟩ : ∃ x, x = zset t0 117 (7 * (20 + D 0 8)) (br0 B L P D) := ⟨_, rfl⟩
  rw [show zset t0 117 (7 * (20 + D 0 8)) (br0 B L P D) = s0 from E0.symm]
  have F0 : Fr (fun k j => sPR k j ∨ (k = 117 ∧ 7 * (20 + D 0 8) ≤ j ∧ j < 7 * (20 + D 0 8) + 7)) h s0 := by rw [E0]; exact ((Fr.rf (S := (fun k j => sPR k j ∨ (k = 117 ∧ 7 * (20 + D 0 8) ≤ j ∧ j < 7 * (20 + D 0 8) + 7)))).tr f0 (S'' := (fun k j => sPR k j ∨ (k = 117 ∧ 7 * (20 + D 0 8) ≤ j ∧ j < 7 * (20 + D 0 8) + 7))) (fun k j z => z) (fun k j z => Or.inl z)).set (by omega)
  have S0 : PR s0 B L (bl1 B L P D) := by rw [E0]; exact PR.of R0' (fun k j z => zset_n (by omega))
  have U0 : ∀ w, 0 ≤ w → w < 1 → s0 117 (7 * (20 + D 0 8) + w) = brF B L P D w := fun w w0 w1 => by
    rw [E0]
    by_cases u : w = 0
    · subst u; rw [zset_e rfl (by omega)]; rfl
    · rw [zset_n (by omega), f0 _ _ (by omega)]; exact absurd (by omega) u
  refine zS_aload_n (zdec eX10_billLine 21 rfl) rfl rfl ?_
  refine zS_getref (i := 63) (zdec eX10_billLine 22 rfl) kF_X10_40 ⟨by decide, rfl⟩ rfl rfl rfl rfl rfl ?_
  refine zS_iload_n (zdec eX10_billLine 23 rfl) rfl ?_
  refine zS_iconst (zdec eX10_billLine 24 rfl) rfl ?_
  refine zS_iadd (zdec eX10_billLine 25 rfl) ⟨by omega, by omega⟩ ?_
  refine zS_aload_n (zdec eX10_billLine 26 rfl) rfl rfl ?_
  refine zS_ldc2_w (zdec eX10_billLine 27 rfl) kj_X10_162 rfl ?_
  refine zS_iconst (zdec eX10_billLine 28 rfl) rfl ?_
  refine zS_sipush (zdec eX10_billLine 29 rfl) rfl rfl ?_
  refine zvMI (M' := mX10_number_) (As := [zJ 14431, zI 1, zI 3000]) (st := [zI ((7 * (20 + (D 0 8))) + 1), zA 117]) (zdec eX10_billLine 30 rfl) kM_X10_159 kV_X10_number_ ⟨by decide, rfl⟩ rfl rfl rfl rfl rfl (by omega) (r_number_ (i := 11) (by omega) (by omega) (by omega) (by omega) (by omega) wk_11 vd.2.1 S0) (fun y1 t1 ⟨e1, R1', f1⟩ => ?_)
  rw [show y1 = br1 B L P D from e1]
  refine zS_iastore (zdec eX10_billLine 31 rfl) ⟨by decide, rfl⟩ (by omega) (by omega) ?_
  obtain ⟨s1, E1⟩ : ∃ x, x = zset t1 117 (7 * (20 + D 0 8) + 1) (br1 B L P D) := ⟨_, rfl⟩
  rw [show zset t1 117 (7 * (20 + D 0 8) + 1) (br1 B L P D) = s1 from E1.symm]
  have F1 : Fr (fun k j => sPR k j ∨ (k = 117 ∧ 7 * (20 + D 0 8) ≤ j ∧ j < 7 * (20 + D 0 8) + 7)) h s1 := by rw [E1]; exact (F0.tr f1 (S'' := (fun k j => sPR k j ∨ (k = 117 ∧ 7 * (20 + D 0 8) ≤ j ∧ j < 7 * (20 + D 0 8) + 7))) (fun k j z => z) (fun k j z => Or.inl z)).set (by omega)
  have S1 : PR s1 B L (bl2 B L P D) := by rw [E1]; exact PR.of R1' (fun k j z => zset_n (by omega))
  have U1 : ∀ w, 0 ≤ w → w < 2 → s1 117 (7 * (20 + D 0 8) + w) = brF B L P D w := fun w w0 w1 => by
    rw [E1]
    by_cases u : w = 1
    · subst u; rw [zset_e rfl (by omega)]; rfl
    · rw [zset_n (by omega), f1 _ _ (by omega)]; exact U0 w w0 (by omega)
  refine zS_aload_n (zdec eX10_billLine 32 rfl) rfl rfl ?_
  refine zS_getref (i := 63) (zdec eX10_billLine 33 rfl) kF_X10_40 ⟨by decide, rfl⟩ rfl rfl rfl rfl rfl ?_
  refine zS_iload_n (zdec eX10_billLine 34 rfl) rfl ?_
  refine zS_iconst (zdec eX10_billLine 35 rfl) rfl ?_
  refine zS_iadd (zdec eX10_billLine 36 rfl) ⟨by omega, by omega⟩ ?_
  refine zS_aload_n (zdec eX10_billLine 37 rfl) rfl rfl ?_
  refine zS_ldc2_w (zdec eX10_billLine 38 rfl) kj_X10_164 rfl ?_
  refine zS_iconst (zdec eX10_billLine 39 rfl) rfl ?_
  refine zS_bipush (zdec eX10_billLine 40 rfl) rfl rfl ?_
  refine zvMI (M' := mX10_number_) (As := [zJ 11103, zI 0, zI 20]) (st := [zI ((7 * (20 + (D 0 8))) + 2), zA 117]) (zdec eX10_billLine 41 rfl) kM_X10_159 kV_X10_number_ ⟨by decide, rfl⟩ rfl rfl rfl rfl rfl (by omega) (r_number_ (i := 12) (by omega) (by omega) (by omega) (by omega) (by omega) wk_12 vd.2.2.1 S1) (fun y2 t2 ⟨e2, R2', f2⟩ => ?_)
  rw [show y2 = br2 B L P D from e2]
  refine zS_iastore (zdec eX10_billLine 42 rfl) ⟨by decide, rfl⟩ (by omega) (by omega) ?_
  obtain ⟨s2, E2⟩ : ∃ x, x = zset t2 117 (7 * (20 + D 0 8) + 2) (br2 B L P D) := ⟨_, rfl⟩
  rw [show zset t2 117 (7 * (20 + D 0 8) + 2) (br2 B L P D) = s2 from E2.symm]
  have F2 : Fr (fun k j => sPR k j ∨ (k = 117 ∧ 7 * (20 + D 0 8) ≤ j ∧ j < 7 * (20 + D 0 8) + 7)) h s2 := by rw [E2]; exact (F1.tr f2 (S'' := (fun k j => sPR k j ∨ (k = 117 ∧ 7 * (20 + D 0 8) ≤ j ∧ j < 7 * (20 + D 0 8) + 7))) (fun k j z => z) (fun k j z => Or.inl z)).set (by omega)
  have S2 : PR s2 B L (bl3 B L P D) := by rw [E2]; exact PR.of R2' (fun k j z => zset_n (by omega))
  have U2 : ∀ w, 0 ≤ w → w < 3 → s2 117 (7 * (20 + D 0 8) + w) = brF B L P D w := fun w w0 w1 => by
    rw [E2]
    by_cases u : w = 2
    · subst u; rw [zset_e rfl (by omega)]; rfl
    · rw [zset_n (by omega), f2 _ _ (by omega)]; exact U1 w w0 (by omega)
  refine zS_aload_n (zdec eX10_billLine 43 rfl) rfl rfl ?_
  refine zS_getref (i := 63) (zdec eX10_billLine 44 rfl) kF_X10_40 ⟨by decide, rfl⟩ rfl rfl rfl rfl rfl ?_
  refine zS_iload_n (zdec eX10_billLine 45 rfl) rfl ?_
  refine zS_iconst (zdec eX10_billLine 46 rfl) rfl ?_
  refine zS_iadd (zdec eX10_billLine 47 rfl) ⟨by omega, by omega⟩ ?_
  refine zS_aload_n (zdec eX10_billLine 48 rfl) rfl rfl ?_
  refine zS_ldc2_w (zdec eX10_billLine 49 rfl) kj_X10_166 rfl ?_
  refine zS_iconst (zdec eX10_billLine 50 rfl) rfl ?_
  refine zS_bipush (zdec eX10_billLine 51 rfl) rfl rfl ?_
  refine zvMI (M' := mX10_number_) (As := [zJ 79, zI 0, zI 6]) (st := [zI ((7 * (20 + (D 0 8))) + 3), zA 117]) (zdec eX10_billLine 52 rfl) kM_X10_159 kV_X10_number_ ⟨by decide, rfl⟩ rfl rfl rfl rfl rfl (by omega) (r_number_ (i := 13) (by omega) (by omega) (by omega) (by omega) (by omega) wk_13 vd.2.2.2.1 S2) (fun y3 t3 ⟨e3, R3', f3⟩ => ?_)
  rw [show y3 = br3 B L P D from e3]
  refine zS_iastore (zdec eX10_billLine 53 rfl) ⟨by decide, rfl⟩ (by omega) (by omega) ?_
  obtain ⟨s3, E3⟩ : ∃ x, x = zset t3 117 (7 * (20 + D 0 8) + 3) (br3 B L P D) := ⟨_, rfl⟩
  rw [show zset t3 117 (7 * (20 + D 0 8) + 3) (br3 B L P D) = s3 from E3.symm]
  have F3 : Fr (fun k j => sPR k j ∨ (k = 117 ∧ 7 * (20 + D 0 8) ≤ j ∧ j < 7 * (20 + D 0 8) + 7)) h s3 := by rw [E3]; exact (F2.tr f3 (S'' := (fun k j => sPR k j ∨ (k = 117 ∧ 7 * (20 + D 0 8) ≤ j ∧ j < 7 * (20 + D 0 8) + 7))) (fun k j z => z) (fun k j z => Or.inl z)).set (by omega)
  have S3 : PR s3 B L (bl4 B L P D) := by rw [E3]; exact PR.of R3' (fun k j z => zset_n (by omega))
  have U3 : ∀ w, 0 ≤ w → w < 4 → s3 117 (7 * (20 + D 0 8) + w) = brF B L P D w := fun w w0 w1 => by
    rw [E3]
    by_cases u : w = 3
    · subst u; rw [zset_e rfl (by omega)]; rfl
    · rw [zset_n (by omega), f3 _ _ (by omega)]; exact U2 w w0 (by omega)
  refine zS_aload_n (zdec eX10_billLine 54 rfl) rfl rfl ?_
  refine zS_getref (i := 63) (zdec eX10_billLine 55 rfl) kF_X10_40 ⟨by decide, rfl⟩ rfl rfl rfl rfl rfl ?_
  refine zS_iload_n (zdec eX10_billLine 56 rfl) rfl ?_
  refine zS_iconst (zdec eX10_billLine 57 rfl) rfl ?_
  refine zS_iadd (zdec eX10_billLine 58 rfl) ⟨by omega, by omega⟩ ?_
  refine zS_aload_n (zdec eX10_billLine 59 rfl) rfl rfl ?_
  refine zS_ldc2_w (zdec eX10_billLine 60 rfl) kj_X10_168 rfl ?_
  refine zS_iconst (zdec eX10_billLine 61 rfl) rfl ?_
  refine zS_bipush (zdec eX10_billLine 62 rfl) rfl rfl ?_
  refine zvMI (M' := mX10_number_) (As := [zJ 3488, zI 0, zI 6]) (st := [zI ((7 * (20 + (D 0 8))) + 4), zA 117]) (zdec eX10_billLine 63 rfl) kM_X10_159 kV_X10_number_ ⟨by decide, rfl⟩ rfl rfl rfl rfl rfl (by omega) (r_number_ (i := 14) (by omega) (by omega) (by omega) (by omega) (by omega) wk_14 vd.2.2.2.2.1 S3) (fun y4 t4 ⟨e4, R4', f4⟩ => ?_)
  rw [show y4 = br4 B L P D from e4]
  refine zS_iastore (zdec eX10_billLine 64 rfl) ⟨by decide, rfl⟩ (by omega) (by omega) ?_
  obtain ⟨s4, E4⟩ : ∃ x, x = zset t4 117 (7 * (20 + D 0 8) + 4) (br4 B L P D) := ⟨_, rfl⟩
  rw [show zset t4 117 (7 * (20 + D 0 8) + 4) (br4 B L P D) = s4 from E4.symm]
  have F4 : Fr (fun k j => sPR k j ∨ (k = 117 ∧ 7 * (20 + D 0 8) ≤ j ∧ j < 7 * (20 + D 0 8) + 7)) h s4 := by rw [E4]; exact (F3.tr f4 (S'' := (fun k j => sPR k j ∨ (k = 117 ∧ 7 * (20 + D 0 8) ≤ j ∧ j < 7 * (20 + D 0 8) + 7))) (fun k j z => z) (fun k j z => Or.inl z)).set (by omega)
  have S4 : PR s4 B L (bl5 B L P D) := by rw [E4]; exact PR.of R4' (fun k j z => zset_n (by omega))
  have U4 : ∀ w, 0 ≤ w → w < 5 → s4 117 (7 * (20 + D 0 8) + w) = brF B L P D w := fun w w0 w1 => by
    rw [E4]
    by_cases u : w = 4
    · subst u; rw [zset_e rfl (by omega)]; rfl
    · rw [zset_n (by omega), f4 _ _ (by omega)]; exact U3 w w0 (by omega)
  refine zS_aload_n (zdec eX10_billLine 65 rfl) rfl rfl ?_
  refine zS_getref (i := 63) (zdec eX10_billLine 66 rfl) kF_X10_40 ⟨by decide, rfl⟩ rfl rfl rfl rfl rfl ?_
  refine zS_iload_n (zdec eX10_billLine 67 rfl) rfl ?_
  refine zS_iconst (zdec eX10_billLine 68 rfl) rfl ?_
  refine zS_iadd (zdec eX10_billLine 69 rfl) ⟨by omega, by omega⟩ ?_
  refine zS_aload_n (zdec eX10_billLine 70 rfl) rfl rfl ?_
  refine zS_ldc2_w (zdec eX10_billLine 71 rfl) kj_X10_170 rfl ?_
  refine zS_iconst (zdec eX10_billLine 72 rfl) rfl ?_
  refine zS_bipush (zdec eX10_billLine 73 rfl) rfl rfl ?_
  refine zvMI (M' := mX10_number_) (As := [zJ 237470, zI 0, zI 99]) (st := [zI ((7 * (20 + (D 0 8))) + 5), zA 117]) (zdec eX10_billLine 74 rfl) kM_X10_159 kV_X10_number_ ⟨by decide, rfl⟩ rfl rfl rfl rfl rfl (by omega) (r_number_ (i := 15) (by omega) (by omega) (by omega) (by omega) (by omega) wk_15 vd.2.2.2.2.2.1 S4) (fun y5 t5 ⟨e5, R5', f5⟩ => ?_)
  rw [show y5 = br5 B L P D from e5]
  refine zS_iastore (zdec eX10_billLine 75 rfl) ⟨by decide, rfl⟩ (by omega) (by omega) ?_
  obtain ⟨s5, E5⟩ : ∃ x, x = zset t5 117 (7 * (20 + D 0 8) + 5) (br5 B L P D) := ⟨_, rfl⟩
  rw [show zset t5 117 (7 * (20 + D 0 8) + 5) (br5 B L P D) = s5 from E5.symm]
  have F5 : Fr (fun k j => sPR k j ∨ (k = 117 ∧ 7 * (20 + D 0 8) ≤ j ∧ j < 7 * (20 + D 0 8) + 7)) h s5 := by rw [E5]; exact (F4.tr f5 (S'' := (fun k j => sPR k j ∨ (k = 117 ∧ 7 * (20 + D 0 8) ≤ j ∧ j < 7 * (20 + D 0 8) + 7))) (fun k j z => z) (fun k j z => Or.inl z)).set (by omega)
  have S5 : PR s5 B L (bl6 B L P D) := by rw [E5]; exact PR.of R5' (fun k j z => zset_n (by omega))
  have U5 : ∀ w, 0 ≤ w → w < 6 → s5 117 (7 * (20 + D 0 8) + w) = brF B L P D w := fun w w0 w1 => by
    rw [E5]
    by_cases u : w = 5
    · subst u; rw [zset_e rfl (by omega)]; rfl
    · rw [zset_n (by omega), f5 _ _ (by omega)]; exact U4 w w0 (by omega)
  refine zS_aload_n (zdec eX10_billLine 76 rfl) rfl rfl ?_
  refine zS_getref (i := 63) (zdec eX10_billLine 77 rfl) kF_X10_40 ⟨by decide, rfl⟩ rfl rfl rfl rfl rfl ?_
  refine zS_iload_n (zdec eX10_billLine 78 rfl) rfl ?_
  refine zS_bipush (zdec eX10_billLine 79 rfl) rfl rfl ?_
  refine zS_iadd (zdec eX10_billLine 80 rfl) ⟨by omega, by omega⟩ ?_
  refine zS_aload_n (zdec eX10_billLine 81 rfl) rfl rfl ?_
  refine zS_getfieldE (x := 12) (v := (bl6 B L P D 3)) (zdec eX10_billLine 82 rfl) kF_X10_123 ⟨by decide, rfl⟩ rfl rfl rfl S5.2.1 ?_
  refine zS_if_ne (tgt := 170) (zdec eX10_billLine 83 rfl) rfl (fun c1 => ?_) (fun c1 => ?_)
  · have hz : (decide (bl6 B L P D 3 = 0) && isW B (bl6 B L P D) 16) = false := by first | exact z2 | (rw [decide_eq_false (by omega), Bool.false_and])
    refine zS_iconst (zdec eX10_billLine 99 rfl) rfl ?_
    refine zS_iastore (zdec eX10_billLine 100 rfl) ⟨by decide, rfl⟩ (by omega) (by omega) ?_
    obtain ⟨s6, E6⟩ : ∃ x, x = zset s5 117 (7 * (20 + D 0 8) + 6) 0 := ⟨_, rfl⟩
    rw [show zset s5 117 (7 * (20 + D 0 8) + 6) 0 = s6 from E6.symm]
    have F6 : Fr (fun k j => sPR k j ∨ (k = 117 ∧ 7 * (20 + D 0 8) ≤ j ∧ j < 7 * (20 + D 0 8) + 7)) h s6 := by rw [E6]; exact F5.set (by omega)
    have S6 : PR s6 B L (bl6 B L P D) := by rw [E6]; exact PR.of S5 (fun k j z => zset_n (by omega))
    have U6 : ∀ w, 0 ≤ w → w < 7 → s6 117 (7 * (20 + D 0 8) + w) = brF B L P D w := fun w w0 w1 => by
      rw [E6]
      by_cases u : w = 6
      · subst u; rw [zset_e rfl (by omega)]; show _ = br6 B L P D; unfold br6; rw [if_neg (by rw [hz]; decide)]
      · rw [zset_n (by omega)]; exact U5 w w0 (by omega)
    refine zS_aload_n (zdec eX10_billLine 101 rfl) rfl rfl ?_
    refine zS_bipush (zdec eX10_billLine 102 rfl) rfl rfl ?_
    refine zS_aload_n (zdec eX10_billLine 103 rfl) rfl rfl ?_
    refine zS_bipush (zdec eX10_billLine 104 rfl) rfl rfl ?_
    refine zvI (M' := mX10_hasRead) (As := [zI 7]) (st := [zI 7, zA 108]) (zdec eX10_billLine 105 rfl) kM_X10_153 kV_X10_hasRead ⟨by decide, rfl⟩ rfl rfl rfl rfl rfl (by omega) (r_hasRead (x := 7) (v := D 0 8) (by omega) (by omega) ((F6 _ _ (by omega)).trans h8)) ?_
    refine zS_iconst (zdec eX10_billLine 106 rfl) rfl ?_
    refine zS_iadd (zdec eX10_billLine 107 rfl) ⟨by omega, by omega⟩ ?_
    refine zvMV (M' := mX10_tells) (As := [zI 7, zI ((D 0 8) + 1)]) (st := []) (zdec eX10_billLine 108 rfl) kM_X10_174 kV_X10_tells ⟨by decide, rfl⟩ rfl rfl rfl rfl rfl (by omega) (r_tells (x := 7) (v := D 0 8 + 1) (by omega) (by omega)) (fun h9 e9 => ?_)
    subst e9
    exact zlMV (zdec eX10_billLine 109 rfl) rfl ⟨by rw [blP_n hz]; exact S6.of (fun k j z => zset_n (by omega)), fun w w0 w1 => (zset_n (by omega)).trans (U6 w w0 w1), zset_s _ _ _ _, (F6.mono (S' := (fun k j => sPR k j ∨ (k = 117 ∧ 7 * (20 + D 0 8) ≤ j ∧ j < 7 * (20 + D 0 8) + 7) ∨ (k = 115 ∧ j = 47))) (fun k j z => z.elim Or.inl (fun q => Or.inr (Or.inl q)))).set (by omega)⟩
  · refine zS_aload_n (zdec eX10_billLine 84 rfl) rfl rfl ?_
    refine zS_ldc2_w (zdec eX10_billLine 85 rfl) kj_X10_172 rfl ?_
    refine zvI (M' := mX10_is) (As := [zJ 161437]) (st := [zI ((7 * (20 + (D 0 8))) + 6), zA 117]) (zdec eX10_billLine 86 rfl) kM_X10_129 kV_X10_is ⟨by decide, rfl⟩ rfl rfl rfl rfl rfl (by omega) (r_is (i := 16) (by omega) (by omega) wk_16 vd.2.2.2.2.2.2 S5) ?_
    refine zS_if_eq (tgt := 170) (zdec eX10_billLine 87 rfl) rfl (fun c2 => ?_) (fun c2 => ?_)
    · have z2 := b2i_0.mp c2
      have hz : (decide (bl6 B L P D 3 = 0) && isW B (bl6 B L P D) 16) = false := by first | exact z2 | (rw [decide_eq_false (by omega), Bool.false_and])
      refine zS_iconst (zdec eX10_billLine 99 rfl) rfl ?_
      refine zS_iastore (zdec eX10_billLine 100 rfl) ⟨by decide, rfl⟩ (by omega) (by omega) ?_
      obtain ⟨s6, E6⟩ : ∃ x, x = zset s5 117 (7 * (20 + D 0 8) + 6) 0 := ⟨_, rfl⟩
      rw [show zset s5 117 (7 * (20 + D 0 8) + 6) 0 = s6 from E6.symm]
      have F6 : Fr (fun k j => sPR k j ∨ (k = 117 ∧ 7 * (20 + D 0 8) ≤ j ∧ j < 7 * (20 + D 0 8) + 7)) h s6 := by rw [E6]; exact F5.set (by omega)
      have S6 : PR s6 B L (bl6 B L P D) := by rw [E6]; exact PR.of S5 (fun k j z => zset_n (by omega))
      have U6 : ∀ w, 0 ≤ w → w < 7 → s6 117 (7 * (20 + D 0 8) + w) = brF B L P D w := fun w w0 w1 => by
        rw [E6]
        by_cases u : w = 6
        · subst u; rw [zset_e rfl (by omega)]; show _ = br6 B L P D; unfold br6; rw [if_neg (by rw [hz]; decide)]
        · rw [zset_n (by omega)]; exact U5 w w0 (by omega)
      refine zS_aload_n (zdec eX10_billLine 101 rfl) rfl rfl ?_
      refine zS_bipush (zdec eX10_billLine 102 rfl) rfl rfl ?_
      refine zS_aload_n (zdec eX10_billLine 103 rfl) rfl rfl ?_
      refine zS_bipush (zdec eX10_billLine 104 rfl) rfl rfl ?_
      refine zvI (M' := mX10_hasRead) (As := [zI 7]) (st := [zI 7, zA 108]) (zdec eX10_billLine 105 rfl) kM_X10_153 kV_X10_hasRead ⟨by decide, rfl⟩ rfl rfl rfl rfl rfl (by omega) (r_hasRead (x := 7) (v := D 0 8) (by omega) (by omega) ((F6 _ _ (by omega)).trans h8)) ?_
      refine zS_iconst (zdec eX10_billLine 106 rfl) rfl ?_
      refine zS_iadd (zdec eX10_billLine 107 rfl) ⟨by omega, by omega⟩ ?_
      refine zvMV (M' := mX10_tells) (As := [zI 7, zI ((D 0 8) + 1)]) (st := []) (zdec eX10_billLine 108 rfl) kM_X10_174 kV_X10_tells ⟨by decide, rfl⟩ rfl rfl rfl rfl rfl (by omega) (r_tells (x := 7) (v := D 0 8 + 1) (by omega) (by omega)) (fun h9 e9 => ?_)
      subst e9
      exact zlMV (zdec eX10_billLine 109 rfl) rfl ⟨by rw [blP_n hz]; exact S6.of (fun k j z => zset_n (by omega)), fun w w0 w1 => (zset_n (by omega)).trans (U6 w w0 w1), zset_s _ _ _ _, (F6.mono (S' := (fun k j => sPR k j ∨ (k = 117 ∧ 7 * (20 + D 0 8) ≤ j ∧ j < 7 * (20 + D 0 8) + 7) ∨ (k = 115 ∧ j = 47))) (fun k j z => z.elim Or.inl (fun q => Or.inr (Or.inl q)))).set (by omega)⟩
    · have z2 := b2i_n.mp c2
      have hz : (decide (bl6 B L P D 3 = 0) && isW B (bl6 B L P D) 16) = true := z2
      have rb1 := br1_b (B := B) (L := L) (P := P) (D := D)
      refine zS_aload_n (zdec eX10_billLine 88 rfl) rfl rfl ?_
      refine zS_ldc2_w (zdec eX10_billLine 89 rfl) kj_X10_172 rfl ?_
      refine zS_iconst (zdec eX10_billLine 90 rfl) rfl ?_
      refine zS_aload_n (zdec eX10_billLine 91 rfl) rfl rfl ?_
      refine zS_getref (i := 63) (zdec eX10_billLine 92 rfl) kF_X10_40 ⟨by decide, rfl⟩ rfl rfl rfl rfl rfl ?_
      refine zS_iload_n (zdec eX10_billLine 93 rfl) rfl ?_
      refine zS_iconst (zdec eX10_billLine 94 rfl) rfl ?_
      refine zS_iadd (zdec eX10_billLine 95 rfl) ⟨by omega, by omega⟩ ?_
      refine zS_ialoadE (v := (br1 B L P D)) (zdec eX10_billLine 96 rfl) ⟨by decide, rfl⟩ (by omega) (by omega) (U5 1 (by omega) (by omega)) ?_
      refine zvMI (M' := mX10_number_) (As := [zJ 161437, zI 0, zI (br1 B L P D)]) (st := [zI ((7 * (20 + (D 0 8))) + 6), zA 117]) (zdec eX10_billLine 97 rfl) kM_X10_159 kV_X10_number_ ⟨by decide, rfl⟩ rfl rfl rfl rfl rfl (by omega) (r_number_ (i := 16) (by omega) (by omega) (by omega) (by omega) (by omega) wk_16 vd.2.2.2.2.2.2 S5) (fun y6 t6 ⟨e6, R6', f6⟩ => ?_)
      rw [show y6 = nvR (twP B L (bl6 B L P D) 16) 0 (br1 B L P D) from e6]
      refine zS_goto (tgt := 171) (zdec eX10_billLine 98 rfl) rfl ?_
      refine zS_iastore (zdec eX10_billLine 100 rfl) ⟨by decide, rfl⟩ (by omega) (by omega) ?_
      obtain ⟨s6, E6⟩ : ∃ x, x = zset t6 117 (7 * (20 + D 0 8) + 6) (nvR (twP B L (bl6 B L P D) 16) 0 (br1 B L P D)) := ⟨_, rfl⟩
      rw [show zset t6 117 (7 * (20 + D 0 8) + 6) (nvR (twP B L (bl6 B L P D) 16) 0 (br1 B L P D)) = s6 from E6.symm]
      have F6 : Fr (fun k j => sPR k j ∨ (k = 117 ∧ 7 * (20 + D 0 8) ≤ j ∧ j < 7 * (20 + D 0 8) + 7)) h s6 := by rw [E6]; exact (F5.tr f6 (S'' := (fun k j => sPR k j ∨ (k = 117 ∧ 7 * (20 + D 0 8) ≤ j ∧ j < 7 * (20 + D 0 8) + 7))) (fun k j z => z) (fun k j z => Or.inl z)).set (by omega)
      have S6 : PR s6 B L (tfP B L (bl6 B L P D) 16 0 (br1 B L P D)) := by rw [E6]; exact PR.of R6' (fun k j z => zset_n (by omega))
      have U6 : ∀ w, 0 ≤ w → w < 7 → s6 117 (7 * (20 + D 0 8) + w) = brF B L P D w := fun w w0 w1 => by
        rw [E6]
        by_cases u : w = 6
        · subst u; rw [zset_e rfl (by omega)]; show _ = br6 B L P D; unfold br6; rw [if_pos hz]
        · rw [zset_n (by omega), f6 _ _ (by omega)]; exact U5 w w0 (by omega)
      refine zS_aload_n (zdec eX10_billLine 101 rfl) rfl rfl ?_
      refine zS_bipush (zdec eX10_billLine 102 rfl) rfl rfl ?_
      refine zS_aload_n (zdec eX10_billLine 103 rfl) rfl rfl ?_
      refine zS_bipush (zdec eX10_billLine 104 rfl) rfl rfl ?_
      refine zvI (M' := mX10_hasRead) (As := [zI 7]) (st := [zI 7, zA 108]) (zdec eX10_billLine 105 rfl) kM_X10_153 kV_X10_hasRead ⟨by decide, rfl⟩ rfl rfl rfl rfl rfl (by omega) (r_hasRead (x := 7) (v := D 0 8) (by omega) (by omega) ((F6 _ _ (by omega)).trans h8)) ?_
      refine zS_iconst (zdec eX10_billLine 106 rfl) rfl ?_
      refine zS_iadd (zdec eX10_billLine 107 rfl) ⟨by omega, by omega⟩ ?_
      refine zvMV (M' := mX10_tells) (As := [zI 7, zI ((D 0 8) + 1)]) (st := []) (zdec eX10_billLine 108 rfl) kM_X10_174 kV_X10_tells ⟨by decide, rfl⟩ rfl rfl rfl rfl rfl (by omega) (r_tells (x := 7) (v := D 0 8 + 1) (by omega) (by omega)) (fun h9 e9 => ?_)
      subst e9
      exact zlMV (zdec eX10_billLine 109 rfl) rfl ⟨by rw [blP_y hz]; exact S6.of (fun k j z => zset_n (by omega)), fun w w0 w1 => (zset_n (by omega)).trans (U6 w w0 w1), zset_s _ _ _ _, (F6.mono (S' := (fun k j => sPR k j ∨ (k = 117 ∧ 7 * (20 + D 0 8) ≤ j ∧ j < 7 * (20 + D 0 8) + 7) ∨ (k = 115 ∧ j = 47))) (fun k j z => z.elim Or.inl (fun q => Or.inr (Or.inl q)))).set (by omega)⟩

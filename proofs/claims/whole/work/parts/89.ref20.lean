theorem RR.row {h h' : zH} {W : Rw} (R : RR h W) (VW : RV W) {x y z : Int} (w : (0 ≤ x ∧ x < 4) ∧ (0 ≤ y ∧ y ≤ 3) ∧ 0 ≤ z ∧ z ≤ 60) (e1 : h' 110 x = z) (e2 : h' 109 x = y) (e3 : ∀ i, 0 ≤ i → i < z → h' 111 (60 * x + i) = 0) (e4 : Fr (fun k j => (k = 108 ∧ j = 0) ∨ (k = 109 ∧ j = x) ∨ (k = 110 ∧ j = x) ∨ (k = 111 ∧ 60 * x ≤ j ∧ j < 60 * x + 60)) h h') : RR h' (n_row W x y z) := by
  unfold n_row
  rw [if_pos w]
  intro s s0 s1
  show h' 109 s = (if (if (0 : Int) = 0 ∧ s = x then z else if (0 : Int) = 1 ∧ s = x then y else if (0 : Int) = 2 + x then 0 else W 0 s) = -1 then -1 else (if (1 : Int) = 0 ∧ s = x then z else if (1 : Int) = 1 ∧ s = x then y else if (1 : Int) = 2 + x then 0 else W 1 s)) ∧ ((if (0 : Int) = 0 ∧ s = x then z else if (0 : Int) = 1 ∧ s = x then y else if (0 : Int) = 2 + x then 0 else W 0 s) ≠ -1 → h' 110 s = (if (0 : Int) = 0 ∧ s = x then z else if (0 : Int) = 1 ∧ s = x then y else if (0 : Int) = 2 + x then 0 else W 0 s)) ∧ ∀ i, 0 ≤ i → i < (if (0 : Int) = 0 ∧ s = x then z else if (0 : Int) = 1 ∧ s = x then y else if (0 : Int) = 2 + x then 0 else W 0 s) → h' 111 (60 * s + i) = (if 2 + s = 0 ∧ i = x then z else if 2 + s = 1 ∧ i = x then y else if 2 + s = 2 + x then 0 else W (2 + s) i)
  by_cases u : s = x
  · subst u
    rw [if_pos (show (0 : Int) = 0 ∧ s = s from ⟨rfl, rfl⟩), if_neg (show ¬ z = -1 by omega), if_neg (show ¬ ((1 : Int) = 0 ∧ s = s) by omega), if_pos (show (1 : Int) = 1 ∧ s = s from ⟨rfl, rfl⟩)]
    refine ⟨e2, fun _ => e1, fun i i0 i1 => ?_⟩
    rw [if_neg (by omega), if_neg (by omega), if_pos rfl]
    exact e3 i i0 i1
  · have g0 : (if (0 : Int) = 0 ∧ s = x then z else if (0 : Int) = 1 ∧ s = x then y else if (0 : Int) = 2 + x then 0 else W 0 s) = W 0 s := by rw [if_neg (by omega), if_neg (by omega), if_neg (by omega)]
    have g1 : (if (1 : Int) = 0 ∧ s = x then z else if (1 : Int) = 1 ∧ s = x then y else if (1 : Int) = 2 + x then 0 else W 1 s) = W 1 s := by rw [if_neg (by omega), if_neg (by omega), if_neg (by omega)]
    rw [g0, g1]
    have vs := VW.sz s0 s1
    refine ⟨(e4 _ _ (by omega)).trans (R.wd s0 s1), fun q => (e4 _ _ (by omega)).trans (R.sz s0 s1 q), fun i i0 i1 => ?_⟩
    rw [if_neg (by omega), if_neg (by omega), if_neg (by omega)]
    exact (e4 _ _ (by omega)).trans (R.nm s0 s1 i0 i1)
theorem L_rrow {d : Nat} {h : zH} {x y z : Int} (x0 : 0 ≤ x) (x1 : x < 4) (z0 : 0 ≤ z) (z1 : z ≤ 60) {P : Int → zH → Prop} (hP : ∀ h', h' 110 x = z → h' 109 x = y → (∀ i, 0 ≤ i → i < z → h' 111 (60 * x + i) = 0) → Fr (fun k j => (k = 108 ∧ j = 0) ∨ (k = 109 ∧ j = x) ∨ (k = 110 ∧ j = x) ∨ (k = 111 ∧ 60 * x ≤ j ∧ j < 60 * x + 60)) h h' → P 0 h') : ∀ (n : Nat) (e : Int) (h1 : zH), 0 ≤ e → e + n = z → h1 110 x = z → h1 109 x = y → (∀ i, 0 ≤ i → i < e → h1 111 (60 * x + i) = 0) → Fr (fun k j => (k = 108 ∧ j = 0) ∨ (k = 109 ∧ j = x) ∨ (k = 110 ∧ j = x) ∨ (k = 111 ∧ 60 * x ≤ j ∧ j < 60 * x + 60)) h h1 → zS mX10_row (zr d) 57 [zA 108, zI x, zI y, zI z, zI e] [] TT h1 (zAnI P) := by
  intro n
  induction n with
  | zero =>
    intro e h1 a1 a2 i1 i2 i3 i4
    refine zS_iload (zdec eX10_row 33 rfl) rfl ?_
    refine zS_iload_n (zdec eX10_row 34 rfl) rfl ?_
    refine zS_icmp_ge (tgt := 82) (zdec eX10_row 35 rfl) rfl (fun cz => ?_) (fun cz => absurd (by omega) cz)
    refine zS_iconst (zdec eX10_row 47 rfl) rfl ?_
    exact zlMI (zdec eX10_row 48 rfl) rfl (hP _ i1 i2 (fun i i0 k1 => i3 i i0 (by omega)) i4)
  | succ n ih =>
    intro e h1 a1 a2 i1 i2 i3 i4
    refine zS_iload (zdec eX10_row 33 rfl) rfl ?_
    refine zS_iload_n (zdec eX10_row 34 rfl) rfl ?_
    refine zS_icmp_ge (tgt := 82) (zdec eX10_row 35 rfl) rfl (fun cz => absurd cz (by omega)) (fun cz => ?_)
    refine zS_aload_n (zdec eX10_row 36 rfl) rfl rfl ?_
    refine zS_getref (i := 57) (zdec eX10_row 37 rfl) kF_X10_16 ⟨by decide, rfl⟩ rfl rfl rfl rfl rfl ?_
    refine zS_bipush (zdec eX10_row 38 rfl) rfl rfl ?_
    refine zS_iload_n (zdec eX10_row 39 rfl) rfl ?_
    refine zS_imul (zdec eX10_row 40 rfl) ⟨by omega, by omega⟩ ?_
    refine zS_iload (zdec eX10_row 41 rfl) rfl ?_
    refine zS_iadd (zdec eX10_row 42 rfl) ⟨by omega, by omega⟩ ?_
    refine zS_lconst (zdec eX10_row 43 rfl) ?_
    refine zS_lastore (zdec eX10_row 44 rfl) ⟨by decide, rfl⟩ (by omega) (by omega) ?_
    refine zS_iinc (zdec eX10_row 45 rfl) rfl rfl ⟨by omega, by omega⟩ ?_
    refine zS_goto (tgt := 57) (zdec eX10_row 46 rfl) rfl ?_
    refine ih (e + 1) _ (by omega) (by omega) (by rw [zset_n (by omega)]; exact i1) (by rw [zset_n (by omega)]; exact i2) (fun i i0 k1 => ?_) (i4.set (by omega))
    by_cases u : i = e
    · exact (zset_e rfl (by rw [u])).trans rfl
    · rw [zset_n (by omega)]; exact i3 i i0 (by omega)
theorem q_row {d : Nat} {h : zH} {W : Rw} {x y z : Int} (hd : 200 ≤ d) (RW : RR h W) (VW : RV W) : zMI d mX10_row [zA 108, zI x, zI y, zI z] h (fun r h' => r = a_row x y z ∧ RR h' (n_row W x y z) ∧ Fr (fun k j => (k = 108 ∧ j = 0) ∨ (109 ≤ k ∧ k ≤ 112)) h h') := by
  refine zmet rfl rfl rfl ?_
  refine zS_aload_n (zdec eX10_row 0 rfl) rfl rfl ?_
  refine zS_iconst (zdec eX10_row 1 rfl) rfl ?_
  refine zS_putfield (x := 0) (zdec eX10_row 2 rfl) kF_X10_71 (Or.inl kf10_0) ⟨by decide, rfl⟩ rfl rfl rfl (Or.inl (fun q => by cases q)) ?_
  obtain ⟨h0, E0⟩ : ∃ x, x = zset h 108 0 0 := ⟨_, rfl⟩
  rw [show zset h 108 0 (0 : Int) = h0 from E0.symm]
  have f0 : Fr (fun k j => k = 108 ∧ j = 0) h h0 := by rw [E0]; exact Fr.rf.set ⟨rfl, rfl⟩
  refine zS_iload_n (zdec eX10_row 3 rfl) rfl ?_
  refine zsI (M' := mX10_isSlot) (As := [zI x]) (st := []) (zdec eX10_row 4 rfl) kM_X10_80 kS_X10_isSlot rfl rfl rfl (by omega) (d_isSlot (by omega)) ?_
  refine zS_if_eq (tgt := 30) (zdec eX10_row 5 rfl) rfl (fun c1 => ?_) (fun c1 => ?_)
  · have z1 := d2i_0.mp c1
    refine zS_bipush (zdec eX10_row 15 rfl) rfl rfl ?_
    exact zlMI (zdec eX10_row 16 rfl) rfl ⟨by unfold a_row; rw [if_neg (by omega)], by unfold n_row; rw [if_neg (by omega)]; exact RW.fr f0 (fun k j z => by omega), f0.mono (fun k j z => Or.inl z)⟩
  · have z1 := d2i_n.mp c1
    refine zS_iload_n (zdec eX10_row 6 rfl) rfl ?_
    refine zS_i2l (zdec eX10_row 7 rfl) ?_
    refine zS_lconst (zdec eX10_row 8 rfl) ?_
    refine zS_ldc2_w (zdec eX10_row 9 rfl) kj_X10_74 rfl ?_
    refine zsI (M' := mX10_in) (As := [zJ y, zJ 0, zJ 3]) (st := []) (zdec eX10_row 10 rfl) kM_X10_76 kS_X10_in rfl rfl rfl (by omega) r_in ?_
    refine zS_if_eq (tgt := 30) (zdec eX10_row 11 rfl) rfl (fun c2 => ?_) (fun c2 => ?_)
    · have z2 := d2i_0.mp c2
      refine zS_bipush (zdec eX10_row 15 rfl) rfl rfl ?_
      exact zlMI (zdec eX10_row 16 rfl) rfl ⟨by unfold a_row; rw [if_neg (by omega)], by unfold n_row; rw [if_neg (by omega)]; exact RW.fr f0 (fun k j z => by omega), f0.mono (fun k j z => Or.inl z)⟩
    · have z2 := d2i_n.mp c2
      refine zS_iload_n (zdec eX10_row 12 rfl) rfl ?_
      refine zS_bipush (zdec eX10_row 13 rfl) rfl rfl ?_
      refine zS_icmp_le (tgt := 33) (zdec eX10_row 14 rfl) rfl (fun c3 => ?_) (fun c3 => ?_)
      · refine zS_iload_n (zdec eX10_row 17 rfl) rfl ?_
        refine zS_if_ge (tgt := 40) (zdec eX10_row 18 rfl) rfl (fun c4 => ?_) (fun c4 => ?_)
        · refine zS_aload_n (zdec eX10_row 21 rfl) rfl rfl ?_
          refine zS_getref (i := 55) (zdec eX10_row 22 rfl) kF_X10_7 ⟨by decide, rfl⟩ rfl rfl rfl rfl rfl ?_
          refine zS_iload_n (zdec eX10_row 23 rfl) rfl ?_
          refine zS_iload_n (zdec eX10_row 24 rfl) rfl ?_
          refine zS_iastore (zdec eX10_row 25 rfl) ⟨by decide, rfl⟩ (by omega) (by omega) ?_
          refine zS_aload_n (zdec eX10_row 26 rfl) rfl rfl ?_
          refine zS_getref (i := 56) (zdec eX10_row 27 rfl) kF_X10_13 ⟨by decide, rfl⟩ rfl rfl rfl rfl rfl ?_
          refine zS_iload_n (zdec eX10_row 28 rfl) rfl ?_
          refine zS_iload_n (zdec eX10_row 29 rfl) rfl ?_
          refine zS_iastore (zdec eX10_row 30 rfl) ⟨by decide, rfl⟩ (by omega) (by omega) ?_
          refine zS_iconst (zdec eX10_row 31 rfl) rfl ?_
          refine zS_istore (zdec eX10_row 32 rfl) rfl ?_
          exact L_rrow (d := d) (h := h) (x := x) (y := y) (z := z) (by omega) (by omega) (by omega) (by omega) (fun h' e1 e2 e3 e4 => ⟨by unfold a_row; rw [if_pos (by omega), if_neg (by omega)], RW.row VW (by omega) e1 e2 e3 e4, e4.mono (fun k j w => by omega)⟩) z.toNat 0 _ (by omega) (by omega) (zset_e rfl rfl) ((zset_n (by omega)).trans (zset_e rfl rfl)) (fun i i0 i1 => by omega) (((f0.mono (fun k j z => Or.inl z)).set (S := (fun k j => (k = 108 ∧ j = 0) ∨ (k = 109 ∧ j = x) ∨ (k = 110 ∧ j = x) ∨ (k = 111 ∧ 60 * x ≤ j ∧ j < 60 * x + 60))) (k := 109) (j := x) (v := y) (by omega)).set (k := 110) (j := x) (v := z) (by omega))
        · refine zS_bipush (zdec eX10_row 19 rfl) rfl rfl ?_
          exact zlMI (zdec eX10_row 20 rfl) rfl ⟨by unfold a_row; rw [if_pos (by omega), if_pos (by omega)], by unfold n_row; rw [if_neg (by omega)]; exact RW.fr f0 (fun k j z => by omega), f0.mono (fun k j z => Or.inl z)⟩
      · refine zS_bipush (zdec eX10_row 15 rfl) rfl rfl ?_
        exact zlMI (zdec eX10_row 16 rfl) rfl ⟨by unfold a_row; rw [if_neg (by omega)], by unfold n_row; rw [if_neg (by omega)]; exact RW.fr f0 (fun k j z => by omega), f0.mono (fun k j z => Or.inl z)⟩
theorem r_cut {d : Nat} {h : zH} {v w : Int} : zPJ d mX10_cut [zJ v, zI w] h (cuW w v) := by
  refine zmet rfl rfl rfl ?_
  refine zS_iload_n (zdec eX10_cut 0 rfl) rfl ?_
  refine zS_if_ne (tgt := 11) (zdec eX10_cut 1 rfl) rfl (fun c1 => ?_) (fun c1 => ?_)
  · refine zS_iload_n (zdec eX10_cut 7 rfl) rfl ?_
    refine zS_iconst (zdec eX10_cut 8 rfl) rfl ?_
    refine zS_icmp_ne (tgt := 23) (zdec eX10_cut 9 rfl) rfl (fun c2 => ?_) (fun c2 => ?_)
    · refine zS_iload_n (zdec eX10_cut 15 rfl) rfl ?_
      refine zS_iconst (zdec eX10_cut 16 rfl) rfl ?_
      refine zS_icmp_ne (tgt := 34) (zdec eX10_cut 17 rfl) rfl (fun c3 => ?_) (fun c3 => ?_)
      · refine zS_lload_n (zdec eX10_cut 22 rfl) rfl ?_
        exact zlJ (zdec eX10_cut 23 rfl) rfl (by unfold cuW; first | rw [if_pos (by omega)] | rw [if_neg (by omega), if_pos (by omega)] | rw [if_neg (by omega), if_neg (by omega), if_pos (by omega)] | rw [if_neg (by omega), if_neg (by omega), if_neg (by omega)])
      · refine zS_lload_n (zdec eX10_cut 18 rfl) rfl ?_
        refine zS_l2i (zdec eX10_cut 19 rfl) ?_
        refine zS_i2l (zdec eX10_cut 20 rfl) ?_
        refine zS_goto (tgt := 35) (zdec eX10_cut 21 rfl) rfl ?_
        exact zlJ (zdec eX10_cut 23 rfl) rfl (by unfold cuW; first | rw [if_pos (by omega)] | rw [if_neg (by omega), if_pos (by omega)] | rw [if_neg (by omega), if_neg (by omega), if_pos (by omega)] | rw [if_neg (by omega), if_neg (by omega), if_neg (by omega)])
    · refine zS_lload_n (zdec eX10_cut 10 rfl) rfl ?_
      refine zS_l2i (zdec eX10_cut 11 rfl) ?_
      refine zS_i2s (zdec eX10_cut 12 rfl) ?_
      refine zS_i2l (zdec eX10_cut 13 rfl) ?_
      refine zS_goto (tgt := 35) (zdec eX10_cut 14 rfl) rfl ?_
      exact zlJ (zdec eX10_cut 23 rfl) rfl (by unfold cuW; first | rw [if_pos (by omega)] | rw [if_neg (by omega), if_pos (by omega)] | rw [if_neg (by omega), if_neg (by omega), if_pos (by omega)] | rw [if_neg (by omega), if_neg (by omega), if_neg (by omega)])
  · refine zS_lload_n (zdec eX10_cut 2 rfl) rfl ?_
    refine zS_l2i (zdec eX10_cut 3 rfl) ?_
    refine zS_i2b (zdec eX10_cut 4 rfl) ?_
    refine zS_i2l (zdec eX10_cut 5 rfl) ?_
    refine zS_goto (tgt := 35) (zdec eX10_cut 6 rfl) rfl ?_
    exact zlJ (zdec eX10_cut 23 rfl) rfl (by unfold cuW; first | rw [if_pos (by omega)] | rw [if_neg (by omega), if_pos (by omega)] | rw [if_neg (by omega), if_neg (by omega), if_pos (by omega)] | rw [if_neg (by omega), if_neg (by omega), if_neg (by omega)])
theorem RR.write {h : zH} {W : Rw} (R : RR h W) (VW : RV W) {x y v : Int} (w : okW W x y) : RR (zset h 111 (60 * x + y) (cuW (W 1 x) v)) (n_write W x y v) := by
  have w1 := w.1
  have w2 := w.2.1
  have w3 := w.2.2
  unfold n_write
  rw [if_pos ⟨w1, w2, w3⟩]
  intro s s0 s1
  have vs := VW.sz s0 s1
  have vx := VW.sz w1.1 w1.2
  have e0 : zset W (2 + x) y (cuW (W 1 x) v) 0 s = W 0 s := zset_n (by omega)
  have e1 : zset W (2 + x) y (cuW (W 1 x) v) 1 s = W 1 s := zset_n (by omega)
  rw [e0, e1]
  refine ⟨(zset_n (by omega)).trans (R.wd s0 s1), fun q => (zset_n (by omega)).trans (R.sz s0 s1 q), fun i i0 i1 => ?_⟩
  by_cases u : s = x ∧ i = y
  · rw [zset_e rfl (by rw [u.1, u.2]), zset_e (by rw [u.1]) u.2]
  · rw [zset_n (by omega), zset_n (by omega)]; exact R.nm s0 s1 i0 i1
theorem q_write {d : Nat} {h : zH} {W : Rw} {x y v : Int} (hd : 200 ≤ d) (RW : RR h W) (VW : RV W) : zMI d mX10_write [zA 108, zI x, zI y, zJ v] h (fun r h' => r = a_write W x y ∧ RR h' (n_write W x y v) ∧ Fr (fun k j => (k = 108 ∧ j = 0) ∨ (109 ≤ k ∧ k ≤ 112)) h h') := by
  have vs : 0 ≤ x ∧ x < 4 → (-1 ≤ W 0 x ∧ W 0 x ≤ 60) ∧ (W 0 x ≠ -1 → 0 ≤ W 1 x ∧ W 1 x ≤ 3) := fun z => VW x z.1 z.2
  refine zmet rfl rfl rfl ?_
  refine zS_aload_n (zdec eX10_write 0 rfl) rfl rfl ?_
  refine zS_iconst (zdec eX10_write 1 rfl) rfl ?_
  refine zS_putfield (x := 0) (zdec eX10_write 2 rfl) kF_X10_71 (Or.inl kf10_0) ⟨by decide, rfl⟩ rfl rfl rfl (Or.inl (fun q => by cases q)) ?_
  obtain ⟨h0, E0⟩ : ∃ x, x = zset h 108 0 0 := ⟨_, rfl⟩
  rw [show zset h 108 0 (0 : Int) = h0 from E0.symm]
  have f0 : Fr (fun k j => k = 108 ∧ j = 0) h h0 := by rw [E0]; exact Fr.rf.set ⟨rfl, rfl⟩
  have RW0 : RR h0 W := RW.fr f0 (fun k j z => by omega)
  refine zS_iload_n (zdec eX10_write 3 rfl) rfl ?_
  refine zsI (M' := mX10_isSlot) (As := [zI x]) (st := []) (zdec eX10_write 4 rfl) kM_X10_80 kS_X10_isSlot rfl rfl rfl (by omega) (d_isSlot (by omega)) ?_
  refine zS_if_ne (tgt := 15) (zdec eX10_write 5 rfl) rfl (fun c1 => ?_) (fun c1 => ?_)
  · have z1 := d2i_n.mp c1
    refine zS_aload_n (zdec eX10_write 8 rfl) rfl rfl ?_
    refine zS_getref (i := 55) (zdec eX10_write 9 rfl) kF_X10_7 ⟨by decide, rfl⟩ rfl rfl rfl rfl rfl ?_
    refine zS_iload_n (zdec eX10_write 10 rfl) rfl ?_
    refine zS_ialoadE (v := (if W 0 x = -1 then -1 else W 1 x)) (zdec eX10_write 11 rfl) ⟨by decide, rfl⟩ (by omega) (by omega) (RW0.wd (by omega) (by omega)) ?_
    refine zS_iconst (zdec eX10_write 12 rfl) rfl ?_
    refine zS_icmp_ne (tgt := 28) (zdec eX10_write 13 rfl) rfl (fun c2 => ?_) (fun c2 => ?_)
    · refine zS_iload_n (zdec eX10_write 16 rfl) rfl ?_
      refine zS_i2l (zdec eX10_write 17 rfl) ?_
      refine zS_lconst (zdec eX10_write 18 rfl) ?_
      refine zS_aload_n (zdec eX10_write 19 rfl) rfl rfl ?_
      refine zS_getref (i := 56) (zdec eX10_write 20 rfl) kF_X10_13 ⟨by decide, rfl⟩ rfl rfl rfl rfl rfl ?_
      refine zS_iload_n (zdec eX10_write 21 rfl) rfl ?_
      refine zS_ialoadE (v := (W 0 x)) (zdec eX10_write 22 rfl) ⟨by decide, rfl⟩ (by omega) (by omega) (RW0.sz (by omega) (by omega) (by omega)) ?_
      refine zS_iconst (zdec eX10_write 23 rfl) rfl ?_
      refine zS_isub (zdec eX10_write 24 rfl) ⟨by omega, by omega⟩ ?_
      refine zS_i2l (zdec eX10_write 25 rfl) ?_
      refine zsI (M' := mX10_in) (As := [zJ y, zJ 0, zJ ((W 0 x) - 1)]) (st := []) (zdec eX10_write 26 rfl) kM_X10_76 kS_X10_in rfl rfl rfl (by omega) r_in ?_
      refine zS_if_ne (tgt := 49) (zdec eX10_write 27 rfl) rfl (fun c3 => ?_) (fun c3 => ?_)
      · have z3 := d2i_n.mp c3
        refine zS_aload_n (zdec eX10_write 30 rfl) rfl rfl ?_
        refine zS_getref (i := 57) (zdec eX10_write 31 rfl) kF_X10_16 ⟨by decide, rfl⟩ rfl rfl rfl rfl rfl ?_
        refine zS_bipush (zdec eX10_write 32 rfl) rfl rfl ?_
        refine zS_iload_n (zdec eX10_write 33 rfl) rfl ?_
        refine zS_imul (zdec eX10_write 34 rfl) ⟨by omega, by omega⟩ ?_
        refine zS_iload_n (zdec eX10_write 35 rfl) rfl ?_
        refine zS_iadd (zdec eX10_write 36 rfl) ⟨by omega, by omega⟩ ?_
        refine zS_lload_n (zdec eX10_write 37 rfl) rfl ?_
        refine zS_aload_n (zdec eX10_write 38 rfl) rfl rfl ?_
        refine zS_getref (i := 55) (zdec eX10_write 39 rfl) kF_X10_7 ⟨by decide, rfl⟩ rfl rfl rfl rfl rfl ?_
        refine zS_iload_n (zdec eX10_write 40 rfl) rfl ?_
        refine zS_ialoadE (v := (if W 0 x = -1 then -1 else W 1 x)) (zdec eX10_write 41 rfl) ⟨by decide, rfl⟩ (by omega) (by omega) (RW0.wd (by omega) (by omega)) ?_
        refine zsJ (M' := mX10_cut) (As := [zJ v, zI (if W 0 x = -1 then -1 else W 1 x)]) (st := [zI ((60 * x) + y), zA 111]) (zdec eX10_write 42 rfl) kM_X10_84 kS_X10_cut rfl rfl rfl (by omega) r_cut ?_
        refine zS_lastore (zdec eX10_write 43 rfl) ⟨by decide, rfl⟩ (by omega) (by omega) ?_
        refine zS_iconst (zdec eX10_write 44 rfl) rfl ?_
        exact zlMI (zdec eX10_write 45 rfl) rfl ⟨by unfold a_write; rw [if_pos (by omega), if_neg (by omega), if_pos (by omega)], by rw [if_neg (show ¬ W 0 x = -1 by omega)]; exact RW0.write VW ⟨by omega, by omega, by omega⟩, (f0.mono (S' := (fun k j => (k = 108 ∧ j = 0) ∨ (109 ≤ k ∧ k ≤ 112))) (fun k j z => Or.inl z)).set (by omega)⟩
      · have z3 := d2i_0.mp c3
        refine zS_bipush (zdec eX10_write 28 rfl) rfl rfl ?_
        exact zlMI (zdec eX10_write 29 rfl) rfl ⟨by unfold a_write; rw [if_pos (by omega), if_neg (by omega), if_neg (by omega)], by unfold n_write; rw [if_neg (by omega)]; exact RW0, f0.mono (fun k j z => Or.inl z)⟩
    · refine zS_bipush (zdec eX10_write 14 rfl) rfl rfl ?_
      exact zlMI (zdec eX10_write 15 rfl) rfl ⟨by unfold a_write; rw [if_pos (by omega), if_pos (by omega)], by unfold n_write; rw [if_neg (by omega)]; exact RW0, f0.mono (fun k j z => Or.inl z)⟩
  · have z1 := d2i_0.mp c1
    refine zS_bipush (zdec eX10_write 6 rfl) rfl rfl ?_
    exact zlMI (zdec eX10_write 7 rfl) rfl ⟨by unfold a_write; rw [if_neg (by omega)], by unfold n_write; rw [if_neg (by omega)]; exact RW0, f0.mono (fun k j z => Or.inl z)⟩

def blk (a k j : Int) : Prop := (k = 114 ∧ j = a) ∨ (k = 115 ∧ 10 * a ≤ j ∧ j < 10 * a + 10) ∨ (k = 116 ∧ 4 * a ≤ j ∧ j < 4 * a + 4) ∨ (k = 117 ∧ 35 * a ≤ j ∧ j < 35 * a + 35) ∨ (k = 118 ∧ 12 * a ≤ j ∧ j < 12 * a + 12) ∨ (k = 119 ∧ 40 * a ≤ j ∧ j < 40 * a + 40)
theorem DR.ofb {h h' : zH} {a : Int} {D : Dk} (R : DR h a D) (e : ∀ k j, blk a k j → h' k j = h k j) : DR h' a D :=
  ⟨(e _ _ (by unfold blk; omega)).trans R.1, fun w x y => (e _ _ (by unfold blk; omega)).trans (R.2.1 w x y), fun s x y z => (e _ _ (by unfold blk; omega)).trans (R.2.2.1 s x y z), fun b w x y z u v => (e _ _ (by unfold blk; omega)).trans (R.2.2.2.1 b w x y z u v), fun i x y z => ⟨(e _ _ (by unfold blk; omega)).trans (R.2.2.2.2.1 i x y z).1, (e _ _ (by unfold blk; omega)).trans (R.2.2.2.2.1 i x y z).2⟩, fun i x y z => ⟨(e _ _ (by unfold blk; omega)).trans (R.2.2.2.2.2 i x y z).1, (e _ _ (by unfold blk; omega)).trans (R.2.2.2.2.2 i x y z).2⟩⟩
abbrev sB : Int → Int → Prop := fun k j => sQR k j ∨ blk 0 k j
theorem DR.ac {h : zH} {D : Dk} (R : DR h 0 D) {n : Int} (hn : n ≤ D 0 10) : DR (zset h 115 9 n) 0 (acD D n) := by
  unfold acD
  have e7 : zset D 0 10 n 0 7 = D 0 7 := zset_n (by omega)
  have e8 : zset D 0 10 n 0 8 = D 0 8 := zset_n (by omega)
  have e9 : zset D 0 10 n 0 9 = D 0 9 := zset_n (by omega)
  have e10 : zset D 0 10 n 0 10 = n := zset_s _ _ _ _
  refine ⟨?_, fun w w0 w1 => ?_, fun s s0 s1 s2 => ?_, fun b w b0 b1 b2 w0 w1 => ?_, fun i i0 i1 i2 => ?_, fun i i0 i1 i2 => ?_⟩
  · rw [zset_n (by omega), zset_n (by omega)]; exact R.1
  · by_cases u : w = 9
    · rw [u, zset_e rfl (by omega), zset_e rfl (by omega)]
    · rw [zset_n (by omega), zset_n (by omega)]; exact R.2.1 w w0 w1
  · rw [zset_n (by omega), zset_n (by omega)]; exact R.2.2.1 s s0 s1 (by omega)
  · rw [zset_n (by omega), zset_n (by omega)]; exact R.2.2.2.1 b w b0 b1 (by omega) w0 w1
  · rw [zset_n (by omega), zset_n (by omega), zset_n (by omega), zset_n (by omega)]; exact R.2.2.2.2.1 i i0 i1 (by omega)
  · rw [zset_n (by omega), zset_n (by omega), zset_n (by omega)]; exact R.2.2.2.2.2 i i0 i1 (by omega)
theorem DR.ad {h : zH} {D : Dk} (R : DR h 0 D) (c : Int) : DR (zset (zset (zset h 119 (2 * D 0 10) (if c < 5 then 0 else 1)) 119 (2 * D 0 10 + 1) (if c < 5 then c else c - 5)) 115 9 (D 0 10 + 1)) 0 (adA D c) := by
  unfold adA
  have e : ∀ k j, ¬ (k = 0 ∧ j = 10) → ¬ (k = 10 ∧ j = D 0 10) → zset (zset D 10 (D 0 10) c) 0 10 (D 0 10 + 1) k j = D k j := fun k j h1 h2 => by rw [zset_n h1, zset_n h2]
  have e7 := e 0 7 (by omega) (by omega)
  have e8 := e 0 8 (by omega) (by omega)
  have e9 := e 0 9 (by omega) (by omega)
  have e10 : zset (zset D 10 (D 0 10) c) 0 10 (D 0 10 + 1) 0 10 = D 0 10 + 1 := zset_s _ _ _ _
  refine ⟨?_, fun w w0 w1 => ?_, fun s s0 s1 s2 => ?_, fun b w b0 b1 b2 w0 w1 => ?_, fun i i0 i1 i2 => ?_, fun i i0 i1 i2 => ?_⟩
  · rw [zset_n (by omega), zset_n (by omega), zset_n (by omega), e _ _ (by omega) (by omega)]; exact R.1
  · by_cases u : w = 9
    · rw [u, zset_e rfl (by omega), zset_e rfl (by omega)]
    · rw [zset_n (by omega), zset_n (by omega), zset_n (by omega), e _ _ (by omega) (by omega)]; exact R.2.1 w w0 w1
  · rw [zset_n (by omega), zset_n (by omega), zset_n (by omega), e _ _ (by omega) (by omega)]; exact R.2.2.1 s s0 s1 (by omega)
  · rw [zset_n (by omega), zset_n (by omega), zset_n (by omega), e _ _ (by omega) (by omega)]; exact R.2.2.2.1 b w b0 b1 (by omega) w0 w1
  · have t := R.2.2.2.2.1 i i0 i1 (by omega)
    rw [e 8 i (by omega) (by omega), e 9 i (by omega) (by omega)]
    exact ⟨by rw [zset_n (by omega), zset_n (by omega), zset_n (by omega)]; exact t.1, by rw [zset_n (by omega), zset_n (by omega), zset_n (by omega)]; exact t.2⟩
  · by_cases u : i = D 0 10
    · have ec : zset (zset D 10 (D 0 10) c) 0 10 (D 0 10 + 1) 10 i = c := by rw [u, zset_n (by omega), zset_s]
      rw [ec, zset_n (by omega), zset_n (by omega), zset_e rfl (by omega), zset_n (by omega), zset_e rfl (by omega)]
      exact ⟨rfl, rfl⟩
    · have t := R.2.2.2.2.2 i i0 i1 (by omega)
      rw [e 10 i (by omega) (by omega)]
      exact ⟨by rw [zset_n (by omega), zset_n (by omega), zset_n (by omega)]; exact t.1, by rw [zset_n (by omega), zset_n (by omega), zset_n (by omega)]; exact t.2⟩
theorem DR.rkS {h : zH} {D : Dk} (R : DR h 0 D) (s n : Int) : DR (zset h 116 s n) 0 (rkD D s n) := by
  unfold rkD
  have e : ∀ k j, k ≠ 1 → zset D 1 s n k j = D k j := fun k j h1 => zset_n (by omega)
  have e7 := e 0 7 (by omega)
  have e8 := e 0 8 (by omega)
  have e9 := e 0 9 (by omega)
  have e10 := e 0 10 (by omega)
  refine ⟨?_, fun w w0 w1 => ?_, fun t t0 t1 t2 => ?_, fun b w b0 b1 b2 w0 w1 => ?_, fun i i0 i1 i2 => ?_, fun i i0 i1 i2 => ?_⟩
  · rw [zset_n (by omega), e _ _ (by omega)]; exact R.1
  · rw [zset_n (by omega), e _ _ (by omega)]; exact R.2.1 w w0 w1
  · by_cases u : t = s
    · rw [u, zset_e rfl (by omega), zset_s]
    · rw [zset_n (by omega), zset_n (by omega)]; exact R.2.2.1 t t0 t1 (by omega)
  · rw [zset_n (by omega), e _ _ (by omega)]; exact R.2.2.2.1 b w b0 b1 (by omega) w0 w1
  · have t := R.2.2.2.2.1 i i0 i1 (by omega)
    rw [e 8 i (by omega), e 9 i (by omega)]
    exact ⟨by rw [zset_n (by omega)]; exact t.1, by rw [zset_n (by omega)]; exact t.2⟩
  · have t := R.2.2.2.2.2 i i0 i1 (by omega)
    rw [e 10 i (by omega)]
    exact ⟨by rw [zset_n (by omega)]; exact t.1, by rw [zset_n (by omega)]; exact t.2⟩
theorem r_does {d : Nat} {h : zH} {D : Dk} {c u v : Int} (hd : 20 ≤ d) (VD : DV D) (hd0 : 0 < D 0 0) (RD : DR h 0 D) (c0 : 0 ≤ c) (c1 : c < 5 + D 0 1) (c2 : c < 5 → c < D 0 8) (hn : D 0 10 < 20) (hu : u = if c < 5 then 0 else 1) (hv : v = if c < 5 then c else c - 5) : zMI d mX10_does [zA 108, zI u, zI v] h (fun r h' => r = totL (pb0 (adA D c)) ∧ DR h' 0 (adA D c) ∧ Fr sB h h') := by
  subst hu hv
  have na := VD.na
  have VD2 : DV (adA D c) := VD.ad hd0 c0 c1 c2 hn
  have e0 : adA D c 0 0 = D 0 0 := by unfold adA; rw [zset_n (by omega), zset_n (by omega)]
  refine zmet rfl rfl rfl ?_
  refine zS_iconst (zdec eX10_does 0 rfl) rfl ?_
  refine zS_aload_n (zdec eX10_does 1 rfl) rfl rfl ?_
  refine zS_getref (i := 61) (zdec eX10_does 2 rfl) kF_X10_34 ⟨by decide, rfl⟩ rfl rfl rfl rfl rfl ?_
  refine zS_bipush (zdec eX10_does 3 rfl) rfl rfl ?_
  refine zS_ialoadE (v := (D 0 10)) (zdec eX10_does 4 rfl) ⟨by decide, rfl⟩ (by decide) (by decide) (RD.s (by decide) (by decide) (by decide)) ?_
  refine zS_imul (zdec eX10_does 5 rfl) ⟨by omega, by omega⟩ ?_
  refine zS_istore_n (zdec eX10_does 6 rfl) rfl ?_
  refine zS_aload_n (zdec eX10_does 7 rfl) rfl rfl ?_
  refine zS_getref (i := 65) (zdec eX10_does 8 rfl) kF_X10_46 ⟨by decide, rfl⟩ rfl rfl rfl rfl rfl ?_
  refine zS_iload_n (zdec eX10_does 9 rfl) rfl ?_
  refine zS_iload_n (zdec eX10_does 10 rfl) rfl ?_
  refine zS_iastore (zdec eX10_does 11 rfl) ⟨by decide, rfl⟩ (by omega) (by omega) ?_
  refine zS_aload_n (zdec eX10_does 12 rfl) rfl rfl ?_
  refine zS_getref (i := 65) (zdec eX10_does 13 rfl) kF_X10_46 ⟨by decide, rfl⟩ rfl rfl rfl rfl rfl ?_
  refine zS_iload_n (zdec eX10_does 14 rfl) rfl ?_
  refine zS_iconst (zdec eX10_does 15 rfl) rfl ?_
  refine zS_iadd (zdec eX10_does 16 rfl) ⟨by omega, by omega⟩ ?_
  refine zS_iload_n (zdec eX10_does 17 rfl) rfl ?_
  refine zS_iastore (zdec eX10_does 18 rfl) ⟨by decide, rfl⟩ (by omega) (by omega) ?_
  refine zS_aload_n (zdec eX10_does 19 rfl) rfl rfl ?_
  refine zS_getref (i := 61) (zdec eX10_does 20 rfl) kF_X10_34 ⟨by decide, rfl⟩ rfl rfl rfl rfl rfl ?_
  refine zS_bipush (zdec eX10_does 21 rfl) rfl rfl ?_
  refine zS_dup2 (zdec eX10_does 22 rfl) (fun q => by cases q) (fun q => by cases q) ?_
  refine zS_ialoadE (v := (D 0 10)) (zdec eX10_does 23 rfl) ⟨by decide, rfl⟩ (by decide) (by decide) ((congrFun (zset_k (by decide)) _).trans ((congrFun (zset_k (by decide)) _).trans (RD.s (by decide) (by decide) (by decide)))) ?_
  refine zS_iconst (zdec eX10_does 24 rfl) rfl ?_
  refine zS_iadd (zdec eX10_does 25 rfl) ⟨by omega, by omega⟩ ?_
  refine zS_iastore (zdec eX10_does 26 rfl) ⟨by decide, rfl⟩ (by decide) (by decide) ?_
  have d5 : DR (zset (zset (zset h 119 (2 * D 0 10) (if c < 5 then 0 else 1)) 119 (2 * D 0 10 + 1) (if c < 5 then c else c - 5)) 115 9 (D 0 10 + 1)) 0 (adA D c) := RD.ad c
  have f5 : Fr sB h (zset (zset (zset h 119 (2 * D 0 10) (if c < 5 then 0 else 1)) 119 (2 * D 0 10 + 1) (if c < 5 then c else c - 5)) 115 9 (D 0 10 + 1)) := ((Fr.rf.set (Or.inr (by unfold blk; omega))).set (Or.inr (by unfold blk; omega))).set (Or.inr (by unfold blk; omega))
  refine zS_aload_n (zdec eX10_does 27 rfl) rfl rfl ?_
  refine zvMV (M' := mX10_lays) (As := []) (st := []) (zdec eX10_does 28 rfl) kM_X10_314 kV_X10_lays ⟨by decide, rfl⟩ rfl rfl rfl rfl rfl (by omega) (r_lays (by omega) VD2 (by rw [e0]; exact hd0) d5) (fun h2 ⟨R, cl2, g2⟩ => ?_)
  have V6 := pb0_V VD2 (by rw [e0]; exact hd0)
  refine zS_aload_n (zdec eX10_does 29 rfl) rfl rfl ?_
  refine zvMI (M' := mX10_totalBy) (As := []) (st := []) (zdec eX10_does 30 rfl) kM_X10_406 kV_X10_totalBy ⟨by decide, rfl⟩ rfl rfl rfl rfl rfl (by omega) (r_totalBy (by omega) V6 R) (fun x3 h3 ⟨hx3, L3, g3⟩ => ?_)
  have ff : Fr sQR (zset (zset (zset h 119 (2 * D 0 10) (if c < 5 then 0 else 1)) 119 (2 * D 0 10 + 1) (if c < 5 then c else c - 5)) 115 9 (D 0 10 + 1)) h3 := g2.tr g3 (fun k j z => by omega) (fun k j z => by omega)
  exact zlMI (zdec eX10_does 31 rfl) rfl ⟨hx3, d5.fr ff (fun k j z => by omega), f5.tr ff (fun k j z => z) (fun k j z => Or.inl z)⟩
theorem q_frees {d : Nat} {h : zH} {D : Dk} {x : Int} (hd : 200 ≤ d) (VD : DV D) (RD : DR h 0 D) : zMI d mX10_frees [zA 108, zI x] h (fun r h' => r = a_frees D x ∧ DR h' 0 (n_frees D x) ∧ Fr sB h h') := by
  have nb := VD.nb
  have dy := VD.days
  have na := VD.na
  refine zmet rfl rfl rfl ?_
  refine zS_aload_n (zdec eX10_frees 0 rfl) rfl rfl ?_
  refine zS_iconst (zdec eX10_frees 1 rfl) rfl ?_
  refine zS_putfield (x := 0) (zdec eX10_frees 2 rfl) kF_X10_71 (Or.inl kf10_0) ⟨by decide, rfl⟩ rfl rfl rfl (Or.inl (fun q => by cases q)) ?_
  obtain ⟨h0, E0⟩ : ∃ x, x = zset h 108 0 0 := ⟨_, rfl⟩
  rw [show zset h 108 0 (0 : Int) = h0 from E0.symm]
  have f0 : Fr sQR h h0 := by rw [E0]; exact Fr.rf.set (by omega)
  have RD0 : DR h0 0 D := RD.fr f0 (fun k j z => by omega)
  refine zS_aload_n (zdec eX10_frees 3 rfl) rfl rfl ?_
  refine zS_iload_n (zdec eX10_frees 4 rfl) rfl ?_
  refine zS_i2l (zdec eX10_frees 5 rfl) ?_
  refine zvI (M' := mX10_isBill) (As := [zJ x]) (st := []) (zdec eX10_frees 6 rfl) kM_X10_324 kV_X10_isBill ⟨by decide, rfl⟩ rfl rfl rfl rfl rfl (by omega) (d_isBill (by omega) VD RD0) ?_
  refine zS_if_ne (tgt := 17) (zdec eX10_frees 7 rfl) rfl (fun c1 => ?_) (fun c1 => ?_)
  · have z1 := d2i_n.mp c1
    refine zS_aload_n (zdec eX10_frees 10 rfl) rfl rfl ?_
    refine zS_getref (i := 61) (zdec eX10_frees 11 rfl) kF_X10_34 ⟨by decide, rfl⟩ rfl rfl rfl rfl rfl ?_
    refine zS_bipush (zdec eX10_frees 12 rfl) rfl rfl ?_
    refine zS_ialoadE (v := (D 0 10)) (zdec eX10_frees 13 rfl) ⟨by decide, rfl⟩ (by decide) (by decide) (RD0.s (by decide) (by decide) (by decide)) ?_
    refine zS_bipush (zdec eX10_frees 14 rfl) rfl rfl ?_
    refine zS_icmp_ne (tgt := 34) (zdec eX10_frees 15 rfl) rfl (fun c2 => ?_) (fun c2 => ?_)
    · refine zS_aload_n (zdec eX10_frees 18 rfl) rfl rfl ?_
      refine zS_iconst (zdec eX10_frees 19 rfl) rfl ?_
      refine zS_iload_n (zdec eX10_frees 20 rfl) rfl ?_
      have hd0 : 0 < D 0 0 := VD.bill z1.1 z1.2
      refine zvMI (M' := mX10_does) (As := [zI 0, zI x]) (st := []) (zdec eX10_frees 21 rfl) kM_X10_481 kV_X10_does ⟨by decide, rfl⟩ rfl rfl rfl rfl rfl (by omega) (r_does (c := x) (by omega) VD hd0 RD0 (by omega) (by omega) (by omega) (by omega) (by split <;> omega) (by split <;> omega)) (fun x3 h3 ⟨hx3, D3, g3⟩ => ?_)
      have f3 : Fr sB h h3 := (f0.mono (fun k j z => Or.inl z)).tr g3 (fun k j z => z) (fun k j z => z)
      exact zlMI (zdec eX10_frees 22 rfl) rfl ⟨by unfold a_frees; rw [if_pos z1, if_pos (by omega)]; exact hx3, by unfold n_frees; rw [if_pos ⟨z1, by omega⟩]; exact D3, f3⟩
    · refine zS_bipush (zdec eX10_frees 16 rfl) rfl rfl ?_
      refine zS_goto (tgt := 40) (zdec eX10_frees 17 rfl) rfl ?_
      exact zlMI (zdec eX10_frees 22 rfl) rfl ⟨by unfold a_frees; rw [if_pos z1, if_neg (by omega)], by unfold n_frees; rw [if_neg (fun w => by have := w.2; omega)]; exact RD0, (f0.mono (fun k j z => Or.inl z))⟩
  · have z1 := d2i_0.mp c1
    refine zS_bipush (zdec eX10_frees 8 rfl) rfl rfl ?_
    exact zlMI (zdec eX10_frees 9 rfl) rfl ⟨by unfold a_frees; rw [if_neg z1], by unfold n_frees; rw [if_neg (fun w => z1 w.1)]; exact RD0, (f0.mono (fun k j z => Or.inl z))⟩
theorem q_fails {d : Nat} {h : zH} {D : Dk} {x : Int} (hd : 200 ≤ d) (VD : DV D) (RD : DR h 0 D) : zMI d mX10_fails [zA 108, zI x] h (fun r h' => r = a_fails D x ∧ DR h' 0 (n_fails D x) ∧ Fr sB h h') := by
  have nb := VD.nb
  have dy := VD.days
  have na := VD.na
  refine zmet rfl rfl rfl ?_
  refine zS_aload_n (zdec eX10_fails 0 rfl) rfl rfl ?_
  refine zS_iconst (zdec eX10_fails 1 rfl) rfl ?_
  refine zS_putfield (x := 0) (zdec eX10_fails 2 rfl) kF_X10_71 (Or.inl kf10_0) ⟨by decide, rfl⟩ rfl rfl rfl (Or.inl (fun q => by cases q)) ?_
  obtain ⟨h0, E0⟩ : ∃ x, x = zset h 108 0 0 := ⟨_, rfl⟩
  rw [show zset h 108 0 (0 : Int) = h0 from E0.symm]
  have f0 : Fr sQR h h0 := by rw [E0]; exact Fr.rf.set (by omega)
  have RD0 : DR h0 0 D := RD.fr f0 (fun k j z => by omega)
  refine zS_aload_n (zdec eX10_fails 3 rfl) rfl rfl ?_
  refine zS_iload_n (zdec eX10_fails 4 rfl) rfl ?_
  refine zvI (M' := mX10_isDay) (As := [zI x]) (st := []) (zdec eX10_fails 5 rfl) kM_X10_329 kV_X10_isDay ⟨by decide, rfl⟩ rfl rfl rfl rfl rfl (by omega) (d_isDay (by omega) VD RD0) ?_
  refine zS_if_ne (tgt := 16) (zdec eX10_fails 6 rfl) rfl (fun c1 => ?_) (fun c1 => ?_)
  · have z1 := d2i_n.mp c1
    refine zS_aload_n (zdec eX10_fails 9 rfl) rfl rfl ?_
    refine zS_getref (i := 61) (zdec eX10_fails 10 rfl) kF_X10_34 ⟨by decide, rfl⟩ rfl rfl rfl rfl rfl ?_
    refine zS_bipush (zdec eX10_fails 11 rfl) rfl rfl ?_
    refine zS_ialoadE (v := (D 0 10)) (zdec eX10_fails 12 rfl) ⟨by decide, rfl⟩ (by decide) (by decide) (RD0.s (by decide) (by decide) (by decide)) ?_
    refine zS_bipush (zdec eX10_fails 13 rfl) rfl rfl ?_
    refine zS_icmp_ne (tgt := 33) (zdec eX10_fails 14 rfl) rfl (fun c2 => ?_) (fun c2 => ?_)
    · refine zS_aload_n (zdec eX10_fails 17 rfl) rfl rfl ?_
      refine zS_iconst (zdec eX10_fails 18 rfl) rfl ?_
      refine zS_iload_n (zdec eX10_fails 19 rfl) rfl ?_
      have hd0 : 0 < D 0 0 := VD.day z1.1 z1.2
      refine zvMI (M' := mX10_does) (As := [zI 1, zI x]) (st := []) (zdec eX10_fails 20 rfl) kM_X10_481 kV_X10_does ⟨by decide, rfl⟩ rfl rfl rfl rfl rfl (by omega) (r_does (c := (5 + x)) (by omega) VD hd0 RD0 (by omega) (by omega) (by omega) (by omega) (by split <;> omega) (by split <;> omega)) (fun x3 h3 ⟨hx3, D3, g3⟩ => ?_)
      have f3 : Fr sB h h3 := (f0.mono (fun k j z => Or.inl z)).tr g3 (fun k j z => z) (fun k j z => z)
      exact zlMI (zdec eX10_fails 21 rfl) rfl ⟨by unfold a_fails; rw [if_pos z1, if_pos (by omega)]; exact hx3, by unfold n_fails; rw [if_pos ⟨z1, by omega⟩]; exact D3, f3⟩
    · refine zS_bipush (zdec eX10_fails 15 rfl) rfl rfl ?_
      refine zS_goto (tgt := 39) (zdec eX10_fails 16 rfl) rfl ?_
      exact zlMI (zdec eX10_fails 21 rfl) rfl ⟨by unfold a_fails; rw [if_pos z1, if_neg (by omega)], by unfold n_fails; rw [if_neg (fun w => by have := w.2; omega)]; exact RD0, (f0.mono (fun k j z => Or.inl z))⟩
  · have z1 := d2i_0.mp c1
    refine zS_bipush (zdec eX10_fails 7 rfl) rfl rfl ?_
    exact zlMI (zdec eX10_fails 8 rfl) rfl ⟨by unfold a_fails; rw [if_neg z1], by unfold n_fails; rw [if_neg (fun w => z1 w.1)]; exact RD0, (f0.mono (fun k j z => Or.inl z))⟩
theorem q_undo {d : Nat} {h : zH} {D : Dk} (hd : 200 ≤ d) (VD : DV D) (RD : DR h 0 D) : zMI d mX10_undo [zA 108] h (fun r h' => r = a_undo D ∧ DR h' 0 (n_undo D) ∧ Fr sB h h') := by
  have na := VD.na
  refine zmet rfl rfl rfl ?_
  refine zS_aload_n (zdec eX10_undo 0 rfl) rfl rfl ?_
  refine zS_iconst (zdec eX10_undo 1 rfl) rfl ?_
  refine zS_putfield (x := 0) (zdec eX10_undo 2 rfl) kF_X10_71 (Or.inl kf10_0) ⟨by decide, rfl⟩ rfl rfl rfl (Or.inl (fun q => by cases q)) ?_
  obtain ⟨h0, E0⟩ : ∃ x, x = zset h 108 0 0 := ⟨_, rfl⟩
  rw [show zset h 108 0 (0 : Int) = h0 from E0.symm]
  have f0 : Fr sQR h h0 := by rw [E0]; exact Fr.rf.set (by omega)
  have RD0 : DR h0 0 D := RD.fr f0 (fun k j z => by omega)
  refine zS_aload_n (zdec eX10_undo 3 rfl) rfl rfl ?_
  refine zvI (M' := mX10_isDesk) (As := []) (st := []) (zdec eX10_undo 4 rfl) kM_X10_332 kV_X10_isDesk ⟨by decide, rfl⟩ rfl rfl rfl rfl rfl (by omega) (d_isDesk VD RD0) ?_
  refine zS_if_ne (tgt := 15) (zdec eX10_undo 5 rfl) rfl (fun c1 => ?_) (fun c1 => ?_)
  · have z1 := d2i_n.mp c1
    refine zS_aload_n (zdec eX10_undo 8 rfl) rfl rfl ?_
    refine zS_getref (i := 61) (zdec eX10_undo 9 rfl) kF_X10_34 ⟨by decide, rfl⟩ rfl rfl rfl rfl rfl ?_
    refine zS_bipush (zdec eX10_undo 10 rfl) rfl rfl ?_
    refine zS_ialoadE (v := (D 0 10)) (zdec eX10_undo 11 rfl) ⟨by decide, rfl⟩ (by decide) (by decide) (RD0.s (by decide) (by decide) (by decide)) ?_
    refine zS_if_ne (tgt := 28) (zdec eX10_undo 12 rfl) rfl (fun c2 => ?_) (fun c2 => ?_)
    · refine zS_aload_n (zdec eX10_undo 15 rfl) rfl rfl ?_
      refine zS_getref (i := 61) (zdec eX10_undo 16 rfl) kF_X10_34 ⟨by decide, rfl⟩ rfl rfl rfl rfl rfl ?_
      refine zS_bipush (zdec eX10_undo 17 rfl) rfl rfl ?_
      refine zS_dup2 (zdec eX10_undo 18 rfl) (fun q => by cases q) (fun q => by cases q) ?_
      refine zS_ialoadE (v := (D 0 10)) (zdec eX10_undo 19 rfl) ⟨by decide, rfl⟩ (by decide) (by decide) (RD0.s (by decide) (by decide) (by decide)) ?_
      refine zS_iconst (zdec eX10_undo 20 rfl) rfl ?_
      refine zS_isub (zdec eX10_undo 21 rfl) ⟨by omega, by omega⟩ ?_
      refine zS_iastore (zdec eX10_undo 22 rfl) ⟨by decide, rfl⟩ (by decide) (by decide) ?_
      refine zS_aload_n (zdec eX10_undo 23 rfl) rfl rfl ?_
      refine zS_getref (i := 61) (zdec eX10_undo 24 rfl) kF_X10_34 ⟨by decide, rfl⟩ rfl rfl rfl rfl rfl ?_
      refine zS_bipush (zdec eX10_undo 25 rfl) rfl rfl ?_
      refine zS_ialoadE (v := ((D 0 10) - 1)) (zdec eX10_undo 26 rfl) ⟨by decide, rfl⟩ (by decide) (by decide) (zset_s _ _ _ _) ?_
      exact zlMI (zdec eX10_undo 27 rfl) rfl ⟨by unfold a_undo; rw [if_pos z1, if_neg (by omega)], by unfold n_undo; rw [if_pos ⟨z1, by omega⟩]; exact RD0.ac (by omega), (f0.mono (fun k j z => Or.inl z)).set (Or.inr (by unfold blk; omega))⟩
    · refine zS_bipush (zdec eX10_undo 13 rfl) rfl rfl ?_
      exact zlMI (zdec eX10_undo 14 rfl) rfl ⟨by unfold a_undo; rw [if_pos z1, if_pos (by omega)], by unfold n_undo; rw [if_neg (fun w => by have := w.2; omega)]; exact RD0, (f0.mono (fun k j z => Or.inl z))⟩
  · have z1 := d2i_0.mp c1
    refine zS_bipush (zdec eX10_undo 6 rfl) rfl rfl ?_
    exact zlMI (zdec eX10_undo 7 rfl) rfl ⟨by unfold a_undo; rw [if_neg z1], by unfold n_undo; rw [if_neg (fun w => z1 w.1)]; exact RD0, (f0.mono (fun k j z => Or.inl z))⟩
theorem q_anew {d : Nat} {h : zH} {D : Dk} (hd : 200 ≤ d) (VD : DV D) (RD : DR h 0 D) : zMI d mX10_anew [zA 108] h (fun r h' => r = a_anew D ∧ DR h' 0 (n_anew D) ∧ Fr sB h h') := by
  have na := VD.na
  refine zmet rfl rfl rfl ?_
  refine zS_aload_n (zdec eX10_anew 0 rfl) rfl rfl ?_
  refine zS_iconst (zdec eX10_anew 1 rfl) rfl ?_
  refine zS_putfield (x := 0) (zdec eX10_anew 2 rfl) kF_X10_71 (Or.inl kf10_0) ⟨by decide, rfl⟩ rfl rfl rfl (Or.inl (fun q => by cases q)) ?_
  obtain ⟨h0, E0⟩ : ∃ x, x = zset h 108 0 0 := ⟨_, rfl⟩
  rw [show zset h 108 0 (0 : Int) = h0 from E0.symm]
  have f0 : Fr sQR h h0 := by rw [E0]; exact Fr.rf.set (by omega)
  have RD0 : DR h0 0 D := RD.fr f0 (fun k j z => by omega)
  refine zS_aload_n (zdec eX10_anew 3 rfl) rfl rfl ?_
  refine zvI (M' := mX10_isDesk) (As := []) (st := []) (zdec eX10_anew 4 rfl) kM_X10_332 kV_X10_isDesk ⟨by decide, rfl⟩ rfl rfl rfl rfl rfl (by omega) (d_isDesk VD RD0) ?_
  refine zS_if_ne (tgt := 15) (zdec eX10_anew 5 rfl) rfl (fun c1 => ?_) (fun c1 => ?_)
  · have z1 := d2i_n.mp c1
    refine zS_aload_n (zdec eX10_anew 8 rfl) rfl rfl ?_
    refine zS_getref (i := 61) (zdec eX10_anew 9 rfl) kF_X10_34 ⟨by decide, rfl⟩ rfl rfl rfl rfl rfl ?_
    refine zS_bipush (zdec eX10_anew 10 rfl) rfl rfl ?_
    refine zS_ialoadE (v := (D 0 10)) (zdec eX10_anew 11 rfl) ⟨by decide, rfl⟩ (by decide) (by decide) (RD0.s (by decide) (by decide) (by decide)) ?_
    refine zS_istore_n (zdec eX10_anew 12 rfl) rfl ?_
    refine zS_aload_n (zdec eX10_anew 13 rfl) rfl rfl ?_
    refine zS_getref (i := 61) (zdec eX10_anew 14 rfl) kF_X10_34 ⟨by decide, rfl⟩ rfl rfl rfl rfl rfl ?_
    refine zS_bipush (zdec eX10_anew 15 rfl) rfl rfl ?_
    refine zS_iconst (zdec eX10_anew 16 rfl) rfl ?_
    refine zS_iastore (zdec eX10_anew 17 rfl) ⟨by decide, rfl⟩ (by decide) (by decide) ?_
    refine zS_iload_n (zdec eX10_anew 18 rfl) rfl ?_
    exact zlMI (zdec eX10_anew 19 rfl) rfl ⟨by unfold a_anew; rw [if_pos z1], by unfold n_anew; rw [if_pos z1]; exact RD0.ac (by omega), (f0.mono (fun k j z => Or.inl z)).set (Or.inr (by unfold blk; omega))⟩
  · have z1 := d2i_0.mp c1
    refine zS_bipush (zdec eX10_anew 6 rfl) rfl rfl ?_
    exact zlMI (zdec eX10_anew 7 rfl) rfl ⟨by unfold a_anew; rw [if_neg z1], by unfold n_anew; rw [if_neg z1]; exact RD0, (f0.mono (fun k j z => Or.inl z))⟩
theorem q_ranks {d : Nat} {h : zH} {D : Dk} {x y : Int} (hd : 200 ≤ d) (VD : DV D) (RD : DR h 0 D) : zMI d mX10_ranks [zA 108, zI x, zI y] h (fun r h' => r = a_ranks D x y ∧ DR h' 0 (n_ranks D x y) ∧ Fr sB h h') := by
  have na := VD.na
  have ns := VD.ns
  refine zmet rfl rfl rfl ?_
  refine zS_aload_n (zdec eX10_ranks 0 rfl) rfl rfl ?_
  refine zS_iconst (zdec eX10_ranks 1 rfl) rfl ?_
  refine zS_putfield (x := 0) (zdec eX10_ranks 2 rfl) kF_X10_71 (Or.inl kf10_0) ⟨by decide, rfl⟩ rfl rfl rfl (Or.inl (fun q => by cases q)) ?_
  obtain ⟨h0, E0⟩ : ∃ x, x = zset h 108 0 0 := ⟨_, rfl⟩
  rw [show zset h 108 0 (0 : Int) = h0 from E0.symm]
  have f0 : Fr sQR h h0 := by rw [E0]; exact Fr.rf.set (by omega)
  have RD0 : DR h0 0 D := RD.fr f0 (fun k j z => by omega)
  refine zS_aload_n (zdec eX10_ranks 3 rfl) rfl rfl ?_
  refine zS_iload_n (zdec eX10_ranks 4 rfl) rfl ?_
  refine zvI (M' := mX10_isSupplier) (As := [zI x]) (st := []) (zdec eX10_ranks 5 rfl) kM_X10_243 kV_X10_isSupplier ⟨by decide, rfl⟩ rfl rfl rfl rfl rfl (by omega) (d_isSup (by omega) VD RD0) ?_
  refine zS_if_eq (tgt := 25) (zdec eX10_ranks 6 rfl) rfl (fun c1 => ?_) (fun c1 => ?_)
  · have z1 := d2i_0.mp c1
    refine zS_bipush (zdec eX10_ranks 13 rfl) rfl rfl ?_
    exact zlMI (zdec eX10_ranks 14 rfl) rfl ⟨by unfold a_ranks; rw [if_neg (by omega)], by unfold n_ranks; rw [if_neg (by omega)]; exact RD0, (f0.mono (fun k j z => Or.inl z))⟩
  · have z1 := d2i_n.mp c1
    refine zS_iload_n (zdec eX10_ranks 7 rfl) rfl ?_
    refine zS_i2l (zdec eX10_ranks 8 rfl) ?_
    refine zS_lconst (zdec eX10_ranks 9 rfl) ?_
    refine zS_ldc2_w (zdec eX10_ranks 10 rfl) kj_X10_484 rfl ?_
    refine zsI (M' := mX10_in) (As := [zJ y, zJ 0, zJ 9]) (st := []) (zdec eX10_ranks 11 rfl) kM_X10_76 kS_X10_in rfl rfl rfl (by omega) r_in ?_
    refine zS_if_ne (tgt := 28) (zdec eX10_ranks 12 rfl) rfl (fun c2 => ?_) (fun c2 => ?_)
    · have z2 := d2i_n.mp c2
      refine zS_aload_n (zdec eX10_ranks 15 rfl) rfl rfl ?_
      refine zS_getref (i := 61) (zdec eX10_ranks 16 rfl) kF_X10_34 ⟨by decide, rfl⟩ rfl rfl rfl rfl rfl ?_
      refine zS_bipush (zdec eX10_ranks 17 rfl) rfl rfl ?_
      refine zS_ialoadE (v := (D 0 10)) (zdec eX10_ranks 18 rfl) ⟨by decide, rfl⟩ (by decide) (by decide) (RD0.s (by decide) (by decide) (by decide)) ?_
      refine zS_if_le (tgt := 41) (zdec eX10_ranks 19 rfl) rfl (fun c3 => ?_) (fun c3 => ?_)
      · refine zS_aload_n (zdec eX10_ranks 22 rfl) rfl rfl ?_
        refine zS_getref (i := 62) (zdec eX10_ranks 23 rfl) kF_X10_37 ⟨by decide, rfl⟩ rfl rfl rfl rfl rfl ?_
        refine zS_iload_n (zdec eX10_ranks 24 rfl) rfl ?_
        refine zS_ialoadE (v := (D 1 x)) (zdec eX10_ranks 25 rfl) ⟨by decide, rfl⟩ (by omega) (by omega) (RD0.rk (by omega) (by omega) (by omega)) ?_
        refine zS_istore_n (zdec eX10_ranks 26 rfl) rfl ?_
        refine zS_aload_n (zdec eX10_ranks 27 rfl) rfl rfl ?_
        refine zS_getref (i := 62) (zdec eX10_ranks 28 rfl) kF_X10_37 ⟨by decide, rfl⟩ rfl rfl rfl rfl rfl ?_
        refine zS_iload_n (zdec eX10_ranks 29 rfl) rfl ?_
        refine zS_iload_n (zdec eX10_ranks 30 rfl) rfl ?_
        refine zS_iastore (zdec eX10_ranks 31 rfl) ⟨by decide, rfl⟩ (by omega) (by omega) ?_
        refine zS_iload_n (zdec eX10_ranks 32 rfl) rfl ?_
        exact zlMI (zdec eX10_ranks 33 rfl) rfl ⟨by unfold a_ranks; rw [if_pos (by omega), if_neg (by omega)], by unfold n_ranks; rw [if_pos (by omega)]; exact RD0.rkS _ _, (f0.mono (fun k j z => Or.inl z)).set (Or.inr (by unfold blk; omega))⟩
      · refine zS_bipush (zdec eX10_ranks 20 rfl) rfl rfl ?_
        exact zlMI (zdec eX10_ranks 21 rfl) rfl ⟨by unfold a_ranks; rw [if_pos (by omega), if_pos (by omega)], by unfold n_ranks; rw [if_neg (by omega)]; exact RD0, (f0.mono (fun k j z => Or.inl z))⟩
    · have z2 := d2i_0.mp c2
      refine zS_bipush (zdec eX10_ranks 13 rfl) rfl rfl ?_
      exact zlMI (zdec eX10_ranks 14 rfl) rfl ⟨by unfold a_ranks; rw [if_neg (by omega)], by unfold n_ranks; rw [if_neg (by omega)]; exact RD0, (f0.mono (fun k j z => Or.inl z))⟩
theorem K_count {d : Nat} {h h0 : zH} {W : Rw} {x : Int} (VW : RV W) (RW0 : RR h0 W) (f0 : Fr sQR h h0) : ∀ (n : Nat) (e : Int), 0 ≤ e → e + n = 4 → zS mX10_count (zr d) 66 [zA 108, zI x, zI (sumI (fun s => if W 0 s = -1 then 0 else 1) e), zI e] [] TT h0 (zAnI (fun r h' => r = sumI (fun s => if W 0 s = -1 then 0 else 1) 4 ∧ Fr sQR h h')) := by
  intro n
  induction n with
  | zero =>
    intro e a1 a2
    refine zS_iload_n (zdec eX10_count 28 rfl) rfl ?_
    refine zS_iconst (zdec eX10_count 29 rfl) rfl ?_
    refine zS_icmp_ge (tgt := 95) (zdec eX10_count 30 rfl) rfl (fun cz => ?_) (fun cz => absurd (by omega) cz)
    refine zS_iload_n (zdec eX10_count 45 rfl) rfl ?_
    exact zlMI (zdec eX10_count 46 rfl) rfl ⟨by rw [show e = 4 by omega], f0⟩
  | succ n ih =>
    intro e a1 a2
    have s0 := sumI_nn (f := fun s => if W 0 s = -1 then 0 else 1) (k := e) (fun j _ _ => by split <;> omega)
    have s1 := sumI_le (f := fun s => if W 0 s = -1 then 0 else 1) (k := e) (B := 1) a1 (fun j _ _ => by split <;> omega)
    refine zS_iload_n (zdec eX10_count 28 rfl) rfl ?_
    refine zS_iconst (zdec eX10_count 29 rfl) rfl ?_
    refine zS_icmp_ge (tgt := 95) (zdec eX10_count 30 rfl) rfl (fun cz => absurd cz (by omega)) (fun cz => ?_)
    refine zS_iload_n (zdec eX10_count 31 rfl) rfl ?_
    refine zS_aload_n (zdec eX10_count 32 rfl) rfl rfl ?_
    refine zS_getref (i := 55) (zdec eX10_count 33 rfl) kF_X10_7 ⟨by decide, rfl⟩ rfl rfl rfl rfl rfl ?_
    refine zS_iload_n (zdec eX10_count 34 rfl) rfl ?_
    refine zS_ialoadE (v := (if W 0 e = -1 then -1 else W 1 e)) (zdec eX10_count 35 rfl) ⟨by decide, rfl⟩ (by omega) (by omega) (RW0.wd (by omega) (by omega)) ?_
    refine zS_iconst (zdec eX10_count 36 rfl) rfl ?_
    refine zS_icmp_ne (tgt := 86) (zdec eX10_count 37 rfl) rfl (fun c1 => ?_) (fun c1 => ?_)
    · refine zS_iconst (zdec eX10_count 40 rfl) rfl ?_
      refine zS_iadd (zdec eX10_count 41 rfl) ⟨by omega, by omega⟩ ?_
      refine zS_istore_n (zdec eX10_count 42 rfl) rfl ?_
      refine zS_iinc (zdec eX10_count 43 rfl) rfl rfl ⟨by omega, by omega⟩ ?_
      refine zS_goto (tgt := 66) (zdec eX10_count 44 rfl) rfl ?_
      have k := ih (e + 1) (by omega) (by omega)
      rw [sumI_s _ a1, if_neg (fun w => c1 (if_pos w))] at k
      exact k
    · refine zS_iconst (zdec eX10_count 38 rfl) rfl ?_
      refine zS_goto (tgt := 87) (zdec eX10_count 39 rfl) rfl ?_
      refine zS_iadd (zdec eX10_count 41 rfl) ⟨by omega, by omega⟩ ?_
      refine zS_istore_n (zdec eX10_count 42 rfl) rfl ?_
      refine zS_iinc (zdec eX10_count 43 rfl) rfl rfl ⟨by omega, by omega⟩ ?_
      refine zS_goto (tgt := 66) (zdec eX10_count 44 rfl) rfl ?_
      have k := ih (e + 1) (by omega) (by omega)
      rw [sumI_s _ a1, if_pos (by by_cases w : W 0 e = -1; exact w; rw [if_neg w] at c1; have := VW.wd a1 (by omega) w; omega)] at k
      exact k
theorem q_count {d : Nat} {h : zH} {D : Dk} {W : Rw} {t x : Int} (hd : 200 ≤ d) (RD : DR h 0 D) (RW : RR h W) (VW : RV W) (ht : h 108 6 = t) : zMI d mX10_count [zA 108, zI x] h (fun r h' => r = a_count D W t x ∧ Fr sQR h h') := by
  refine zmet rfl rfl rfl ?_
  refine zS_aload_n (zdec eX10_count 0 rfl) rfl rfl ?_
  refine zS_iconst (zdec eX10_count 1 rfl) rfl ?_
  refine zS_putfield (x := 0) (zdec eX10_count 2 rfl) kF_X10_71 (Or.inl kf10_0) ⟨by decide, rfl⟩ rfl rfl rfl (Or.inl (fun q => by cases q)) ?_
  obtain ⟨h0, E0⟩ : ∃ x, x = zset h 108 0 0 := ⟨_, rfl⟩
  rw [show zset h 108 0 (0 : Int) = h0 from E0.symm]
  have f0 : Fr sQR h h0 := by rw [E0]; exact Fr.rf.set (by omega)
  have RD0 : DR h0 0 D := RD.fr f0 (fun k j z => by omega)
  have RW0 : RR h0 W := RW.fr f0 (fun k j z => by omega)
  have ht0 : h0 108 6 = t := by rw [E0, zset_n (by omega)]; exact ht
  refine zS_iload_n (zdec eX10_count 3 rfl) rfl ?_
  refine zS_i2l (zdec eX10_count 4 rfl) ?_
  refine zS_lconst (zdec eX10_count 5 rfl) ?_
  refine zS_ldc2_w (zdec eX10_count 6 rfl) kj_X10_484 rfl ?_
  refine zsI (M' := mX10_in) (As := [zJ x, zJ 0, zJ 9]) (st := []) (zdec eX10_count 7 rfl) kM_X10_76 kS_X10_in rfl rfl rfl (by omega) r_in ?_
  refine zS_if_eq (tgt := 24) (zdec eX10_count 8 rfl) rfl (fun c1 => ?_) (fun c1 => ?_)
  · have z1 := d2i_0.mp c1
    refine zS_iconst (zdec eX10_count 14 rfl) rfl ?_
    refine zS_istore_n (zdec eX10_count 15 rfl) rfl ?_
    refine zS_iload_n (zdec eX10_count 16 rfl) rfl ?_
    rcases (show x = 10 ∨ x = 11 ∨ x = 12 ∨ (x < 10 ∨ 12 < x) by omega) with e0 | e0 | e0 | e0
    · refine zS_tableIn (off := 25) (tgt := 52) (zdec eX10_count 17 rfl) (by rw [e0]; decide) (by rw [e0]; decide) (by rw [e0]; rfl) rfl ?_
      refine zS_aload_n (zdec eX10_count 18 rfl) rfl rfl ?_
      refine zS_getref (i := 60) (zdec eX10_count 19 rfl) kF_X10_31 ⟨by decide, rfl⟩ rfl rfl rfl rfl rfl ?_
      refine zS_iconst (zdec eX10_count 20 rfl) rfl ?_
      refine zS_ialoadE (v := (D 0 0)) (zdec eX10_count 21 rfl) ⟨by decide, rfl⟩ (by decide) (by decide) RD0.l ?_
      exact zlMI (zdec eX10_count 22 rfl) rfl ⟨by unfold a_count; rw [if_neg (by omega), if_pos (by omega)], f0⟩
    · refine zS_tableIn (off := 32) (tgt := 59) (zdec eX10_count 17 rfl) (by rw [e0]; decide) (by rw [e0]; decide) (by rw [e0]; rfl) rfl ?_
      refine zS_aload_n (zdec eX10_count 23 rfl) rfl rfl ?_
      refine zS_getfieldE (x := 6) (v := t) (zdec eX10_count 24 rfl) kF_X10_88 ⟨by decide, rfl⟩ rfl rfl rfl ht0 ?_
      exact zlMI (zdec eX10_count 25 rfl) rfl ⟨by unfold a_count; rw [if_neg (by omega), if_neg (by omega), if_pos (by omega)], f0⟩
    · refine zS_tableIn (off := 37) (tgt := 64) (zdec eX10_count 17 rfl) (by rw [e0]; decide) (by rw [e0]; decide) (by rw [e0]; rfl) rfl ?_
      refine zS_iconst (zdec eX10_count 26 rfl) rfl ?_
      refine zS_istore_n (zdec eX10_count 27 rfl) rfl ?_
      unfold a_count
      rw [if_neg (by omega), if_neg (by omega), if_neg (by omega), if_pos (by omega)]
      exact K_count VW RW0 f0 4 0 (by omega) (by omega)
    · refine zS_tableOut (tgt := 97) (zdec eX10_count 17 rfl) (by omega) rfl ?_
      refine zS_iconst (zdec eX10_count 47 rfl) rfl ?_
      exact zlMI (zdec eX10_count 48 rfl) rfl ⟨by unfold a_count; rw [if_neg (by omega), if_neg (by omega), if_neg (by omega), if_neg (by omega)], f0⟩
  · have z1 := d2i_n.mp c1
    refine zS_aload_n (zdec eX10_count 9 rfl) rfl rfl ?_
    refine zS_getref (i := 61) (zdec eX10_count 10 rfl) kF_X10_34 ⟨by decide, rfl⟩ rfl rfl rfl rfl rfl ?_
    refine zS_iload_n (zdec eX10_count 11 rfl) rfl ?_
    refine zS_ialoadE (v := (D 0 (x + 1))) (zdec eX10_count 12 rfl) ⟨by decide, rfl⟩ (by omega) (by omega) (RD0.s (by omega) (by omega) rfl) ?_
    exact zlMI (zdec eX10_count 13 rfl) rfl ⟨by unfold a_count; rw [if_pos (by omega)], f0⟩

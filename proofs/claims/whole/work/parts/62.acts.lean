abbrev sD : Int → Int → Prop := fun k _ => (14 ≤ k ∧ k ≤ 31) ∨ (75 ≤ k ∧ k ≤ 107)
theorem zset_n {h : zH} {k j v a b : Int} (hn : ¬ (a = k ∧ b = j)) : zset h k j v a b = h a b := if_neg hn
theorem zset_e {h : zH} {k j v a b : Int} (h1 : a = k) (h2 : b = j) : zset h k j v a b = v := if_pos ⟨h1, h2⟩
def acD (D : Dk) (n : Int) : Dk := zset D 0 10 n
def adA (D : Dk) (c : Int) : Dk := zset (zset D 10 (D 0 10) c) 0 10 (D 0 10 + 1)
def rkD (D : Dk) (s n : Int) : Dk := zset D 1 s n
theorem DC.ac {h : zH} {D : Dk} (R : DC h 15 D) {n : Int} (hn : n ≤ D 0 10) : DC (zset h 15 10 n) 15 (acD D n) := by
  unfold acD
  have e7 : zset D 0 10 n 0 7 = D 0 7 := zset_n (by omega)
  have e8 : zset D 0 10 n 0 8 = D 0 8 := zset_n (by omega)
  have e9 : zset D 0 10 n 0 9 = D 0 9 := zset_n (by omega)
  have e10 : zset D 0 10 n 0 10 = n := zset_s _ _ _ _
  refine ⟨fun j j0 j1 => ?_, fun s s0 s1 s2 => ?_, fun k w k0 k1 k2 w0 w1 => ?_, fun i i0 i1 i2 => ?_, fun i i0 i1 i2 => ?_⟩
  · by_cases w : j = 10
    · rw [w, zset_s, zset_s]
    · rw [zset_n (by omega), zset_n (by omega)]; exact R.1 j j0 j1
  · rw [zset_n (by omega), zset_n (by omega)]; exact R.2.1 s s0 s1 (by omega)
  · rw [zset_n (by omega), zset_n (by omega)]; exact R.2.2.1 k w k0 k1 (by omega) w0 w1
  · rw [zset_n (by omega), zset_n (by omega), zset_n (by omega), zset_n (by omega)]; exact R.2.2.2.1 i i0 i1 (by omega)
  · rw [zset_n (by omega), zset_n (by omega)]; exact R.2.2.2.2 i i0 i1 (by omega)
theorem DV.ac {D : Dk} (V : DV D) {n : Int} (h0 : 0 ≤ n) (hn : n ≤ D 0 10) : DV (acD D n) := by
  unfold acD
  have na := V.na
  have e : ∀ k j, ¬ (k = 0 ∧ j = 10) → zset D 0 10 n k j = D k j := fun k j hn => zset_n hn
  have e10 : zset D 0 10 n 0 10 = n := zset_s _ _ _ _
  refine ⟨by rw [e _ _ (by omega)]; exact V.lines, by rw [e _ _ (by omega)]; exact V.days, by rw [e _ _ (by omega)]; exact V.law, by rw [e _ _ (by omega)]; exact V.odds, by rw [e _ _ (by omega)]; exact V.cash, by rw [e _ _ (by omega)]; exact V.fl, by rw [e _ _ (by omega)]; exact V.fee, by rw [e _ _ (by omega)]; exact V.ns, by rw [e _ _ (by omega)]; exact V.nb, by rw [e _ _ (by omega)]; exact V.nl, by rw [e10]; omega, ?_, ?_, ?_, ?_, ?_, ?_⟩
  · rw [e _ _ (by omega), e _ _ (by omega)]; exact V.some
  · rw [e _ _ (by omega)]
    intro z j j0 j1
    by_cases w : j = 10
    · subst w
      have := V.none z 10 (by omega) (by omega)
      rw [e10]; omega
    · rw [e _ _ (by omega)]; exact V.none z j j0 j1
  · intro s s0 s1
    rw [e _ _ (by omega)] at s1
    rw [e _ _ (by omega)]; exact V.rk s0 s1
  · intro b b0 b1
    rw [e _ _ (by omega)] at b1
    rw [e _ _ (by omega), e _ _ (by omega), e _ _ (by omega), e _ _ (by omega), e _ _ (by omega), e _ _ (by omega), e _ _ (by omega), e _ _ (by omega)]; exact V.row b0 b1
  · intro i i0 i1
    rw [e _ _ (by omega)] at i1
    rw [e _ _ (by omega), e _ _ (by omega)]; exact V.ln i0 i1
  · intro i i0 i1
    rw [e10] at i1
    rw [e _ _ (by omega), e _ _ (by omega), e _ _ (by omega)]; exact V.act i0 (by omega)
theorem DC.ad {h : zH} {D : Dk} (R : DC h 15 D) (c : Int) : DC (zset (zset h 25 (D 0 10) c) 15 10 (D 0 10 + 1)) 15 (adA D c) := by
  unfold adA
  have e : ∀ k j, ¬ (k = 0 ∧ j = 10) → ¬ (k = 10 ∧ j = D 0 10) → zset (zset D 10 (D 0 10) c) 0 10 (D 0 10 + 1) k j = D k j := fun k j h1 h2 => by rw [zset_n h1, zset_n h2]
  have e10 : zset (zset D 10 (D 0 10) c) 0 10 (D 0 10 + 1) 0 10 = D 0 10 + 1 := zset_s _ _ _ _
  have g : ∀ k j, ¬ (k = 15 ∧ j = 10) → ¬ (k = 25 ∧ j = D 0 10) → zset (zset h 25 (D 0 10) c) 15 10 (D 0 10 + 1) k j = h k j := fun k j h1 h2 => by rw [zset_n h1, zset_n h2]
  have e7 := e 0 7 (by omega) (by omega)
  have e8 := e 0 8 (by omega) (by omega)
  have e9 := e 0 9 (by omega) (by omega)
  refine ⟨fun j j0 j1 => ?_, fun s s0 s1 s2 => ?_, fun k w k0 k1 k2 w0 w1 => ?_, fun i i0 i1 i2 => ?_, fun i i0 i1 i2 => ?_⟩
  · by_cases w : j = 10
    · rw [w, zset_s, zset_s]
    · rw [e _ _ (by omega) (by omega), g _ _ (by omega) (by omega)]; exact R.1 j j0 j1
  · rw [e _ _ (by omega) (by omega), g _ _ (by omega) (by omega)]; exact R.2.1 s s0 s1 (by omega)
  · rw [e _ _ (by omega) (by omega), g _ _ (by omega) (by omega)]; exact R.2.2.1 k w k0 k1 (by omega) w0 w1
  · rw [e _ _ (by omega) (by omega), e _ _ (by omega) (by omega), g _ _ (by omega) (by omega), g _ _ (by omega) (by omega)]; exact R.2.2.2.1 i i0 i1 (by omega)
  · by_cases w : i = D 0 10
    · rw [w, zset_n (by omega), zset_e (by omega) rfl, zset_n (by omega), zset_s]
    · rw [e _ _ (by omega) (by omega), g _ _ (by omega) (by omega)]; exact R.2.2.2.2 i i0 i1 (by omega)
theorem DV.ad {D : Dk} (V : DV D) (hd0 : 0 < D 0 0) {c : Int} (c0 : 0 ≤ c) (c1 : c < 5 + D 0 1) (c2 : c < 5 → c < D 0 8) (hn : D 0 10 < 20) : DV (adA D c) := by
  unfold adA
  have na := V.na
  have e : ∀ k j, ¬ (k = 0 ∧ j = 10) → ¬ (k = 10 ∧ j = D 0 10) → zset (zset D 10 (D 0 10) c) 0 10 (D 0 10 + 1) k j = D k j := fun k j h1 h2 => by rw [zset_n h1, zset_n h2]
  have e10 : zset (zset D 10 (D 0 10) c) 0 10 (D 0 10 + 1) 0 10 = D 0 10 + 1 := zset_s _ _ _ _
  have e0 := e 0 0 (by omega) (by omega)
  have e1 := e 0 1 (by omega) (by omega)
  have e8 := e 0 8 (by omega) (by omega)
  refine ⟨by rw [e0]; exact V.lines, by rw [e1]; exact V.days, by rw [e _ _ (by omega) (by omega)]; exact V.law, by rw [e _ _ (by omega) (by omega)]; exact V.odds, by rw [e _ _ (by omega) (by omega)]; exact V.cash, by rw [e _ _ (by omega) (by omega)]; exact V.fl, by rw [e _ _ (by omega) (by omega)]; exact V.fee, by rw [e _ _ (by omega) (by omega)]; exact V.ns, by rw [e8]; exact V.nb, by rw [e _ _ (by omega) (by omega)]; exact V.nl, by rw [e10]; omega, ?_, ?_, ?_, ?_, ?_, ?_⟩
  · rw [e0, e1]; exact V.some
  · rw [e0]; intro z; omega
  · intro s s0 s1
    rw [e 0 7 (by omega) (by omega)] at s1
    rw [e _ _ (by omega) (by omega)]; exact V.rk s0 s1
  · intro b b0 b1
    rw [e8] at b1
    have nb := V.nb
    rw [e _ _ (by omega) (by omega), e _ _ (by omega) (by omega), e _ _ (by omega) (by omega), e _ _ (by omega) (by omega), e _ _ (by omega) (by omega), e _ _ (by omega) (by omega), e _ _ (by omega) (by omega), e _ _ (by omega) (by omega)]; exact V.row b0 b1
  · intro i i0 i1
    rw [e 0 9 (by omega) (by omega)] at i1
    rw [e _ _ (by omega) (by omega), e _ _ (by omega) (by omega)]; exact V.ln i0 i1
  · intro i i0 i1
    rw [e10] at i1
    rw [e1, e8]
    by_cases w : i = D 0 10
    · rw [w, zset_n (by omega), zset_s]; exact ⟨c0, c1, c2⟩
    · rw [e _ _ (by omega) (by omega)]; exact V.act i0 (by omega)
theorem DC.rkS {h : zH} {D : Dk} (R : DC h 15 D) (s n : Int) : DC (zset h 16 s n) 15 (rkD D s n) := by
  unfold rkD
  have e : ∀ k j, k ≠ 1 → zset D 1 s n k j = D k j := fun k j h1 => zset_n (by omega)
  have g : ∀ k j, k ≠ 16 → zset h 16 s n k j = h k j := fun k j h1 => zset_n (by omega)
  have e7 := e 0 7 (by omega)
  have e8 := e 0 8 (by omega)
  have e9 := e 0 9 (by omega)
  have e10 := e 0 10 (by omega)
  refine ⟨fun j j0 j1 => ?_, fun t t0 t1 t2 => ?_, fun k w k0 k1 k2 w0 w1 => ?_, fun i i0 i1 i2 => ?_, fun i i0 i1 i2 => ?_⟩
  · rw [e _ _ (by omega), g _ _ (by omega)]; exact R.1 j j0 j1
  · by_cases w : t = s
    · rw [w, zset_e (by omega) rfl, zset_s]
    · rw [zset_n (by omega), zset_n (by omega)]; exact R.2.1 t t0 t1 (by omega)
  · rw [e _ _ (by omega), g _ _ (by omega)]; exact R.2.2.1 k w k0 k1 (by omega) w0 w1
  · rw [e _ _ (by omega), e _ _ (by omega), g _ _ (by omega), g _ _ (by omega)]; exact R.2.2.2.1 i i0 i1 (by omega)
  · rw [e _ _ (by omega), g _ _ (by omega)]; exact R.2.2.2.2 i i0 i1 (by omega)
theorem DV.rkS {D : Dk} (V : DV D) (s : Int) {n : Int} (n0 : 0 ≤ n) (n1 : n ≤ 9) : DV (rkD D s n) := by
  unfold rkD
  have e : ∀ k j, k ≠ 1 → zset D 1 s n k j = D k j := fun k j h1 => zset_n (by omega)
  have e0 := e 0 0 (by omega)
  have e1 := e 0 1 (by omega)
  have e8 := e 0 8 (by omega)
  have e10 := e 0 10 (by omega)
  refine ⟨by rw [e0]; exact V.lines, by rw [e1]; exact V.days, by rw [e _ _ (by omega)]; exact V.law, by rw [e _ _ (by omega)]; exact V.odds, by rw [e _ _ (by omega)]; exact V.cash, by rw [e _ _ (by omega)]; exact V.fl, by rw [e _ _ (by omega)]; exact V.fee, by rw [e _ _ (by omega)]; exact V.ns, by rw [e8]; exact V.nb, by rw [e _ _ (by omega)]; exact V.nl, by rw [e10]; exact V.na, ?_, ?_, ?_, ?_, ?_, ?_⟩
  · rw [e0, e1]; exact V.some
  · rw [e0]; intro z j j0 j1; rw [e _ _ (by omega)]; exact V.none z j j0 j1
  · intro t t0 t1
    rw [e 0 7 (by omega)] at t1
    by_cases w : t = s
    · rw [zset_e rfl w]; omega
    · rw [zset_n (by omega)]; exact V.rk t0 t1
  · intro b b0 b1
    rw [e8] at b1
    rw [e _ _ (by omega), e _ _ (by omega), e _ _ (by omega), e _ _ (by omega), e _ _ (by omega), e _ _ (by omega), e _ _ (by omega), e _ _ (by omega)]; exact V.row b0 b1
  · intro i i0 i1
    rw [e 0 9 (by omega)] at i1
    rw [e _ _ (by omega), e _ _ (by omega)]; exact V.ln i0 i1
  · intro i i0 i1
    rw [e10] at i1
    rw [e1, e8, e _ _ (by omega)]; exact V.act i0 i1
theorem c_addAct {d : Nat} {h : zH} {D : Dk} {c : Int} (VD : DV D) (RD : DC h 15 D) : zMI d mX0_addAct [zA 15, zI c] h (fun r h' => (r = 0 ∧ D 0 10 = 20 ∧ h' = h) ∨ (r = 1 ∧ D 0 10 < 20 ∧ h' = zset (zset h 25 (D 0 10) c) 15 10 (D 0 10 + 1))) := by
  have na := VD.na
  refine zmet rfl rfl rfl ?_
  refine zS_aload_n (zdec eX0_addAct 0 rfl) rfl rfl ?_
  refine zS_getfieldE (x := 10) (v := (D 0 10)) (zdec eX0_addAct 1 rfl) kF_X0_60 ⟨by decide, rfl⟩ rfl rfl rfl (RD.s (by decide) (by decide)) ?_
  refine zS_bipush (zdec eX0_addAct 2 rfl) rfl rfl ?_
  refine zS_icmp_lt (tgt := 11) (zdec eX0_addAct 3 rfl) rfl (fun c1 => ?_) (fun c1 => ?_)
  · refine zS_aload_n (zdec eX0_addAct 6 rfl) rfl rfl ?_
    refine zS_getref (i := 29) (zdec eX0_addAct 7 rfl) kF_X0_26 ⟨by decide, rfl⟩ rfl rfl rfl rfl rfl ?_
    refine zS_aload_n (zdec eX0_addAct 8 rfl) rfl rfl ?_
    refine zS_getfieldE (x := 10) (v := (D 0 10)) (zdec eX0_addAct 9 rfl) kF_X0_60 ⟨by decide, rfl⟩ rfl rfl rfl (RD.s (by decide) (by decide)) ?_
    refine zS_iload_n (zdec eX0_addAct 10 rfl) rfl ?_
    refine zS_iastore (zdec eX0_addAct 11 rfl) ⟨by decide, rfl⟩ (by omega) (by omega) ?_
    refine zS_aload_n (zdec eX0_addAct 12 rfl) rfl rfl ?_
    refine zS_dup (zdec eX0_addAct 13 rfl) (fun q => by cases q) ?_
    refine zS_getfieldE (x := 10) (v := (D 0 10)) (zdec eX0_addAct 14 rfl) kF_X0_60 ⟨by decide, rfl⟩ rfl rfl rfl ((congrFun (zset_k (by decide)) _).trans (RD.s (by decide) (by decide))) ?_
    refine zS_iconst (zdec eX0_addAct 15 rfl) rfl ?_
    refine zS_iadd (zdec eX0_addAct 16 rfl) ⟨by omega, by omega⟩ ?_
    refine zS_putfield (x := 10) (zdec eX0_addAct 17 rfl) kF_X0_60 (Or.inl kf0_10) ⟨by decide, rfl⟩ rfl rfl rfl (Or.inl (fun q => by cases q)) ?_
    refine zS_iconst (zdec eX0_addAct 18 rfl) rfl ?_
    exact zlMZ (zdec eX0_addAct 19 rfl) rfl (Or.inr rfl) (Or.inr ⟨rfl, by omega, rfl⟩)
  · refine zS_iconst (zdec eX0_addAct 4 rfl) rfl ?_
    exact zlMZ (zdec eX0_addAct 5 rfl) rfl (Or.inl rfl) (Or.inl ⟨rfl, by omega, rfl⟩)
theorem c_addRelease {d : Nat} {h : zH} {D : Dk} {x : Int} (hd : 1 ≤ d) (VD : DV D) (RD : DC h 15 D) (x0 : 0 ≤ x) (x1 : x < 10) : zMI d mX0_addRelease [zA 15, zI x] h (fun r h' => (r = 0 ∧ D 0 10 = 20 ∧ h' = h) ∨ (r = 1 ∧ D 0 10 < 20 ∧ h' = zset (zset h 25 (D 0 10) x) 15 10 (D 0 10 + 1))) := by
  have na := VD.na
  refine zmet rfl rfl rfl ?_
  refine zS_aload_n (zdec eX0_addRelease 0 rfl) rfl rfl ?_
  refine zS_iload_n (zdec eX0_addRelease 1 rfl) rfl ?_
  refine zvMI (M' := mX0_addAct) (As := [zI x]) (st := []) (zdec eX0_addRelease 2 rfl) kM_X0_69 kV_X0_addAct ⟨by decide, rfl⟩ rfl rfl rfl rfl rfl (by omega) (c_addAct VD RD) (fun x5 h5 hx5 => ?_)
  exact zlMZ (zdec eX0_addRelease 3 rfl) rfl (by rcases hx5 with z | z; exact Or.inl z.1; exact Or.inr z.1) hx5
theorem c_addFailure {d : Nat} {h : zH} {D : Dk} {x : Int} (hd : 1 ≤ d) (VD : DV D) (RD : DC h 15 D) (x0 : 0 ≤ x) (x1 : x < 10) : zMI d mX0_addFailure [zA 15, zI x] h (fun r h' => (r = 0 ∧ D 0 10 = 20 ∧ h' = h) ∨ (r = 1 ∧ D 0 10 < 20 ∧ h' = zset (zset h 25 (D 0 10) (5 + x)) 15 10 (D 0 10 + 1))) := by
  have na := VD.na
  refine zmet rfl rfl rfl ?_
  refine zS_aload_n (zdec eX0_addFailure 0 rfl) rfl rfl ?_
  refine zS_iconst (zdec eX0_addFailure 1 rfl) rfl ?_
  refine zS_iload_n (zdec eX0_addFailure 2 rfl) rfl ?_
  refine zS_iadd (zdec eX0_addFailure 3 rfl) ⟨by omega, by omega⟩ ?_
  refine zvMI (M' := mX0_addAct) (As := [zI (5 + x)]) (st := []) (zdec eX0_addFailure 4 rfl) kM_X0_69 kV_X0_addAct ⟨by decide, rfl⟩ rfl rfl rfl rfl rfl (by omega) (c_addAct VD RD) (fun x5 h5 hx5 => ?_)
  exact zlMZ (zdec eX0_addFailure 5 rfl) rfl (by rcases hx5 with z | z; exact Or.inl z.1; exact Or.inr z.1) hx5
noncomputable def a_frees (D : Dk) (x : Int) : Int := if 0 ≤ x ∧ x < D 0 8 then (if D 0 10 < 20 then totL (pb0 (adA D x)) else -5) else -2
def n_frees (D : Dk) (x : Int) : Dk := if (0 ≤ x ∧ x < D 0 8) ∧ D 0 10 < 20 then adA D x else D
theorem n_frees_V {D : Dk} (VD : DV D) (x : Int) : DV (n_frees D x) := by
  have nb := VD.nb
  have dy := VD.days
  unfold n_frees
  split
  · rename_i z
    exact VD.ad (VD.bill z.1.1 z.1.2) (by omega) (by omega) (by omega) z.2
  · exact VD
theorem p_frees {d : Nat} {h : zH} {D : Dk} {x : Int} (hd : 20 ≤ d) (VD : DV D) (RD : DC h 15 D) : zMI d mX9_frees [zA 0, zI x] h (fun r h' => r = a_frees D x ∧ DC h' 15 (n_frees D x) ∧ Fr sD h h') := by
  have nb := VD.nb
  have dy := VD.days
  refine zmet rfl rfl rfl ?_
  refine zS_aload_n (zdec eX9_frees 0 rfl) rfl rfl ?_
  refine zS_iload_n (zdec eX9_frees 1 rfl) rfl ?_
  refine zvI (M' := mX9_isBill) (As := [zI x]) (st := []) (zdec eX9_frees 2 rfl) kM_X9_116 kV_X9_isBill ⟨by decide, rfl⟩ rfl rfl rfl rfl rfl (by omega) (c_isBill RD) ?_
  refine zS_if_ne (tgt := 11) (zdec eX9_frees 3 rfl) rfl (fun c1 => ?_) (fun c1 => ?_)
  · have z1 := d2i_n.mp c1
    refine zS_aload_n (zdec eX9_frees 6 rfl) rfl rfl ?_
    refine zS_getref (i := 2) (zdec eX9_frees 7 rfl) kF_X9_27 ⟨by decide, rfl⟩ rfl rfl rfl rfl rfl ?_
    refine zS_iload_n (zdec eX9_frees 8 rfl) rfl ?_
    refine zvMI (M' := mX0_addRelease) (As := [zI x]) (st := []) (zdec eX9_frees 9 rfl) kM_X9_354 kV_X0_addRelease ⟨by decide, rfl⟩ rfl rfl rfl rfl rfl (by omega) (c_addRelease (by omega) VD RD (by omega) (by omega)) (fun x5 h5 hx5 => ?_)
    refine zS_if_eq (tgt := 32) (zdec eX9_frees 10 rfl) rfl (fun c2 => ?_) (fun c2 => ?_)
    · refine zS_bipush (zdec eX9_frees 15 rfl) rfl rfl ?_
      have y5 := hx5.resolve_right (fun w => by omega)
      exact zlMI (zdec eX9_frees 16 rfl) rfl ⟨by unfold a_frees; rw [if_pos z1, if_neg (by omega)], by unfold n_frees; rw [if_neg (fun w => by have := w.2; omega), y5.2.2]; exact RD, by rw [y5.2.2]; exact Fr.rf⟩
    · have y5 := hx5.resolve_left (fun w => by omega)
      have hd0 : 0 < D 0 0 := VD.bill z1.1 z1.2
      have VD2 : DV (adA D x) := VD.ad hd0 (by omega) (by omega) (by omega) (by omega)
      have d5 : DC h5 15 (adA D x) := by rw [y5.2.2]; exact RD.ad _
      have f5 : Fr sD h h5 := by rw [y5.2.2]; exact (Fr.rf.set (by omega)).set (by omega)
      have e0 : adA D x 0 0 = D 0 0 := by unfold adA; rw [zset_n (by omega), zset_n (by omega)]
      refine zS_aload_n (zdec eX9_frees 11 rfl) rfl rfl ?_
      refine zvMA (M' := mX9_byLaw) (As := []) (st := []) (zdec eX9_frees 12 rfl) kM_X9_173 kV_X9_byLaw ⟨by decide, rfl⟩ rfl rfl rfl rfl rfl (by omega) (c_byLaw (D := adA D x) (by omega) VD2 (by rw [e0]; exact hd0) d5) (fun h6 ⟨L6, g6⟩ => ?_)
      have V6 := pb0_V VD2 (by rw [e0]; exact hd0)
      refine zvI (M' := mX8_whole) (As := []) (st := []) (zdec eX9_frees 13 rfl) kM_X9_214 kV_X8_whole ⟨by decide, rfl⟩ rfl rfl rfl rfl rfl (by omega) (c_wholeL (by omega) V6 L6) ?_
      refine zS_goto (tgt := 34) (zdec eX9_frees 14 rfl) rfl ?_
      exact zlMI (zdec eX9_frees 16 rfl) rfl ⟨by unfold a_frees; rw [if_pos z1, if_pos y5.2.1], by unfold n_frees; rw [if_pos ⟨z1, y5.2.1⟩]; exact d5.fr g6 (fun k j z => by omega), f5.tr g6 (fun k j z => z) (fun k j z => by omega)⟩
  · have z1 := d2i_0.mp c1
    refine zS_bipush (zdec eX9_frees 4 rfl) rfl rfl ?_
    exact zlMI (zdec eX9_frees 5 rfl) rfl ⟨by unfold a_frees; rw [if_neg z1], by unfold n_frees; rw [if_neg (fun w => z1 w.1)]; exact RD, Fr.rf⟩
noncomputable def a_fails (D : Dk) (x : Int) : Int := if 0 ≤ x ∧ x < D 0 1 then (if D 0 10 < 20 then totL (pb0 (adA D (5 + x))) else -5) else -2
def n_fails (D : Dk) (x : Int) : Dk := if (0 ≤ x ∧ x < D 0 1) ∧ D 0 10 < 20 then adA D (5 + x) else D
theorem n_fails_V {D : Dk} (VD : DV D) (x : Int) : DV (n_fails D x) := by
  have nb := VD.nb
  have dy := VD.days
  unfold n_fails
  split
  · rename_i z
    exact VD.ad (VD.day z.1.1 z.1.2) (by omega) (by omega) (by omega) z.2
  · exact VD
theorem p_fails {d : Nat} {h : zH} {D : Dk} {x : Int} (hd : 20 ≤ d) (VD : DV D) (RD : DC h 15 D) : zMI d mX9_fails [zA 0, zI x] h (fun r h' => r = a_fails D x ∧ DC h' 15 (n_fails D x) ∧ Fr sD h h') := by
  have nb := VD.nb
  have dy := VD.days
  refine zmet rfl rfl rfl ?_
  refine zS_aload_n (zdec eX9_fails 0 rfl) rfl rfl ?_
  refine zS_iload_n (zdec eX9_fails 1 rfl) rfl ?_
  refine zvI (M' := mX9_isDay) (As := [zI x]) (st := []) (zdec eX9_fails 2 rfl) kM_X9_137 kV_X9_isDay ⟨by decide, rfl⟩ rfl rfl rfl rfl rfl (by omega) (c_isDay RD) ?_
  refine zS_if_ne (tgt := 11) (zdec eX9_fails 3 rfl) rfl (fun c1 => ?_) (fun c1 => ?_)
  · have z1 := d2i_n.mp c1
    refine zS_aload_n (zdec eX9_fails 6 rfl) rfl rfl ?_
    refine zS_getref (i := 2) (zdec eX9_fails 7 rfl) kF_X9_27 ⟨by decide, rfl⟩ rfl rfl rfl rfl rfl ?_
    refine zS_iload_n (zdec eX9_fails 8 rfl) rfl ?_
    refine zvMI (M' := mX0_addFailure) (As := [zI x]) (st := []) (zdec eX9_fails 9 rfl) kM_X9_357 kV_X0_addFailure ⟨by decide, rfl⟩ rfl rfl rfl rfl rfl (by omega) (c_addFailure (by omega) VD RD (by omega) (by omega)) (fun x5 h5 hx5 => ?_)
    refine zS_if_eq (tgt := 32) (zdec eX9_fails 10 rfl) rfl (fun c2 => ?_) (fun c2 => ?_)
    · refine zS_bipush (zdec eX9_fails 15 rfl) rfl rfl ?_
      have y5 := hx5.resolve_right (fun w => by omega)
      exact zlMI (zdec eX9_fails 16 rfl) rfl ⟨by unfold a_fails; rw [if_pos z1, if_neg (by omega)], by unfold n_fails; rw [if_neg (fun w => by have := w.2; omega), y5.2.2]; exact RD, by rw [y5.2.2]; exact Fr.rf⟩
    · have y5 := hx5.resolve_left (fun w => by omega)
      have hd0 : 0 < D 0 0 := VD.day z1.1 z1.2
      have VD2 : DV (adA D (5 + x)) := VD.ad hd0 (by omega) (by omega) (by omega) (by omega)
      have d5 : DC h5 15 (adA D (5 + x)) := by rw [y5.2.2]; exact RD.ad _
      have f5 : Fr sD h h5 := by rw [y5.2.2]; exact (Fr.rf.set (by omega)).set (by omega)
      have e0 : adA D (5 + x) 0 0 = D 0 0 := by unfold adA; rw [zset_n (by omega), zset_n (by omega)]
      refine zS_aload_n (zdec eX9_fails 11 rfl) rfl rfl ?_
      refine zvMA (M' := mX9_byLaw) (As := []) (st := []) (zdec eX9_fails 12 rfl) kM_X9_173 kV_X9_byLaw ⟨by decide, rfl⟩ rfl rfl rfl rfl rfl (by omega) (c_byLaw (D := adA D (5 + x)) (by omega) VD2 (by rw [e0]; exact hd0) d5) (fun h6 ⟨L6, g6⟩ => ?_)
      have V6 := pb0_V VD2 (by rw [e0]; exact hd0)
      refine zvI (M' := mX8_whole) (As := []) (st := []) (zdec eX9_fails 13 rfl) kM_X9_214 kV_X8_whole ⟨by decide, rfl⟩ rfl rfl rfl rfl rfl (by omega) (c_wholeL (by omega) V6 L6) ?_
      refine zS_goto (tgt := 34) (zdec eX9_fails 14 rfl) rfl ?_
      exact zlMI (zdec eX9_fails 16 rfl) rfl ⟨by unfold a_fails; rw [if_pos z1, if_pos y5.2.1], by unfold n_fails; rw [if_pos ⟨z1, y5.2.1⟩]; exact d5.fr g6 (fun k j z => by omega), f5.tr g6 (fun k j z => z) (fun k j z => by omega)⟩
  · have z1 := d2i_0.mp c1
    refine zS_bipush (zdec eX9_fails 4 rfl) rfl rfl ?_
    exact zlMI (zdec eX9_fails 5 rfl) rfl ⟨by unfold a_fails; rw [if_neg z1], by unfold n_fails; rw [if_neg (fun w => z1 w.1)]; exact RD, Fr.rf⟩
def a_undo (D : Dk) : Int := if 0 < D 0 0 then (if D 0 10 = 0 then -5 else D 0 10 - 1) else -2
def n_undo (D : Dk) : Dk := if 0 < D 0 0 ∧ D 0 10 ≠ 0 then acD D (D 0 10 - 1) else D
def a_anew (D : Dk) : Int := if 0 < D 0 0 then D 0 10 else -2
def n_anew (D : Dk) : Dk := if 0 < D 0 0 then acD D 0 else D
def a_ranks (D : Dk) (x y : Int) : Int := if (0 ≤ x ∧ x < D 0 7) ∧ 0 ≤ y ∧ y ≤ 9 then (if 0 < D 0 10 then -5 else D 1 x) else -2
def n_ranks (D : Dk) (x y : Int) : Dk := if ((0 ≤ x ∧ x < D 0 7) ∧ 0 ≤ y ∧ y ≤ 9) ∧ D 0 10 = 0 then rkD D x y else D
theorem n_undo_V {D : Dk} (VD : DV D) : DV (n_undo D) := by
  have na := VD.na
  unfold n_undo
  split
  · exact VD.ac (by omega) (by omega)
  · exact VD
theorem n_anew_V {D : Dk} (VD : DV D) : DV (n_anew D) := by
  have na := VD.na
  unfold n_anew
  split
  · exact VD.ac (by omega) (by omega)
  · exact VD
theorem n_ranks_V {D : Dk} (VD : DV D) (x y : Int) : DV (n_ranks D x y) := by
  unfold n_ranks
  split
  · rename_i z
    exact VD.rkS x z.1.2.1 z.1.2.2
  · exact VD
theorem p_undo {d : Nat} {h : zH} {D : Dk} (hd : 20 ≤ d) (VD : DV D) (RD : DC h 15 D) : zMI d mX9_undo [zA 0] h (fun r h' => r = a_undo D ∧ DC h' 15 (n_undo D) ∧ Fr sD h h') := by
  have na := VD.na
  refine zmet rfl rfl rfl ?_
  refine zS_aload_n (zdec eX9_undo 0 rfl) rfl rfl ?_
  refine zvI (M' := mX9_isThere) (As := []) (st := []) (zdec eX9_undo 1 rfl) kM_X9_143 kV_X9_isThere ⟨by decide, rfl⟩ rfl rfl rfl rfl rfl (by omega) (c_isThere RD) ?_
  refine zS_if_ne (tgt := 10) (zdec eX9_undo 2 rfl) rfl (fun c1 => ?_) (fun c1 => ?_)
  · have z1 := d2i_n.mp c1
    refine zS_aload_n (zdec eX9_undo 5 rfl) rfl rfl ?_
    refine zS_getref (i := 2) (zdec eX9_undo 6 rfl) kF_X9_27 ⟨by decide, rfl⟩ rfl rfl rfl rfl rfl ?_
    refine zS_getfieldE (x := 10) (v := (D 0 10)) (zdec eX9_undo 7 rfl) kF_X9_360 ⟨by decide, rfl⟩ rfl rfl rfl (RD.s (by decide) (by decide)) ?_
    refine zS_if_ne (tgt := 23) (zdec eX9_undo 8 rfl) rfl (fun c2 => ?_) (fun c2 => ?_)
    · refine zS_aload_n (zdec eX9_undo 11 rfl) rfl rfl ?_
      refine zS_getref (i := 2) (zdec eX9_undo 12 rfl) kF_X9_27 ⟨by decide, rfl⟩ rfl rfl rfl rfl rfl ?_
      refine zS_dup (zdec eX9_undo 13 rfl) (fun q => by cases q) ?_
      refine zS_getfieldE (x := 10) (v := (D 0 10)) (zdec eX9_undo 14 rfl) kF_X9_360 ⟨by decide, rfl⟩ rfl rfl rfl (RD.s (by decide) (by decide)) ?_
      refine zS_iconst (zdec eX9_undo 15 rfl) rfl ?_
      refine zS_isub (zdec eX9_undo 16 rfl) ⟨by omega, by omega⟩ ?_
      refine zS_putfield (x := 10) (zdec eX9_undo 17 rfl) kF_X9_360 (Or.inl kf0_10) ⟨by decide, rfl⟩ rfl rfl rfl (Or.inl (fun q => by cases q)) ?_
      refine zS_aload_n (zdec eX9_undo 18 rfl) rfl rfl ?_
      refine zS_getref (i := 2) (zdec eX9_undo 19 rfl) kF_X9_27 ⟨by decide, rfl⟩ rfl rfl rfl rfl rfl ?_
      refine zS_getfieldE (x := 10) (v := ((D 0 10) - 1)) (zdec eX9_undo 20 rfl) kF_X9_360 ⟨by decide, rfl⟩ rfl rfl rfl (zset_s _ _ _ _) ?_
      exact zlMI (zdec eX9_undo 21 rfl) rfl ⟨by unfold a_undo; rw [if_pos z1, if_neg (by omega)], by unfold n_undo; rw [if_pos ⟨z1, by omega⟩]; exact RD.ac (by omega), Fr.rf.set (by omega)⟩
    · refine zS_bipush (zdec eX9_undo 9 rfl) rfl rfl ?_
      exact zlMI (zdec eX9_undo 10 rfl) rfl ⟨by unfold a_undo; rw [if_pos z1, if_pos (by omega)], by unfold n_undo; rw [if_neg (fun w => by have := w.2; omega)]; exact RD, Fr.rf⟩
  · have z1 := d2i_0.mp c1
    refine zS_bipush (zdec eX9_undo 3 rfl) rfl rfl ?_
    exact zlMI (zdec eX9_undo 4 rfl) rfl ⟨by unfold a_undo; rw [if_neg z1], by unfold n_undo; rw [if_neg (fun w => z1 w.1)]; exact RD, Fr.rf⟩
theorem p_anew {d : Nat} {h : zH} {D : Dk} (hd : 20 ≤ d) (VD : DV D) (RD : DC h 15 D) : zMI d mX9_anew [zA 0] h (fun r h' => r = a_anew D ∧ DC h' 15 (n_anew D) ∧ Fr sD h h') := by
  have na := VD.na
  refine zmet rfl rfl rfl ?_
  refine zS_aload_n (zdec eX9_anew 0 rfl) rfl rfl ?_
  refine zvI (M' := mX9_isThere) (As := []) (st := []) (zdec eX9_anew 1 rfl) kM_X9_143 kV_X9_isThere ⟨by decide, rfl⟩ rfl rfl rfl rfl rfl (by omega) (c_isThere RD) ?_
  refine zS_if_ne (tgt := 10) (zdec eX9_anew 2 rfl) rfl (fun c1 => ?_) (fun c1 => ?_)
  · have z1 := d2i_n.mp c1
    refine zS_aload_n (zdec eX9_anew 5 rfl) rfl rfl ?_
    refine zS_getref (i := 2) (zdec eX9_anew 6 rfl) kF_X9_27 ⟨by decide, rfl⟩ rfl rfl rfl rfl rfl ?_
    refine zS_getfieldE (x := 10) (v := (D 0 10)) (zdec eX9_anew 7 rfl) kF_X9_360 ⟨by decide, rfl⟩ rfl rfl rfl (RD.s (by decide) (by decide)) ?_
    refine zS_istore_n (zdec eX9_anew 8 rfl) rfl ?_
    refine zS_aload_n (zdec eX9_anew 9 rfl) rfl rfl ?_
    refine zS_getref (i := 2) (zdec eX9_anew 10 rfl) kF_X9_27 ⟨by decide, rfl⟩ rfl rfl rfl rfl rfl ?_
    refine zS_iconst (zdec eX9_anew 11 rfl) rfl ?_
    refine zS_putfield (x := 10) (zdec eX9_anew 12 rfl) kF_X9_360 (Or.inl kf0_10) ⟨by decide, rfl⟩ rfl rfl rfl (Or.inl (fun q => by cases q)) ?_
    refine zS_iload_n (zdec eX9_anew 13 rfl) rfl ?_
    exact zlMI (zdec eX9_anew 14 rfl) rfl ⟨by unfold a_anew; rw [if_pos z1], by unfold n_anew; rw [if_pos z1]; exact RD.ac (by omega), Fr.rf.set (by omega)⟩
  · have z1 := d2i_0.mp c1
    refine zS_bipush (zdec eX9_anew 3 rfl) rfl rfl ?_
    exact zlMI (zdec eX9_anew 4 rfl) rfl ⟨by unfold a_anew; rw [if_neg z1], by unfold n_anew; rw [if_neg z1]; exact RD, Fr.rf⟩
theorem p_ranks {d : Nat} {h : zH} {D : Dk} {x y : Int} (hd : 20 ≤ d) (VD : DV D) (RD : DC h 15 D) : zMI d mX9_ranks [zA 0, zI x, zI y] h (fun r h' => r = a_ranks D x y ∧ DC h' 15 (n_ranks D x y) ∧ Fr sD h h') := by
  have na := VD.na
  have ns := VD.ns
  refine zmet rfl rfl rfl ?_
  refine zS_aload_n (zdec eX9_ranks 0 rfl) rfl rfl ?_
  refine zS_iload_n (zdec eX9_ranks 1 rfl) rfl ?_
  refine zvI (M' := mX9_isSupplier) (As := [zI x]) (st := []) (zdec eX9_ranks 2 rfl) kM_X9_108 kV_X9_isSupplier ⟨by decide, rfl⟩ rfl rfl rfl rfl rfl (by omega) (c_isSup RD) ?_
  refine zS_if_eq (tgt := 18) (zdec eX9_ranks 3 rfl) rfl (fun c1 => ?_) (fun c1 => ?_)
  · have z1 := d2i_0.mp c1
    refine zS_bipush (zdec eX9_ranks 9 rfl) rfl rfl ?_
    exact zlMI (zdec eX9_ranks 10 rfl) rfl ⟨by unfold a_ranks; rw [if_neg (by omega)], by unfold n_ranks; rw [if_neg (by omega)]; exact RD, Fr.rf⟩
  · have z1 := d2i_n.mp c1
    refine zS_iload_n (zdec eX9_ranks 4 rfl) rfl ?_
    refine zS_if_lt (tgt := 18) (zdec eX9_ranks 5 rfl) rfl (fun c2 => ?_) (fun c2 => ?_)
    · refine zS_bipush (zdec eX9_ranks 9 rfl) rfl rfl ?_
      exact zlMI (zdec eX9_ranks 10 rfl) rfl ⟨by unfold a_ranks; rw [if_neg (by omega)], by unfold n_ranks; rw [if_neg (by omega)]; exact RD, Fr.rf⟩
    · refine zS_iload_n (zdec eX9_ranks 6 rfl) rfl ?_
      refine zS_bipush (zdec eX9_ranks 7 rfl) rfl rfl ?_
      refine zS_icmp_le (tgt := 21) (zdec eX9_ranks 8 rfl) rfl (fun c3 => ?_) (fun c3 => ?_)
      · refine zS_aload_n (zdec eX9_ranks 11 rfl) rfl rfl ?_
        refine zS_getref (i := 2) (zdec eX9_ranks 12 rfl) kF_X9_27 ⟨by decide, rfl⟩ rfl rfl rfl rfl rfl ?_
        refine zS_getfieldE (x := 10) (v := (D 0 10)) (zdec eX9_ranks 13 rfl) kF_X9_360 ⟨by decide, rfl⟩ rfl rfl rfl (RD.s (by decide) (by decide)) ?_
        refine zS_if_le (tgt := 34) (zdec eX9_ranks 14 rfl) rfl (fun c4 => ?_) (fun c4 => ?_)
        · refine zS_aload_n (zdec eX9_ranks 17 rfl) rfl rfl ?_
          refine zS_getref (i := 2) (zdec eX9_ranks 18 rfl) kF_X9_27 ⟨by decide, rfl⟩ rfl rfl rfl rfl rfl ?_
          refine zS_getref (i := 25) (zdec eX9_ranks 19 rfl) kF_X9_112 ⟨by decide, rfl⟩ rfl rfl rfl rfl rfl ?_
          refine zS_iload_n (zdec eX9_ranks 20 rfl) rfl ?_
          refine zS_ialoadE (v := (D 1 x)) (zdec eX9_ranks 21 rfl) ⟨by decide, rfl⟩ (by omega) (by omega) (RD.rk (by omega) (by omega) (by omega)) ?_
          refine zS_istore_n (zdec eX9_ranks 22 rfl) rfl ?_
          refine zS_aload_n (zdec eX9_ranks 23 rfl) rfl rfl ?_
          refine zS_getref (i := 2) (zdec eX9_ranks 24 rfl) kF_X9_27 ⟨by decide, rfl⟩ rfl rfl rfl rfl rfl ?_
          refine zS_getref (i := 25) (zdec eX9_ranks 25 rfl) kF_X9_112 ⟨by decide, rfl⟩ rfl rfl rfl rfl rfl ?_
          refine zS_iload_n (zdec eX9_ranks 26 rfl) rfl ?_
          refine zS_iload_n (zdec eX9_ranks 27 rfl) rfl ?_
          refine zS_iastore (zdec eX9_ranks 28 rfl) ⟨by decide, rfl⟩ (by omega) (by omega) ?_
          refine zS_iload_n (zdec eX9_ranks 29 rfl) rfl ?_
          exact zlMI (zdec eX9_ranks 30 rfl) rfl ⟨by unfold a_ranks; rw [if_pos (by omega), if_neg (by omega)], by unfold n_ranks; rw [if_pos (by omega)]; exact RD.rkS _ _, Fr.rf.set (by omega)⟩
        · refine zS_bipush (zdec eX9_ranks 15 rfl) rfl rfl ?_
          exact zlMI (zdec eX9_ranks 16 rfl) rfl ⟨by unfold a_ranks; rw [if_pos (by omega), if_pos (by omega)], by unfold n_ranks; rw [if_neg (by omega)]; exact RD, Fr.rf⟩
      · refine zS_bipush (zdec eX9_ranks 9 rfl) rfl rfl ?_
        exact zlMI (zdec eX9_ranks 10 rfl) rfl ⟨by unfold a_ranks; rw [if_neg (by omega)], by unfold n_ranks; rw [if_neg (by omega)]; exact RD, Fr.rf⟩

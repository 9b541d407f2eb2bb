theorem RR.paste {h h' : zH} {W : Rw} (R : RR h W) (VW : RV W) {x y u v n : Int} (w : ((0 ≤ x ∧ x < 4) ∧ 0 ≤ u ∧ u < 4) ∧ (W 0 x ≠ -1 ∧ W 0 u ≠ -1) ∧ W 1 x = W 1 u ∧ (0 ≤ y ∧ 0 ≤ n ∧ y + n ≤ W 0 x) ∧ (0 ≤ v ∧ v + n ≤ W 0 u)) (e1 : ∀ i, 0 ≤ i → i < n → h' 111 (60 * u + v + i) = h 111 (60 * x + y + i)) (e4 : Fr (fun k j => (k = 108 ∧ j = 0) ∨ k = 112 ∨ (k = 111 ∧ 60 * u + v ≤ j ∧ j < 60 * u + v + n)) h h') : RR h' (n_paste W x y u v n) := by
  unfold n_paste
  rw [if_pos w]
  have vx := VW.sz w.1.1.1 w.1.1.2
  have vu := VW.sz w.1.2.1 w.1.2.2
  intro s s0 s1
  have vs := VW.sz s0 s1
  have g0 : zcpy W (2 + x) y (2 + u) v n 0 s = W 0 s := if_neg (by omega)
  have g1 : zcpy W (2 + x) y (2 + u) v n 1 s = W 1 s := if_neg (by omega)
  rw [g0, g1]
  refine ⟨(e4 _ _ (by omega)).trans (R.wd s0 s1), fun q => (e4 _ _ (by omega)).trans (R.sz s0 s1 q), fun i i0 i1 => ?_⟩
  show h' 111 (60 * s + i) = if 2 + s = 2 + u ∧ v ≤ i ∧ i < v + n then W (2 + x) (y + (i - v)) else W (2 + s) i
  by_cases q : 2 + s = 2 + u ∧ v ≤ i ∧ i < v + n
  · rw [if_pos q, show 60 * s + i = 60 * u + v + (i - v) by omega, e1 (i - v) (by omega) (by omega), show 60 * x + y + (i - v) = 60 * x + (y + (i - v)) by omega]
    exact R.nm (by omega) (by omega) (by omega) (by omega)
  · rw [if_neg q]; exact (e4 _ _ (by omega)).trans (R.nm s0 s1 i0 i1)
theorem L_pa2 {d : Nat} {h : zH} {x y u v n : Int} (x0 : 0 ≤ x) (x1 : x < 4) (u0 : 0 ≤ u) (u1 : u < 4) (y0 : 0 ≤ y) (v0 : 0 ≤ v) (n0 : 0 ≤ n) (y1 : y + n ≤ 60) (v1 : v + n ≤ 60) {P : Int → zH → Prop} (hP : ∀ h', (∀ i, 0 ≤ i → i < n → h' 111 (60 * u + v + i) = h 111 (60 * x + y + i)) → Fr (fun k j => (k = 108 ∧ j = 0) ∨ k = 112 ∨ (k = 111 ∧ 60 * u + v ≤ j ∧ j < 60 * u + v + n)) h h' → P 0 h') : ∀ (m : Nat) (e : Int) (h1 : zH), 0 ≤ e → e + m = n → (∀ i, 0 ≤ i → i < e → h1 111 (60 * u + v + i) = h 111 (60 * x + y + i)) → (∀ i, 0 ≤ i → i < n → h1 112 i = h 111 (60 * x + y + i)) → Fr (fun k j => (k = 108 ∧ j = 0) ∨ k = 112 ∨ (k = 111 ∧ 60 * u + v ≤ j ∧ j < 60 * u + v + n)) h h1 → zS mX10_paste (zr d) 155 [zA 108, zI x, zI y, zI u, zI v, zI n, zI e] [] TT h1 (zAnI P) := by
  intro m
  induction m with
  | zero =>
    intro e h1 a1 a2 i1 i2 i3
    refine zS_iload (zdec eX10_paste 91 rfl) rfl ?_
    refine zS_iload (zdec eX10_paste 92 rfl) rfl ?_
    refine zS_icmp_ge (tgt := 190) (zdec eX10_paste 93 rfl) rfl (fun cz => ?_) (fun cz => absurd (by omega) cz)
    refine zS_iconst (zdec eX10_paste 110 rfl) rfl ?_
    exact zlMI (zdec eX10_paste 111 rfl) rfl (hP _ (fun i i0 k1 => i1 i i0 (by omega)) i3)
  | succ m ih =>
    intro e h1 a1 a2 i1 i2 i3
    refine zS_iload (zdec eX10_paste 91 rfl) rfl ?_
    refine zS_iload (zdec eX10_paste 92 rfl) rfl ?_
    refine zS_icmp_ge (tgt := 190) (zdec eX10_paste 93 rfl) rfl (fun cz => absurd cz (by omega)) (fun cz => ?_)
    refine zS_aload_n (zdec eX10_paste 94 rfl) rfl rfl ?_
    refine zS_getref (i := 57) (zdec eX10_paste 95 rfl) kF_X10_16 ⟨by decide, rfl⟩ rfl rfl rfl rfl rfl ?_
    refine zS_bipush (zdec eX10_paste 96 rfl) rfl rfl ?_
    refine zS_iload_n (zdec eX10_paste 97 rfl) rfl ?_
    refine zS_imul (zdec eX10_paste 98 rfl) ⟨by omega, by omega⟩ ?_
    refine zS_iload (zdec eX10_paste 99 rfl) rfl ?_
    refine zS_iadd (zdec eX10_paste 100 rfl) ⟨by omega, by omega⟩ ?_
    refine zS_iload (zdec eX10_paste 101 rfl) rfl ?_
    refine zS_iadd (zdec eX10_paste 102 rfl) ⟨by omega, by omega⟩ ?_
    refine zS_aload_n (zdec eX10_paste 103 rfl) rfl rfl ?_
    refine zS_getref (i := 58) (zdec eX10_paste 104 rfl) kF_X10_20 ⟨by decide, rfl⟩ rfl rfl rfl rfl rfl ?_
    refine zS_iload (zdec eX10_paste 105 rfl) rfl ?_
    refine zS_laloadE (v := (h 111 (60 * x + y + e))) (zdec eX10_paste 106 rfl) ⟨by decide, rfl⟩ (by omega) (by omega) (i2 _ (by omega) (by omega)) ?_
    refine zS_lastore (zdec eX10_paste 107 rfl) ⟨by decide, rfl⟩ (by omega) (by omega) ?_
    refine zS_iinc (zdec eX10_paste 108 rfl) rfl rfl ⟨by omega, by omega⟩ ?_
    refine zS_goto (tgt := 155) (zdec eX10_paste 109 rfl) rfl ?_
    refine ih (e + 1) _ (by omega) (by omega) (fun i i0 k1 => ?_) (fun i i0 k1 => (zset_n (by omega)).trans (i2 i i0 k1)) (i3.set (by omega))
    by_cases w : i = e
    · exact (zset_e rfl (by rw [w])).trans (by rw [w])
    · rw [zset_n (by omega)]; exact i1 i i0 (by omega)
theorem L_pa1 {d : Nat} {h : zH} {x y u v n : Int} (x0 : 0 ≤ x) (x1 : x < 4) (u0 : 0 ≤ u) (u1 : u < 4) (y0 : 0 ≤ y) (v0 : 0 ≤ v) (n0 : 0 ≤ n) (y1 : y + n ≤ 60) (v1 : v + n ≤ 60) {P : Int → zH → Prop} (hP : ∀ h', (∀ i, 0 ≤ i → i < n → h' 111 (60 * u + v + i) = h 111 (60 * x + y + i)) → Fr (fun k j => (k = 108 ∧ j = 0) ∨ k = 112 ∨ (k = 111 ∧ 60 * u + v ≤ j ∧ j < 60 * u + v + n)) h h' → P 0 h') : ∀ (m : Nat) (e : Int) (h1 : zH), 0 ≤ e → e + m = n → (∀ i, 0 ≤ i → i < e → h1 112 i = h 111 (60 * x + y + i)) → Fr (fun k j => (k = 108 ∧ j = 0) ∨ k = 112) h h1 → zS mX10_paste (zr d) 118 [zA 108, zI x, zI y, zI u, zI v, zI n, zI e] [] TT h1 (zAnI P) := by
  intro m
  induction m with
  | zero =>
    intro e h1 a1 a2 i1 i2
    refine zS_iload (zdec eX10_paste 70 rfl) rfl ?_
    refine zS_iload (zdec eX10_paste 71 rfl) rfl ?_
    refine zS_icmp_ge (tgt := 152) (zdec eX10_paste 72 rfl) rfl (fun cz => ?_) (fun cz => absurd (by omega) cz)
    refine zS_iconst (zdec eX10_paste 89 rfl) rfl ?_
    refine zS_istore (zdec eX10_paste 90 rfl) rfl ?_
    exact L_pa2 x0 x1 u0 u1 y0 v0 n0 y1 v1 hP n.toNat 0 h1 (by omega) (by omega) (fun i i0 k1 => by omega) (fun i i0 k1 => i1 i i0 (by omega)) (i2.mono (fun k j z => by omega))
  | succ m ih =>
    intro e h1 a1 a2 i1 i2
    refine zS_iload (zdec eX10_paste 70 rfl) rfl ?_
    refine zS_iload (zdec eX10_paste 71 rfl) rfl ?_
    refine zS_icmp_ge (tgt := 152) (zdec eX10_paste 72 rfl) rfl (fun cz => absurd cz (by omega)) (fun cz => ?_)
    refine zS_aload_n (zdec eX10_paste 73 rfl) rfl rfl ?_
    refine zS_getref (i := 58) (zdec eX10_paste 74 rfl) kF_X10_20 ⟨by decide, rfl⟩ rfl rfl rfl rfl rfl ?_
    refine zS_iload (zdec eX10_paste 75 rfl) rfl ?_
    refine zS_aload_n (zdec eX10_paste 76 rfl) rfl rfl ?_
    refine zS_getref (i := 57) (zdec eX10_paste 77 rfl) kF_X10_16 ⟨by decide, rfl⟩ rfl rfl rfl rfl rfl ?_
    refine zS_bipush (zdec eX10_paste 78 rfl) rfl rfl ?_
    refine zS_iload_n (zdec eX10_paste 79 rfl) rfl ?_
    refine zS_imul (zdec eX10_paste 80 rfl) ⟨by omega, by omega⟩ ?_
    refine zS_iload_n (zdec eX10_paste 81 rfl) rfl ?_
    refine zS_iadd (zdec eX10_paste 82 rfl) ⟨by omega, by omega⟩ ?_
    refine zS_iload (zdec eX10_paste 83 rfl) rfl ?_
    refine zS_iadd (zdec eX10_paste 84 rfl) ⟨by omega, by omega⟩ ?_
    refine zS_laloadE (v := (h 111 (60 * x + y + e))) (zdec eX10_paste 85 rfl) ⟨by decide, rfl⟩ (by omega) (by omega) (i2 _ _ (by omega)) ?_
    refine zS_lastore (zdec eX10_paste 86 rfl) ⟨by decide, rfl⟩ (by omega) (by omega) ?_
    refine zS_iinc (zdec eX10_paste 87 rfl) rfl rfl ⟨by omega, by omega⟩ ?_
    refine zS_goto (tgt := 118) (zdec eX10_paste 88 rfl) rfl ?_
    refine ih (e + 1) _ (by omega) (by omega) (fun i i0 k1 => ?_) (i2.set (by omega))
    by_cases w : i = e
    · exact (zset_e rfl w).trans (by rw [w])
    · rw [zset_n (by omega)]; exact i1 i i0 (by omega)
theorem q_paste {d : Nat} {h : zH} {W : Rw} {x y u v n : Int} (hd : 200 ≤ d) (RW : RR h W) (VW : RV W) (y1 : zR y) (v1 : zR v) (n1 : zR n) : zMI d mX10_paste [zA 108, zI x, zI y, zI u, zI v, zI n] h (fun r h' => r = a_paste W x y u v n ∧ RR h' (n_paste W x y u v n) ∧ Fr (fun k j => (k = 108 ∧ j = 0) ∨ (109 ≤ k ∧ k ≤ 112)) h h') := by
  obtain ⟨ya, yb⟩ := y1
  obtain ⟨va, vb⟩ := v1
  obtain ⟨na, nb⟩ := n1
  have vs : 0 ≤ x ∧ x < 4 → (-1 ≤ W 0 x ∧ W 0 x ≤ 60) ∧ (W 0 x ≠ -1 → 0 ≤ W 1 x ∧ W 1 x ≤ 3) := fun z => VW x z.1 z.2
  have vu : 0 ≤ u ∧ u < 4 → (-1 ≤ W 0 u ∧ W 0 u ≤ 60) ∧ (W 0 u ≠ -1 → 0 ≤ W 1 u ∧ W 1 u ≤ 3) := fun z => VW u z.1 z.2
  have zc1 : zCmp (y + n) (W 0 x) ≤ 0 ↔ y + n ≤ W 0 x := by unfold zCmp; split <;> (try split) <;> omega
  have zc2 : zCmp (v + n) (W 0 u) ≤ 0 ↔ v + n ≤ W 0 u := by unfold zCmp; split <;> (try split) <;> omega
  refine zmet rfl rfl rfl ?_
  refine zS_aload_n (zdec eX10_paste 0 rfl) rfl rfl ?_
  refine zS_iconst (zdec eX10_paste 1 rfl) rfl ?_
  refine zS_putfield (x := 0) (zdec eX10_paste 2 rfl) kF_X10_71 (Or.inl kf10_0) ⟨by decide, rfl⟩ rfl rfl rfl (Or.inl (fun q => by cases q)) ?_
  obtain ⟨h0, E0⟩ : ∃ x, x = zset h 108 0 0 := ⟨_, rfl⟩
  rw [show zset h 108 0 (0 : Int) = h0 from E0.symm]
  have f0 : Fr (fun k j => k = 108 ∧ j = 0) h h0 := by rw [E0]; exact Fr.rf.set ⟨rfl, rfl⟩
  have RW0 : RR h0 W := RW.fr f0 (fun k j z => by omega)
  refine zS_iload_n (zdec eX10_paste 3 rfl) rfl ?_
  refine zsI (M' := mX10_isSlot) (As := [zI x]) (st := []) (zdec eX10_paste 4 rfl) kM_X10_80 kS_X10_isSlot rfl rfl rfl (by omega) (d_isSlot (by omega)) ?_
  refine zS_if_eq (tgt := 19) (zdec eX10_paste 5 rfl) rfl (fun c1 => ?_) (fun c1 => ?_)
  · have z1 := d2i_0.mp c1
    refine zS_bipush (zdec eX10_paste 9 rfl) rfl rfl ?_
    exact zlMI (zdec eX10_paste 10 rfl) rfl ⟨by unfold a_paste; rw [if_neg (by omega)], by unfold n_paste; rw [if_neg (by omega)]; exact RW0, f0.mono (fun k j z => Or.inl z)⟩
  · have z1 := d2i_n.mp c1
    refine zS_iload_n (zdec eX10_paste 6 rfl) rfl ?_
    refine zsI (M' := mX10_isSlot) (As := [zI u]) (st := []) (zdec eX10_paste 7 rfl) kM_X10_80 kS_X10_isSlot rfl rfl rfl (by omega) (d_isSlot (by omega)) ?_
    refine zS_if_ne (tgt := 22) (zdec eX10_paste 8 rfl) rfl (fun c2 => ?_) (fun c2 => ?_)
    · have z2 := d2i_n.mp c2
      refine zS_aload_n (zdec eX10_paste 11 rfl) rfl rfl ?_
      refine zS_getref (i := 55) (zdec eX10_paste 12 rfl) kF_X10_7 ⟨by decide, rfl⟩ rfl rfl rfl rfl rfl ?_
      refine zS_iload_n (zdec eX10_paste 13 rfl) rfl ?_
      refine zS_ialoadE (v := (if W 0 x = -1 then -1 else W 1 x)) (zdec eX10_paste 14 rfl) ⟨by decide, rfl⟩ (by omega) (by omega) (RW0.wd (by omega) (by omega)) ?_
      refine zS_iconst (zdec eX10_paste 15 rfl) rfl ?_
      refine zS_icmp_eq (tgt := 42) (zdec eX10_paste 16 rfl) rfl (fun c3 => ?_) (fun c3 => ?_)
      · refine zS_bipush (zdec eX10_paste 23 rfl) rfl rfl ?_
        exact zlMI (zdec eX10_paste 24 rfl) rfl ⟨by unfold a_paste; rw [if_pos (by omega), if_pos (by omega)], by unfold n_paste; rw [if_neg (by omega)]; exact RW0, f0.mono (fun k j z => Or.inl z)⟩
      · refine zS_aload_n (zdec eX10_paste 17 rfl) rfl rfl ?_
        refine zS_getref (i := 55) (zdec eX10_paste 18 rfl) kF_X10_7 ⟨by decide, rfl⟩ rfl rfl rfl rfl rfl ?_
        refine zS_iload_n (zdec eX10_paste 19 rfl) rfl ?_
        refine zS_ialoadE (v := (if W 0 u = -1 then -1 else W 1 u)) (zdec eX10_paste 20 rfl) ⟨by decide, rfl⟩ (by omega) (by omega) (RW0.wd (by omega) (by omega)) ?_
        refine zS_iconst (zdec eX10_paste 21 rfl) rfl ?_
        refine zS_icmp_ne (tgt := 45) (zdec eX10_paste 22 rfl) rfl (fun c4 => ?_) (fun c4 => ?_)
        · refine zS_aload_n (zdec eX10_paste 25 rfl) rfl rfl ?_
          refine zS_getref (i := 55) (zdec eX10_paste 26 rfl) kF_X10_7 ⟨by decide, rfl⟩ rfl rfl rfl rfl rfl ?_
          refine zS_iload_n (zdec eX10_paste 27 rfl) rfl ?_
          refine zS_ialoadE (v := (if W 0 x = -1 then -1 else W 1 x)) (zdec eX10_paste 28 rfl) ⟨by decide, rfl⟩ (by omega) (by omega) (RW0.wd (by omega) (by omega)) ?_
          refine zS_aload_n (zdec eX10_paste 29 rfl) rfl rfl ?_
          refine zS_getref (i := 55) (zdec eX10_paste 30 rfl) kF_X10_7 ⟨by decide, rfl⟩ rfl rfl rfl rfl rfl ?_
          refine zS_iload_n (zdec eX10_paste 31 rfl) rfl ?_
          refine zS_ialoadE (v := (if W 0 u = -1 then -1 else W 1 u)) (zdec eX10_paste 32 rfl) ⟨by decide, rfl⟩ (by omega) (by omega) (RW0.wd (by omega) (by omega)) ?_
          refine zS_icmp_eq (tgt := 63) (zdec eX10_paste 33 rfl) rfl (fun c5 => ?_) (fun c5 => ?_)
          · refine zS_iload_n (zdec eX10_paste 36 rfl) rfl ?_
            refine zS_if_lt (tgt := 112) (zdec eX10_paste 37 rfl) rfl (fun c6 => ?_) (fun c6 => ?_)
            · refine zS_bipush (zdec eX10_paste 66 rfl) rfl rfl ?_
              exact zlMI (zdec eX10_paste 67 rfl) rfl ⟨by unfold a_paste; rw [if_pos (by omega), if_neg (by omega), if_neg (by omega), if_neg (by omega)], by unfold n_paste; rw [if_neg (by omega)]; exact RW0, f0.mono (fun k j z => Or.inl z)⟩
            · refine zS_iload (zdec eX10_paste 38 rfl) rfl ?_
              refine zS_if_lt (tgt := 112) (zdec eX10_paste 39 rfl) rfl (fun c7 => ?_) (fun c7 => ?_)
              · refine zS_bipush (zdec eX10_paste 66 rfl) rfl rfl ?_
                exact zlMI (zdec eX10_paste 67 rfl) rfl ⟨by unfold a_paste; rw [if_pos (by omega), if_neg (by omega), if_neg (by omega), if_neg (by omega)], by unfold n_paste; rw [if_neg (by omega)]; exact RW0, f0.mono (fun k j z => Or.inl z)⟩
              · refine zS_iload (zdec eX10_paste 40 rfl) rfl ?_
                refine zS_if_lt (tgt := 112) (zdec eX10_paste 41 rfl) rfl (fun c8 => ?_) (fun c8 => ?_)
                · refine zS_bipush (zdec eX10_paste 66 rfl) rfl rfl ?_
                  exact zlMI (zdec eX10_paste 67 rfl) rfl ⟨by unfold a_paste; rw [if_pos (by omega), if_neg (by omega), if_neg (by omega), if_neg (by omega)], by unfold n_paste; rw [if_neg (by omega)]; exact RW0, f0.mono (fun k j z => Or.inl z)⟩
                · refine zS_iload_n (zdec eX10_paste 42 rfl) rfl ?_
                  refine zS_i2l (zdec eX10_paste 43 rfl) ?_
                  refine zS_iload (zdec eX10_paste 44 rfl) rfl ?_
                  refine zS_i2l (zdec eX10_paste 45 rfl) ?_
                  refine zS_ladd (zdec eX10_paste 46 rfl) ⟨by omega, by omega⟩ ?_
                  refine zS_aload_n (zdec eX10_paste 47 rfl) rfl rfl ?_
                  refine zS_getref (i := 56) (zdec eX10_paste 48 rfl) kF_X10_13 ⟨by decide, rfl⟩ rfl rfl rfl rfl rfl ?_
                  refine zS_iload_n (zdec eX10_paste 49 rfl) rfl ?_
                  refine zS_ialoadE (v := (W 0 x)) (zdec eX10_paste 50 rfl) ⟨by decide, rfl⟩ (by omega) (by omega) (RW0.sz (by omega) (by omega) (by omega)) ?_
                  refine zS_i2l (zdec eX10_paste 51 rfl) ?_
                  refine zS_lcmp (zdec eX10_paste 52 rfl) ?_
                  refine zS_if_gt (tgt := 112) (zdec eX10_paste 53 rfl) rfl (fun c9 => ?_) (fun c9 => ?_)
                  · refine zS_bipush (zdec eX10_paste 66 rfl) rfl rfl ?_
                    exact zlMI (zdec eX10_paste 67 rfl) rfl ⟨by unfold a_paste; rw [if_pos (by omega), if_neg (by omega), if_neg (by omega), if_neg (by omega)], by unfold n_paste; rw [if_neg (by omega)]; exact RW0, f0.mono (fun k j z => Or.inl z)⟩
                  · refine zS_iload (zdec eX10_paste 54 rfl) rfl ?_
                    refine zS_i2l (zdec eX10_paste 55 rfl) ?_
                    refine zS_iload (zdec eX10_paste 56 rfl) rfl ?_
                    refine zS_i2l (zdec eX10_paste 57 rfl) ?_
                    refine zS_ladd (zdec eX10_paste 58 rfl) ⟨by omega, by omega⟩ ?_
                    refine zS_aload_n (zdec eX10_paste 59 rfl) rfl rfl ?_
                    refine zS_getref (i := 56) (zdec eX10_paste 60 rfl) kF_X10_13 ⟨by decide, rfl⟩ rfl rfl rfl rfl rfl ?_
                    refine zS_iload_n (zdec eX10_paste 61 rfl) rfl ?_
                    refine zS_ialoadE (v := (W 0 u)) (zdec eX10_paste 62 rfl) ⟨by decide, rfl⟩ (by omega) (by omega) (RW0.sz (by omega) (by omega) (by omega)) ?_
                    refine zS_i2l (zdec eX10_paste 63 rfl) ?_
                    refine zS_lcmp (zdec eX10_paste 64 rfl) ?_
                    refine zS_if_le (tgt := 115) (zdec eX10_paste 65 rfl) rfl (fun c10 => ?_) (fun c10 => ?_)
                    · refine zS_iconst (zdec eX10_paste 68 rfl) rfl ?_
                      refine zS_istore (zdec eX10_paste 69 rfl) rfl ?_
                      have w5 : ((0 ≤ x ∧ x < 4) ∧ 0 ≤ u ∧ u < 4) ∧ (W 0 x ≠ -1 ∧ W 0 u ≠ -1) ∧ W 1 x = W 1 u ∧ (0 ≤ y ∧ 0 ≤ n ∧ y + n ≤ W 0 x) ∧ (0 ≤ v ∧ v + n ≤ W 0 u) := by omega
                      exact L_pa1 (by omega) (by omega) (by omega) (by omega) (by omega) (by omega) (by omega) (by omega) (by omega) (h := h0) (fun h' e1 e4 => ⟨by unfold a_paste; rw [if_pos (by omega), if_neg (by omega), if_neg (by omega), if_pos (by omega)], RW0.paste VW w5 e1 e4, (f0.mono (S' := (fun k j => (k = 108 ∧ j = 0) ∨ (109 ≤ k ∧ k ≤ 112))) (fun k j z => Or.inl z)).tr e4 (fun k j z => z) (fun k j z => by omega)⟩) n.toNat 0 h0 (by omega) (by omega) (fun i i0 k1 => by omega) Fr.rf
                    · refine zS_bipush (zdec eX10_paste 66 rfl) rfl rfl ?_
                      exact zlMI (zdec eX10_paste 67 rfl) rfl ⟨by unfold a_paste; rw [if_pos (by omega), if_neg (by omega), if_neg (by omega), if_neg (by omega)], by unfold n_paste; rw [if_neg (by omega)]; exact RW0, f0.mono (fun k j z => Or.inl z)⟩
          · refine zS_bipush (zdec eX10_paste 34 rfl) rfl rfl ?_
            exact zlMI (zdec eX10_paste 35 rfl) rfl ⟨by unfold a_paste; rw [if_pos (by omega), if_neg (by omega), if_pos (by omega)], by unfold n_paste; rw [if_neg (by omega)]; exact RW0, f0.mono (fun k j z => Or.inl z)⟩
        · refine zS_bipush (zdec eX10_paste 23 rfl) rfl rfl ?_
          exact zlMI (zdec eX10_paste 24 rfl) rfl ⟨by unfold a_paste; rw [if_pos (by omega), if_pos (by omega)], by unfold n_paste; rw [if_neg (by omega)]; exact RW0, f0.mono (fun k j z => Or.inl z)⟩
    · have z2 := d2i_0.mp c2
      refine zS_bipush (zdec eX10_paste 9 rfl) rfl rfl ?_
      exact zlMI (zdec eX10_paste 10 rfl) rfl ⟨by unfold a_paste; rw [if_neg (by omega)], by unfold n_paste; rw [if_neg (by omega)]; exact RW0, f0.mono (fun k j z => Or.inl z)⟩

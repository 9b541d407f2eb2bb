section R27
variable {h h' : zH} {D : Dk}
theorem DR.sc4 (R : DR h 4 D) {j v : Int} (j0 : 0 ≤ j) (j1 : j ≤ 5) : DR (zset h 115 (40 + j) v) 4 (zset D 0 (j + 1) v) := by
  have e7 : zset D 0 (j + 1) v 0 7 = D 0 7 := zset_n (by omega)
  have e8 : zset D 0 (j + 1) v 0 8 = D 0 8 := zset_n (by omega)
  have e9 : zset D 0 (j + 1) v 0 9 = D 0 9 := zset_n (by omega)
  have e10 : zset D 0 (j + 1) v 0 10 = D 0 10 := zset_n (by omega)
  refine ⟨by rw [zset_n (by omega), zset_n (by omega)]; exact R.1, fun w w0 w1 => ?_, fun s s0 s1 s2 => ?_, fun b w b0 b1 b2 w0 w1 => ?_, fun i i0 i1 i2 => ?_, fun i i0 i1 i2 => ?_⟩
  · by_cases u : w = j
    · rw [u, zset_e rfl (by omega), zset_s]
    · rw [zset_n (by omega), zset_n (by omega)]; exact R.2.1 w w0 w1
  · rw [zset_n (by omega), zset_n (by omega)]; exact R.2.2.1 s s0 s1 (by omega)
  · rw [zset_n (by omega), zset_n (by omega)]; exact R.2.2.2.1 b w b0 b1 (by omega) w0 w1
  · rw [zset_n (by omega), zset_n (by omega), zset_n (by omega), zset_n (by omega)]; exact R.2.2.2.2.1 i i0 i1 (by omega)
  · rw [zset_n (by omega), zset_n (by omega), zset_n (by omega)]; exact R.2.2.2.2.2 i i0 i1 (by omega)
theorem DR.ln4 (R : DR h 4 D) {v : Int} : DR (zset h 114 4 v) 4 (zset D 0 0 v) := by
  have e7 : zset D 0 0 v 0 7 = D 0 7 := zset_n (by omega)
  have e8 : zset D 0 0 v 0 8 = D 0 8 := zset_n (by omega)
  have e9 : zset D 0 0 v 0 9 = D 0 9 := zset_n (by omega)
  have e10 : zset D 0 0 v 0 10 = D 0 10 := zset_n (by omega)
  refine ⟨by rw [zset_s, zset_s], fun w w0 w1 => ?_, fun s s0 s1 s2 => ?_, fun b w b0 b1 b2 w0 w1 => ?_, fun i i0 i1 i2 => ?_, fun i i0 i1 i2 => ?_⟩
  · rw [zset_n (by omega), zset_n (by omega)]; exact R.2.1 w w0 w1
  · rw [zset_n (by omega), zset_n (by omega)]; exact R.2.2.1 s s0 s1 (by omega)
  · rw [zset_n (by omega), zset_n (by omega)]; exact R.2.2.2.1 b w b0 b1 (by omega) w0 w1
  · rw [zset_n (by omega), zset_n (by omega), zset_n (by omega), zset_n (by omega)]; exact R.2.2.2.2.1 i i0 i1 (by omega)
  · rw [zset_n (by omega), zset_n (by omega), zset_n (by omega)]; exact R.2.2.2.2.2 i i0 i1 (by omega)
theorem DR.sp4 {v : Int} (R : DR h 4 D) (c : CT D) (e1 : h' 116 (16 + D 0 7) = v) (e2 : h' 115 46 = D 0 7 + 1) (f : Fr (fun k j => sPR k j ∨ (k = 116 ∧ j = 16 + D 0 7) ∨ (k = 115 ∧ j = 46)) h h') : DR h' 4 (spD D v) := by
  have c7 := c.1
  have e : ∀ j, j ≠ 7 → spD D v 0 j = D 0 j := fun j hj => spD_e (by omega) (by omega)
  have e7 : spD D v 0 7 = D 0 7 + 1 := by unfold spD; rw [if_neg (by omega), if_pos ⟨rfl, rfl⟩]
  refine ⟨by rw [f _ _ (by omega), e 0 (by omega)]; exact R.1, fun w w0 w1 => ?_, fun s s0 s1 s2 => ?_, fun b w b0 b1 b2 w0 w1 => ?_, fun i i0 i1 i2 => ?_, fun i i0 i1 i2 => ?_⟩
  · by_cases u : w = 6
    · subst u; exact e2.trans e7.symm
    · rw [f _ _ (by omega), e _ (by omega)]; exact R.2.1 w w0 w1
  · rw [e7] at s2
    by_cases u : s = D 0 7
    · subst u
      rw [show (4 : Int) * 4 + D 0 7 = 16 + D 0 7 by omega, e1]; unfold spD; rw [if_pos ⟨rfl, rfl⟩]
    · rw [f _ _ (by omega), spD_e (by omega) (by omega)]; exact R.2.2.1 s s0 s1 (by omega)
  · rw [e 8 (by omega)] at b2
    rw [f _ _ (by omega), spD_e (by omega) (by omega)]; exact R.2.2.2.1 b w b0 b1 b2 w0 w1
  · rw [e 9 (by omega)] at i2
    rw [f _ _ (by omega), f _ _ (by omega), spD_e (by omega) (by omega), spD_e (by omega) (by omega)]; exact R.2.2.2.2.1 i i0 i1 i2
  · rw [e 10 (by omega)] at i2
    rw [f _ _ (by omega), f _ _ (by omega), spD_e (by omega) (by omega)]; exact R.2.2.2.2.2 i i0 i1 i2
theorem DR.bl4 {v : Int → Int} (R : DR h 4 D) (c : CT D) (c5 : D 0 8 < 5) (e1 : ∀ w, 0 ≤ w → w < 7 → h' 117 (7 * (20 + D 0 8) + w) = v w) (e2 : h' 115 47 = D 0 8 + 1) (f : Fr (fun k j => sPR k j ∨ (k = 117 ∧ 7 * (20 + D 0 8) ≤ j ∧ j < 7 * (20 + D 0 8) + 7) ∨ (k = 115 ∧ j = 47)) h h') : DR h' 4 (blD D v) := by
  have c8 := c.2.1
  have e : ∀ j, j ≠ 8 → blD D v 0 j = D 0 j := fun j hj => blD_e (by omega) (by omega)
  have e8 : blD D v 0 8 = D 0 8 + 1 := by unfold blD; rw [if_neg (by omega), if_pos ⟨rfl, rfl⟩]
  refine ⟨by rw [f _ _ (by omega), e 0 (by omega)]; exact R.1, fun w w0 w1 => ?_, fun s s0 s1 s2 => ?_, fun b w b0 b1 b2 w0 w1 => ?_, fun i i0 i1 i2 => ?_, fun i i0 i1 i2 => ?_⟩
  · by_cases u : w = 7
    · subst u; exact e2.trans e8.symm
    · rw [f _ _ (by omega), e _ (by omega)]; exact R.2.1 w w0 w1
  · rw [e 7 (by omega)] at s2
    rw [f _ _ (by omega), blD_e (by omega) (by omega)]; exact R.2.2.1 s s0 s1 s2
  · rw [e8] at b2
    by_cases u : b = D 0 8
    · subst u
      rw [show (35 : Int) * 4 + 7 * D 0 8 + w = 7 * (20 + D 0 8) + w by omega, e1 w w0 w1]; unfold blD; rw [if_pos rfl]
    · rw [f _ _ (by omega), blD_e (by omega) (by omega)]; exact R.2.2.2.1 b w b0 b1 (by omega) w0 w1
  · rw [e 9 (by omega)] at i2
    rw [f _ _ (by omega), f _ _ (by omega), blD_e (by omega) (by omega), blD_e (by omega) (by omega)]; exact R.2.2.2.2.1 i i0 i1 i2
  · rw [e 10 (by omega)] at i2
    rw [f _ _ (by omega), f _ _ (by omega), blD_e (by omega) (by omega)]; exact R.2.2.2.2.2 i i0 i1 i2
theorem DR.lo4 {a o : Int} (R : DR h 4 D) (c : CT D) (e1 : h' 118 (2 * (24 + D 0 9)) = a) (e3 : h' 118 (2 * (24 + D 0 9) + 1) = o) (e2 : h' 115 48 = D 0 9 + 1) (f : Fr (fun k j => sPR k j ∨ (k = 118 ∧ 2 * (24 + D 0 9) ≤ j ∧ j < 2 * (24 + D 0 9) + 2) ∨ (k = 115 ∧ j = 48)) h h') : DR h' 4 (lnD D a o) := by
  have c9 := c.2.2.1
  have e : ∀ j, j ≠ 9 → lnD D a o 0 j = D 0 j := fun j hj => lnD_e (by omega) (by omega) (by omega)
  have e9 : lnD D a o 0 9 = D 0 9 + 1 := by unfold lnD; rw [if_neg (by omega), if_neg (by omega), if_pos ⟨rfl, rfl⟩]
  refine ⟨by rw [f _ _ (by omega), e 0 (by omega)]; exact R.1, fun w w0 w1 => ?_, fun s s0 s1 s2 => ?_, fun b w b0 b1 b2 w0 w1 => ?_, fun i i0 i1 i2 => ?_, fun i i0 i1 i2 => ?_⟩
  · by_cases u : w = 8
    · subst u; exact e2.trans e9.symm
    · rw [f _ _ (by omega), e _ (by omega)]; exact R.2.1 w w0 w1
  · rw [e 7 (by omega)] at s2
    rw [f _ _ (by omega), lnD_e (by omega) (by omega) (by omega)]; exact R.2.2.1 s s0 s1 s2
  · rw [e 8 (by omega)] at b2
    rw [f _ _ (by omega), lnD_e (by omega) (by omega) (by omega)]; exact R.2.2.2.1 b w b0 b1 b2 w0 w1
  · rw [e9] at i2
    by_cases u : i = D 0 9
    · subst u
      rw [show (12 : Int) * 4 + 2 * D 0 9 = 2 * (24 + D 0 9) by omega, e1, e3]
      unfold lnD
      rw [if_pos ⟨rfl, rfl⟩, if_neg (by omega), if_pos ⟨rfl, rfl⟩]
      exact ⟨rfl, rfl⟩
    · rw [f _ _ (by omega), f _ _ (by omega), lnD_e (by omega) (by omega) (by omega), lnD_e (by omega) (by omega) (by omega)]; exact R.2.2.2.2.1 i i0 i1 (by omega)
  · rw [e 10 (by omega)] at i2
    rw [f _ _ (by omega), f _ _ (by omega), lnD_e (by omega) (by omega) (by omega)]; exact R.2.2.2.2.2 i i0 i1 i2
end R27
theorem r_isGood {d : Nat} {h : zH} {B : Int → Int} {L : Int} {P : Tp} (R : PR h B L P) : zPI d mX10_isGood [zA 108] h (d2i (P 3 = 0)) := by
  refine zmet rfl rfl rfl ?_
  refine zS_aload_n (zdec eX10_isGood 0 rfl) rfl rfl ?_
  refine zS_getfieldE (x := 12) (v := (P 3)) (zdec eX10_isGood 1 rfl) kF_X10_123 ⟨by decide, rfl⟩ rfl rfl rfl R.2.1 ?_
  refine zS_if_ne (tgt := 11) (zdec eX10_isGood 2 rfl) rfl (fun c1 => ?_) (fun c1 => ?_)
  · refine zS_iconst (zdec eX10_isGood 5 rfl) rfl ?_
    exact zlZ (zdec eX10_isGood 6 rfl) rfl (Or.inl rfl) (by rw [d2i_f (by omega)])
  · refine zS_iconst (zdec eX10_isGood 3 rfl) rfl ?_
    refine zS_goto (tgt := 12) (zdec eX10_isGood 4 rfl) rfl ?_
    exact zlZ (zdec eX10_isGood 6 rfl) rfl (Or.inr rfl) (by rw [d2i_t (by omega)])
theorem r_hasRead {d : Nat} {h : zH} {x v : Int} (x0 : 0 ≤ x) (x1 : x ≤ 9) (e : h 115 (40 + x) = v) : zPI d mX10_hasRead [zA 108, zI x] h v := by
  refine zmet rfl rfl rfl ?_
  refine zS_aload_n (zdec eX10_hasRead 0 rfl) rfl rfl ?_
  refine zS_getref (i := 61) (zdec eX10_hasRead 1 rfl) kF_X10_34 ⟨by decide, rfl⟩ rfl rfl rfl rfl rfl ?_
  refine zS_bipush (zdec eX10_hasRead 2 rfl) rfl rfl ?_
  refine zS_iload_n (zdec eX10_hasRead 3 rfl) rfl ?_
  refine zS_iadd (zdec eX10_hasRead 4 rfl) ⟨by omega, by omega⟩ ?_
  refine zS_ialoadE (v := v) (zdec eX10_hasRead 5 rfl) ⟨by decide, rfl⟩ (by omega) (by omega) e ?_
  exact zlI (zdec eX10_hasRead 6 rfl) rfl rfl
theorem r_tells {d : Nat} {h : zH} {x v : Int} (x0 : 0 ≤ x) (x1 : x ≤ 9) : zMV d mX10_tells [zA 108, zI x, zI v] h (fun h' => h' = zset h 115 (40 + x) v) := by
  refine zmet rfl rfl rfl ?_
  refine zS_aload_n (zdec eX10_tells 0 rfl) rfl rfl ?_
  refine zS_getref (i := 61) (zdec eX10_tells 1 rfl) kF_X10_34 ⟨by decide, rfl⟩ rfl rfl rfl rfl rfl ?_
  refine zS_bipush (zdec eX10_tells 2 rfl) rfl rfl ?_
  refine zS_iload_n (zdec eX10_tells 3 rfl) rfl ?_
  refine zS_iadd (zdec eX10_tells 4 rfl) ⟨by omega, by omega⟩ ?_
  refine zS_iload_n (zdec eX10_tells 5 rfl) rfl ?_
  refine zS_iastore (zdec eX10_tells 6 rfl) ⟨by decide, rfl⟩ (by omega) (by omega) ?_
  exact zlMV (zdec eX10_tells 7 rfl) rfl rfl
theorem tsP_y {B : Int → Int} {L : Int} {P : Tp} (h : P 7 = 3) : tsP B L P = nxP B L P := by unfold tsP; rw [if_pos h]
theorem tsP_n {B : Int → Int} {L : Int} {P : Tp} (h : P 7 ≠ 3) : tsP B L P = rfu P 1 := by unfold tsP; rw [if_neg h, nxP_rfu (by omega)]
theorem r_ends {d : Nat} {h : zH} {B : Int → Int} {L : Int} {P : Tp} (hd : 3 ≤ d) (V : TV L P) (p3 : P 3 = 0) (R : PR h B L P) : zMV d mX10_ends [zA 108] h (fun h' => PR h' B L (tsP B L P) ∧ Fr sPR h h') := by
  have q3 : rfu P 1 3 = 1 := rfu_3 p3
  refine zmet rfl rfl rfl ?_
  refine zS_aload_n (zdec eX10_ends 0 rfl) rfl rfl ?_
  refine zS_getfieldE (x := 8) (v := (P 7)) (zdec eX10_ends 1 rfl) kF_X10_112 ⟨by decide, rfl⟩ rfl rfl rfl (R.2.2.2 (by omega)).2.1 ?_
  refine zS_iconst (zdec eX10_ends 2 rfl) rfl ?_
  refine zS_icmp_eq (tgt := 13) (zdec eX10_ends 3 rfl) rfl (fun c1 => ?_) (fun c1 => ?_)
  · refine zS_aload_n (zdec eX10_ends 7 rfl) rfl rfl ?_
    refine zS_getfieldE (x := 12) (v := (P 3)) (zdec eX10_ends 8 rfl) kF_X10_123 ⟨by decide, rfl⟩ rfl rfl rfl R.2.1 ?_
    refine zS_if_ne (tgt := 24) (zdec eX10_ends 9 rfl) rfl (fun cz => absurd cz (by omega)) (fun cz => ?_)
    refine zS_aload_n (zdec eX10_ends 10 rfl) rfl rfl ?_
    refine zvMV (M' := mX10_next) (As := []) (st := []) (zdec eX10_ends 11 rfl) kM_X10_133 kV_X10_next ⟨by decide, rfl⟩ rfl rfl rfl rfl rfl (by omega) (r_nx (by omega) V p3 R) (fun h2 ⟨R2, f2⟩ => ?_)
    exact zlMV (zdec eX10_ends 12 rfl) rfl ⟨by rw [tsP_y (by omega)]; exact R2, f2⟩
  · refine zS_aload_n (zdec eX10_ends 4 rfl) rfl rfl ?_
    refine zS_iconst (zdec eX10_ends 5 rfl) rfl ?_
    refine zvMV (M' := mX10_errs) (As := [zI 1]) (st := []) (zdec eX10_ends 6 rfl) kM_X10_139 kV_X10_errs ⟨by decide, rfl⟩ rfl rfl rfl rfl rfl (by omega) (r_errs (c := 1) (by omega) R) (fun h2 ⟨R2, f2⟩ => ?_)
    refine zS_aload_n (zdec eX10_ends 7 rfl) rfl rfl ?_
    refine zS_getfieldE (x := 12) (v := (rfu P 1 3)) (zdec eX10_ends 8 rfl) kF_X10_123 ⟨by decide, rfl⟩ rfl rfl rfl R2.2.1 ?_
    refine zS_if_ne (tgt := 24) (zdec eX10_ends 9 rfl) rfl (fun cz => ?_) (fun cz => absurd cz (by omega))
    exact zlMV (zdec eX10_ends 12 rfl) rfl ⟨by rw [tsP_n (by omega)]; exact R2, f2.mono (fun k j z => by omega)⟩

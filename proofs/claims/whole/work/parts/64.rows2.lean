abbrev sI : Int → Int → Prop := fun k _ => (33 ≤ k ∧ k ≤ 66)
theorem p_image_0 {d : Nat} {h : zH} {D : Dk} (hd : 20 ≤ d) (RD : DC h 15 D) : zMI d mX9_image [zA 0, zI 0] h (fun r h' => r = 0 ∧ DC h' 33 D ∧ h' 66 0 = 1 ∧ Fr (fun k j => (33 ≤ k ∧ k ≤ 43) ∨ (k = 66 ∧ j = 0)) h h') := by
  refine zmet rfl rfl rfl ?_
  refine zS_iload_n (zdec eX9_image 0 rfl) rfl ?_
  refine zS_if_lt (tgt := 9) (zdec eX9_image 1 rfl) rfl (fun cz => absurd cz (by decide)) (fun cz => ?_)
  refine zS_iload_n (zdec eX9_image 2 rfl) rfl ?_
  refine zS_iconst (zdec eX9_image 3 rfl) rfl ?_
  refine zS_icmp_lt (tgt := 12) (zdec eX9_image 4 rfl) rfl (fun cz => ?_) (fun cz => absurd (by decide) cz)
  refine zS_aload_n (zdec eX9_image 7 rfl) rfl rfl ?_
  refine zS_getref (i := 3) (zdec eX9_image 8 rfl) kF_X9_30 ⟨by decide, rfl⟩ rfl rfl rfl rfl rfl ?_
  refine zS_iload_n (zdec eX9_image 9 rfl) rfl ?_
  refine zS_aaloadR (i := 2) (zdec eX9_image 10 rfl) (Or.inl rfl) ⟨by decide, rfl⟩ rfl rfl rfl (by decide) (by decide) ?_
  refine zS_aload_n (zdec eX9_image 11 rfl) rfl rfl ?_
  refine zS_getref (i := 2) (zdec eX9_image 12 rfl) kF_X9_27 ⟨by decide, rfl⟩ rfl rfl rfl rfl rfl ?_
  refine zvMV (M' := mX0_become) (As := [zA 15]) (st := []) (zdec eX9_image 13 rfl) kM_X9_98 kV_X0_become ⟨by decide, rfl⟩ rfl rfl rfl rfl rfl (by omega) (c_become_33_15 (by omega) RD) (fun h5 ⟨D5, f5⟩ => ?_)
  refine zS_aload_n (zdec eX9_image 14 rfl) rfl rfl ?_
  refine zS_getref (i := 4) (zdec eX9_image 15 rfl) kF_X9_35 ⟨by decide, rfl⟩ rfl rfl rfl rfl rfl ?_
  refine zS_iload_n (zdec eX9_image 16 rfl) rfl ?_
  refine zS_iconst (zdec eX9_image 17 rfl) rfl ?_
  refine zS_bastore (zdec eX9_image 18 rfl) (Or.inr ⟨rfl, by omega⟩) ⟨by decide, rfl⟩ (by decide) (by decide) ?_
  refine zS_iconst (zdec eX9_image 19 rfl) rfl ?_
  exact zlMI (zdec eX9_image 20 rfl) rfl ⟨rfl, D5.at (fun k j a b => congrFun (zset_k (by omega)) _), zset_s _ _ _ _, (f5.mono (fun k j z => Or.inl z)).set (Or.inr ⟨rfl, rfl⟩)⟩
theorem p_back_0 {d : Nat} {h : zH} {D : Dk} {v : Int} (hd : 20 ≤ d) (hv : h 66 0 = v) (RI : DC h 33 D) : zMI d mX9_back [zA 0, zI 0] h (fun r h' => r = (if v = 0 then -6 else 0) ∧ (v ≠ 0 → DC h' 15 D) ∧ Fr (fun k _ => 15 ≤ k ∧ k ≤ 25) h h' ∧ (v = 0 → h' = h)) := by
  refine zmet rfl rfl rfl ?_
  refine zS_iload_n (zdec eX9_back 0 rfl) rfl ?_
  refine zS_if_lt (tgt := 9) (zdec eX9_back 1 rfl) rfl (fun cz => absurd cz (by decide)) (fun cz => ?_)
  refine zS_iload_n (zdec eX9_back 2 rfl) rfl ?_
  refine zS_iconst (zdec eX9_back 3 rfl) rfl ?_
  refine zS_icmp_lt (tgt := 12) (zdec eX9_back 4 rfl) rfl (fun cz => ?_) (fun cz => absurd (by decide) cz)
  refine zS_aload_n (zdec eX9_back 7 rfl) rfl rfl ?_
  refine zS_getref (i := 4) (zdec eX9_back 8 rfl) kF_X9_35 ⟨by decide, rfl⟩ rfl rfl rfl rfl rfl ?_
  refine zS_iload_n (zdec eX9_back 9 rfl) rfl ?_
  refine zS_baloadE (v := v) (zdec eX9_back 10 rfl) (Or.inr rfl) ⟨by decide, rfl⟩ (by decide) (by decide) hv ?_
  refine zS_if_ne (tgt := 24) (zdec eX9_back 11 rfl) rfl (fun c1 => ?_) (fun c1 => ?_)
  · refine zS_aload_n (zdec eX9_back 14 rfl) rfl rfl ?_
    refine zS_getref (i := 2) (zdec eX9_back 15 rfl) kF_X9_27 ⟨by decide, rfl⟩ rfl rfl rfl rfl rfl ?_
    refine zS_aload_n (zdec eX9_back 16 rfl) rfl rfl ?_
    refine zS_getref (i := 3) (zdec eX9_back 17 rfl) kF_X9_30 ⟨by decide, rfl⟩ rfl rfl rfl rfl rfl ?_
    refine zS_iload_n (zdec eX9_back 18 rfl) rfl ?_
    refine zS_aaloadR (i := 2) (zdec eX9_back 19 rfl) (Or.inl rfl) ⟨by decide, rfl⟩ rfl rfl rfl (by decide) (by decide) ?_
    refine zvMV (M' := mX0_become) (As := [zA 33]) (st := []) (zdec eX9_back 20 rfl) kM_X9_98 kV_X0_become ⟨by decide, rfl⟩ rfl rfl rfl rfl rfl (by omega) (c_become_15_33 (by omega) RI) (fun h5 ⟨D5, f5⟩ => ?_)
    refine zS_iconst (zdec eX9_back 21 rfl) rfl ?_
    exact zlMI (zdec eX9_back 22 rfl) rfl ⟨by rw [if_neg (by omega)], fun w => D5, f5, fun w => absurd w (by omega)⟩
  · refine zS_bipush (zdec eX9_back 12 rfl) rfl rfl ?_
    exact zlMI (zdec eX9_back 13 rfl) rfl ⟨by rw [if_pos (by omega)], fun w => absurd w (by omega), Fr.rf, fun _ => rfl⟩
theorem p_image_1 {d : Nat} {h : zH} {D : Dk} (hd : 20 ≤ d) (RD : DC h 15 D) : zMI d mX9_image [zA 0, zI 1] h (fun r h' => r = 0 ∧ DC h' 44 D ∧ h' 66 1 = 1 ∧ Fr (fun k j => (44 ≤ k ∧ k ≤ 54) ∨ (k = 66 ∧ j = 1)) h h') := by
  refine zmet rfl rfl rfl ?_
  refine zS_iload_n (zdec eX9_image 0 rfl) rfl ?_
  refine zS_if_lt (tgt := 9) (zdec eX9_image 1 rfl) rfl (fun cz => absurd cz (by decide)) (fun cz => ?_)
  refine zS_iload_n (zdec eX9_image 2 rfl) rfl ?_
  refine zS_iconst (zdec eX9_image 3 rfl) rfl ?_
  refine zS_icmp_lt (tgt := 12) (zdec eX9_image 4 rfl) rfl (fun cz => ?_) (fun cz => absurd (by decide) cz)
  refine zS_aload_n (zdec eX9_image 7 rfl) rfl rfl ?_
  refine zS_getref (i := 3) (zdec eX9_image 8 rfl) kF_X9_30 ⟨by decide, rfl⟩ rfl rfl rfl rfl rfl ?_
  refine zS_iload_n (zdec eX9_image 9 rfl) rfl ?_
  refine zS_aaloadR (i := 2) (zdec eX9_image 10 rfl) (Or.inl rfl) ⟨by decide, rfl⟩ rfl rfl rfl (by decide) (by decide) ?_
  refine zS_aload_n (zdec eX9_image 11 rfl) rfl rfl ?_
  refine zS_getref (i := 2) (zdec eX9_image 12 rfl) kF_X9_27 ⟨by decide, rfl⟩ rfl rfl rfl rfl rfl ?_
  refine zvMV (M' := mX0_become) (As := [zA 15]) (st := []) (zdec eX9_image 13 rfl) kM_X9_98 kV_X0_become ⟨by decide, rfl⟩ rfl rfl rfl rfl rfl (by omega) (c_become_44_15 (by omega) RD) (fun h5 ⟨D5, f5⟩ => ?_)
  refine zS_aload_n (zdec eX9_image 14 rfl) rfl rfl ?_
  refine zS_getref (i := 4) (zdec eX9_image 15 rfl) kF_X9_35 ⟨by decide, rfl⟩ rfl rfl rfl rfl rfl ?_
  refine zS_iload_n (zdec eX9_image 16 rfl) rfl ?_
  refine zS_iconst (zdec eX9_image 17 rfl) rfl ?_
  refine zS_bastore (zdec eX9_image 18 rfl) (Or.inr ⟨rfl, by omega⟩) ⟨by decide, rfl⟩ (by decide) (by decide) ?_
  refine zS_iconst (zdec eX9_image 19 rfl) rfl ?_
  exact zlMI (zdec eX9_image 20 rfl) rfl ⟨rfl, D5.at (fun k j a b => congrFun (zset_k (by omega)) _), zset_s _ _ _ _, (f5.mono (fun k j z => Or.inl z)).set (Or.inr ⟨rfl, rfl⟩)⟩
theorem p_back_1 {d : Nat} {h : zH} {D : Dk} {v : Int} (hd : 20 ≤ d) (hv : h 66 1 = v) (RI : DC h 44 D) : zMI d mX9_back [zA 0, zI 1] h (fun r h' => r = (if v = 0 then -6 else 0) ∧ (v ≠ 0 → DC h' 15 D) ∧ Fr (fun k _ => 15 ≤ k ∧ k ≤ 25) h h' ∧ (v = 0 → h' = h)) := by
  refine zmet rfl rfl rfl ?_
  refine zS_iload_n (zdec eX9_back 0 rfl) rfl ?_
  refine zS_if_lt (tgt := 9) (zdec eX9_back 1 rfl) rfl (fun cz => absurd cz (by decide)) (fun cz => ?_)
  refine zS_iload_n (zdec eX9_back 2 rfl) rfl ?_
  refine zS_iconst (zdec eX9_back 3 rfl) rfl ?_
  refine zS_icmp_lt (tgt := 12) (zdec eX9_back 4 rfl) rfl (fun cz => ?_) (fun cz => absurd (by decide) cz)
  refine zS_aload_n (zdec eX9_back 7 rfl) rfl rfl ?_
  refine zS_getref (i := 4) (zdec eX9_back 8 rfl) kF_X9_35 ⟨by decide, rfl⟩ rfl rfl rfl rfl rfl ?_
  refine zS_iload_n (zdec eX9_back 9 rfl) rfl ?_
  refine zS_baloadE (v := v) (zdec eX9_back 10 rfl) (Or.inr rfl) ⟨by decide, rfl⟩ (by decide) (by decide) hv ?_
  refine zS_if_ne (tgt := 24) (zdec eX9_back 11 rfl) rfl (fun c1 => ?_) (fun c1 => ?_)
  · refine zS_aload_n (zdec eX9_back 14 rfl) rfl rfl ?_
    refine zS_getref (i := 2) (zdec eX9_back 15 rfl) kF_X9_27 ⟨by decide, rfl⟩ rfl rfl rfl rfl rfl ?_
    refine zS_aload_n (zdec eX9_back 16 rfl) rfl rfl ?_
    refine zS_getref (i := 3) (zdec eX9_back 17 rfl) kF_X9_30 ⟨by decide, rfl⟩ rfl rfl rfl rfl rfl ?_
    refine zS_iload_n (zdec eX9_back 18 rfl) rfl ?_
    refine zS_aaloadR (i := 2) (zdec eX9_back 19 rfl) (Or.inl rfl) ⟨by decide, rfl⟩ rfl rfl rfl (by decide) (by decide) ?_
    refine zvMV (M' := mX0_become) (As := [zA 44]) (st := []) (zdec eX9_back 20 rfl) kM_X9_98 kV_X0_become ⟨by decide, rfl⟩ rfl rfl rfl rfl rfl (by omega) (c_become_15_44 (by omega) RI) (fun h5 ⟨D5, f5⟩ => ?_)
    refine zS_iconst (zdec eX9_back 21 rfl) rfl ?_
    exact zlMI (zdec eX9_back 22 rfl) rfl ⟨by rw [if_neg (by omega)], fun w => D5, f5, fun w => absurd w (by omega)⟩
  · refine zS_bipush (zdec eX9_back 12 rfl) rfl rfl ?_
    exact zlMI (zdec eX9_back 13 rfl) rfl ⟨by rw [if_pos (by omega)], fun w => absurd w (by omega), Fr.rf, fun _ => rfl⟩
theorem p_image_2 {d : Nat} {h : zH} {D : Dk} (hd : 20 ≤ d) (RD : DC h 15 D) : zMI d mX9_image [zA 0, zI 2] h (fun r h' => r = 0 ∧ DC h' 55 D ∧ h' 66 2 = 1 ∧ Fr (fun k j => (55 ≤ k ∧ k ≤ 65) ∨ (k = 66 ∧ j = 2)) h h') := by
  refine zmet rfl rfl rfl ?_
  refine zS_iload_n (zdec eX9_image 0 rfl) rfl ?_
  refine zS_if_lt (tgt := 9) (zdec eX9_image 1 rfl) rfl (fun cz => absurd cz (by decide)) (fun cz => ?_)
  refine zS_iload_n (zdec eX9_image 2 rfl) rfl ?_
  refine zS_iconst (zdec eX9_image 3 rfl) rfl ?_
  refine zS_icmp_lt (tgt := 12) (zdec eX9_image 4 rfl) rfl (fun cz => ?_) (fun cz => absurd (by decide) cz)
  refine zS_aload_n (zdec eX9_image 7 rfl) rfl rfl ?_
  refine zS_getref (i := 3) (zdec eX9_image 8 rfl) kF_X9_30 ⟨by decide, rfl⟩ rfl rfl rfl rfl rfl ?_
  refine zS_iload_n (zdec eX9_image 9 rfl) rfl ?_
  refine zS_aaloadR (i := 2) (zdec eX9_image 10 rfl) (Or.inl rfl) ⟨by decide, rfl⟩ rfl rfl rfl (by decide) (by decide) ?_
  refine zS_aload_n (zdec eX9_image 11 rfl) rfl rfl ?_
  refine zS_getref (i := 2) (zdec eX9_image 12 rfl) kF_X9_27 ⟨by decide, rfl⟩ rfl rfl rfl rfl rfl ?_
  refine zvMV (M' := mX0_become) (As := [zA 15]) (st := []) (zdec eX9_image 13 rfl) kM_X9_98 kV_X0_become ⟨by decide, rfl⟩ rfl rfl rfl rfl rfl (by omega) (c_become_55_15 (by omega) RD) (fun h5 ⟨D5, f5⟩ => ?_)
  refine zS_aload_n (zdec eX9_image 14 rfl) rfl rfl ?_
  refine zS_getref (i := 4) (zdec eX9_image 15 rfl) kF_X9_35 ⟨by decide, rfl⟩ rfl rfl rfl rfl rfl ?_
  refine zS_iload_n (zdec eX9_image 16 rfl) rfl ?_
  refine zS_iconst (zdec eX9_image 17 rfl) rfl ?_
  refine zS_bastore (zdec eX9_image 18 rfl) (Or.inr ⟨rfl, by omega⟩) ⟨by decide, rfl⟩ (by decide) (by decide) ?_
  refine zS_iconst (zdec eX9_image 19 rfl) rfl ?_
  exact zlMI (zdec eX9_image 20 rfl) rfl ⟨rfl, D5.at (fun k j a b => congrFun (zset_k (by omega)) _), zset_s _ _ _ _, (f5.mono (fun k j z => Or.inl z)).set (Or.inr ⟨rfl, rfl⟩)⟩
theorem p_back_2 {d : Nat} {h : zH} {D : Dk} {v : Int} (hd : 20 ≤ d) (hv : h 66 2 = v) (RI : DC h 55 D) : zMI d mX9_back [zA 0, zI 2] h (fun r h' => r = (if v = 0 then -6 else 0) ∧ (v ≠ 0 → DC h' 15 D) ∧ Fr (fun k _ => 15 ≤ k ∧ k ≤ 25) h h' ∧ (v = 0 → h' = h)) := by
  refine zmet rfl rfl rfl ?_
  refine zS_iload_n (zdec eX9_back 0 rfl) rfl ?_
  refine zS_if_lt (tgt := 9) (zdec eX9_back 1 rfl) rfl (fun cz => absurd cz (by decide)) (fun cz => ?_)
  refine zS_iload_n (zdec eX9_back 2 rfl) rfl ?_
  refine zS_iconst (zdec eX9_back 3 rfl) rfl ?_
  refine zS_icmp_lt (tgt := 12) (zdec eX9_back 4 rfl) rfl (fun cz => ?_) (fun cz => absurd (by decide) cz)
  refine zS_aload_n (zdec eX9_back 7 rfl) rfl rfl ?_
  refine zS_getref (i := 4) (zdec eX9_back 8 rfl) kF_X9_35 ⟨by decide, rfl⟩ rfl rfl rfl rfl rfl ?_
  refine zS_iload_n (zdec eX9_back 9 rfl) rfl ?_
  refine zS_baloadE (v := v) (zdec eX9_back 10 rfl) (Or.inr rfl) ⟨by decide, rfl⟩ (by decide) (by decide) hv ?_
  refine zS_if_ne (tgt := 24) (zdec eX9_back 11 rfl) rfl (fun c1 => ?_) (fun c1 => ?_)
  · refine zS_aload_n (zdec eX9_back 14 rfl) rfl rfl ?_
    refine zS_getref (i := 2) (zdec eX9_back 15 rfl) kF_X9_27 ⟨by decide, rfl⟩ rfl rfl rfl rfl rfl ?_
    refine zS_aload_n (zdec eX9_back 16 rfl) rfl rfl ?_
    refine zS_getref (i := 3) (zdec eX9_back 17 rfl) kF_X9_30 ⟨by decide, rfl⟩ rfl rfl rfl rfl rfl ?_
    refine zS_iload_n (zdec eX9_back 18 rfl) rfl ?_
    refine zS_aaloadR (i := 2) (zdec eX9_back 19 rfl) (Or.inl rfl) ⟨by decide, rfl⟩ rfl rfl rfl (by decide) (by decide) ?_
    refine zvMV (M' := mX0_become) (As := [zA 55]) (st := []) (zdec eX9_back 20 rfl) kM_X9_98 kV_X0_become ⟨by decide, rfl⟩ rfl rfl rfl rfl rfl (by omega) (c_become_15_55 (by omega) RI) (fun h5 ⟨D5, f5⟩ => ?_)
    refine zS_iconst (zdec eX9_back 21 rfl) rfl ?_
    exact zlMI (zdec eX9_back 22 rfl) rfl ⟨by rw [if_neg (by omega)], fun w => D5, f5, fun w => absurd w (by omega)⟩
  · refine zS_bipush (zdec eX9_back 12 rfl) rfl rfl ?_
    exact zlMI (zdec eX9_back 13 rfl) rfl ⟨by rw [if_pos (by omega)], fun w => absurd w (by omega), Fr.rf, fun _ => rfl⟩
theorem p_image_o {d : Nat} {h : zH} {x : Int} (hx : x < 0 ∨ 3 ≤ x) : zMI d mX9_image [zA 0, zI x] h (fun r h' => r = -2 ∧ h' = h) := by
  refine zmet rfl rfl rfl ?_
  refine zS_iload_n (zdec eX9_image 0 rfl) rfl ?_
  refine zS_if_lt (tgt := 9) (zdec eX9_image 1 rfl) rfl (fun c1 => ?_) (fun c1 => ?_)
  · refine zS_bipush (zdec eX9_image 5 rfl) rfl rfl ?_
    exact zlMI (zdec eX9_image 6 rfl) rfl ⟨rfl, rfl⟩
  · refine zS_iload_n (zdec eX9_image 2 rfl) rfl ?_
    refine zS_iconst (zdec eX9_image 3 rfl) rfl ?_
    refine zS_icmp_lt (tgt := 12) (zdec eX9_image 4 rfl) rfl (fun cz => absurd cz (by omega)) (fun cz => ?_)
    refine zS_bipush (zdec eX9_image 5 rfl) rfl rfl ?_
    exact zlMI (zdec eX9_image 6 rfl) rfl ⟨rfl, rfl⟩
theorem p_back_o {d : Nat} {h : zH} {x : Int} (hx : x < 0 ∨ 3 ≤ x) : zMI d mX9_back [zA 0, zI x] h (fun r h' => r = -2 ∧ h' = h) := by
  refine zmet rfl rfl rfl ?_
  refine zS_iload_n (zdec eX9_back 0 rfl) rfl ?_
  refine zS_if_lt (tgt := 9) (zdec eX9_back 1 rfl) rfl (fun c1 => ?_) (fun c1 => ?_)
  · refine zS_bipush (zdec eX9_back 5 rfl) rfl rfl ?_
    exact zlMI (zdec eX9_back 6 rfl) rfl ⟨rfl, rfl⟩
  · refine zS_iload_n (zdec eX9_back 2 rfl) rfl ?_
    refine zS_iconst (zdec eX9_back 3 rfl) rfl ?_
    refine zS_icmp_lt (tgt := 12) (zdec eX9_back 4 rfl) rfl (fun cz => absurd cz (by omega)) (fun cz => ?_)
    refine zS_bipush (zdec eX9_back 5 rfl) rfl rfl ?_
    exact zlMI (zdec eX9_back 6 rfl) rfl ⟨rfl, rfl⟩
def n_row (W : Rw) (x y z : Int) : Rw := if (0 ≤ x ∧ x < 4) ∧ (0 ≤ y ∧ y ≤ 3) ∧ 0 ≤ z ∧ z ≤ 60 then fun k j => if k = 0 ∧ j = x then z else if k = 1 ∧ j = x then y else if k = 2 + x then 0 else W k j else W
def a_row (x y z : Int) : Int := if (0 ≤ x ∧ x < 4) ∧ (0 ≤ y ∧ y ≤ 3) ∧ z ≤ 60 then (if z < 0 then -3 else 0) else -2
theorem n_row_V {W : Rw} (VW : RV W) (x y z : Int) : RV (n_row W x y z) := by
  unfold n_row
  split
  · rename_i w
    intro s s0 s1
    show (-1 ≤ (if (0 : Int) = 0 ∧ s = x then z else if (0 : Int) = 1 ∧ s = x then y else if (0 : Int) = 2 + x then 0 else W 0 s) ∧ (if (0 : Int) = 0 ∧ s = x then z else if (0 : Int) = 1 ∧ s = x then y else if (0 : Int) = 2 + x then 0 else W 0 s) ≤ 60) ∧ ((if (0 : Int) = 0 ∧ s = x then z else if (0 : Int) = 1 ∧ s = x then y else if (0 : Int) = 2 + x then 0 else W 0 s) ≠ -1 → 0 ≤ (if (1 : Int) = 0 ∧ s = x then z else if (1 : Int) = 1 ∧ s = x then y else if (1 : Int) = 2 + x then 0 else W 1 s) ∧ (if (1 : Int) = 0 ∧ s = x then z else if (1 : Int) = 1 ∧ s = x then y else if (1 : Int) = 2 + x then 0 else W 1 s) ≤ 3)
    by_cases u : s = x
    · rw [if_pos ⟨rfl, u⟩, if_neg (by omega), if_pos ⟨rfl, u⟩]; omega
    · rw [if_neg (by omega), if_neg (by omega), if_neg (by omega), if_neg (by omega), if_neg (by omega), if_neg (by omega)]; exact VW s s0 s1
  · exact VW
theorem RC.row {h h' : zH} {W : Rw} (R : RC h W) {x y z : Int} (w : (0 ≤ x ∧ x < 4) ∧ (0 ≤ y ∧ y ≤ 3) ∧ 0 ≤ z ∧ z ≤ 60) (e1 : h' 73 x = z) (e2 : h' 74 x = y) (e3 : ∀ i, 0 ≤ i → i < z → h' (69 + x) i = 0) (e4 : Fr (fun k j => (k = 73 ∧ j = x) ∨ (k = 74 ∧ j = x) ∨ k = 69 + x) h h') : RC h' (n_row W x y z) := by
  unfold n_row
  rw [if_pos w]
  intro s s0 s1
  show h' 73 s = (if (0 : Int) = 0 ∧ s = x then z else if (0 : Int) = 1 ∧ s = x then y else if (0 : Int) = 2 + x then 0 else W 0 s) ∧ ((if (0 : Int) = 0 ∧ s = x then z else if (0 : Int) = 1 ∧ s = x then y else if (0 : Int) = 2 + x then 0 else W 0 s) ≠ -1 → h' 74 s = (if (1 : Int) = 0 ∧ s = x then z else if (1 : Int) = 1 ∧ s = x then y else if (1 : Int) = 2 + x then 0 else W 1 s)) ∧ ∀ i, 0 ≤ i → i < (if (0 : Int) = 0 ∧ s = x then z else if (0 : Int) = 1 ∧ s = x then y else if (0 : Int) = 2 + x then 0 else W 0 s) → h' (69 + s) i = (if 2 + s = 0 ∧ i = x then z else if 2 + s = 1 ∧ i = x then y else if 2 + s = 2 + x then 0 else W (2 + s) i)
  by_cases u : s = x
  · subst u
    rw [if_pos ⟨rfl, rfl⟩, if_neg (by omega), if_pos ⟨rfl, rfl⟩]
    refine ⟨e1, fun _ => e2, fun i i0 i1 => ?_⟩
    rw [if_neg (by omega), if_neg (by omega), if_pos rfl]
    exact e3 i i0 i1
  · rw [if_neg (by omega), if_neg (by omega), if_neg (by omega), if_neg (by omega), if_neg (by omega), if_neg (by omega)]
    refine ⟨(e4 _ _ (by omega)).trans (R.sz s0 s1), fun q => (e4 _ _ (by omega)).trans (R.wd s0 s1 q), fun i i0 i1 => ?_⟩
    rw [if_neg (by omega), if_neg (by omega), if_neg (by omega)]
    exact (e4 _ _ (by omega)).trans (R.nm s0 s1 i0 i1)
theorem L_make {d : Nat} {h : zH} {x y z : Int} (x0 : 0 ≤ x) (x1 : x < 4) (z0 : 0 ≤ z) (z1 : z ≤ 60) : ∀ (n : Nat) (e : Int) (h1 : zH), 0 ≤ e → e + n = z → h1 73 x = z → h1 74 x = y → (∀ i, 0 ≤ i → i < e → h1 (69 + x) i = 0) → Fr (fun k j => (k = 73 ∧ j = x) ∨ (k = 74 ∧ j = x) ∨ k = 69 + x) h h1 → zS mX3_make (zr d) 17 [zA 67, zI x, zI y, zI z, zI e] [] TT h1 (zAnV (fun h' => h' 73 x = z ∧ h' 74 x = y ∧ (∀ i, 0 ≤ i → i < z → h' (69 + x) i = 0) ∧ Fr (fun k j => (k = 73 ∧ j = x) ∨ (k = 74 ∧ j = x) ∨ k = 69 + x) h h')) := by
  intro n
  induction n with
  | zero =>
    intro e h1 a1 a2 i1 i2 i3 i4
    refine zS_iload (zdec eX3_make 12 rfl) rfl ?_
    refine zS_iload_n (zdec eX3_make 13 rfl) rfl ?_
    refine zS_icmp_ge (tgt := 39) (zdec eX3_make 14 rfl) rfl (fun cz => ?_) (fun cz => absurd (by omega) cz)
    exact zlMV (zdec eX3_make 24 rfl) rfl ⟨i1, i2, fun i i0 k1 => i3 i i0 (by omega), i4⟩
  | succ n ih =>
    intro e h1 a1 a2 i1 i2 i3 i4
    refine zS_iload (zdec eX3_make 12 rfl) rfl ?_
    refine zS_iload_n (zdec eX3_make 13 rfl) rfl ?_
    refine zS_icmp_ge (tgt := 39) (zdec eX3_make 14 rfl) rfl (fun cz => absurd cz (by omega)) (fun cz => ?_)
    refine zS_aload_n (zdec eX3_make 15 rfl) rfl rfl ?_
    refine zS_getref (i := 45) (zdec eX3_make 16 rfl) kF_X3_11 ⟨by decide, rfl⟩ rfl rfl rfl rfl rfl ?_
    refine zS_iload_n (zdec eX3_make 17 rfl) rfl ?_
    refine zS_aaload1 (i := 6) (zdec eX3_make 18 rfl) (Or.inr (Or.inr rfl)) ⟨by decide, rfl⟩ rfl rfl rfl (by omega) (by omega) ?_
    refine zS_iload (zdec eX3_make 19 rfl) rfl ?_
    refine zS_lconst (zdec eX3_make 20 rfl) ?_
    refine zS_lastore (zdec eX3_make 21 rfl) (zrow_69 (by omega) (by omega)) (by omega) (by omega) ?_
    refine zS_iinc (zdec eX3_make 22 rfl) rfl rfl ⟨by omega, by omega⟩ ?_
    refine zS_goto (tgt := 17) (zdec eX3_make 23 rfl) rfl ?_
    refine ih (e + 1) _ (by omega) (by omega) (by rw [zset_n (by omega)]; exact i1) (by rw [zset_n (by omega)]; exact i2) (fun i i0 k1 => ?_) (i4.set (by omega))
    by_cases u : i = e
    · exact (zset_e rfl u).trans rfl
    · rw [zset_j u]; exact i3 i i0 (by omega)
theorem c_make {d : Nat} {h : zH} {x y z : Int} (x0 : 0 ≤ x) (x1 : x < 4) (z0 : 0 ≤ z) (z1 : z ≤ 60) : zMV d mX3_make [zA 67, zI x, zI y, zI z] h (fun h' => h' 73 x = z ∧ h' 74 x = y ∧ (∀ i, 0 ≤ i → i < z → h' (69 + x) i = 0) ∧ Fr (fun k j => (k = 73 ∧ j = x) ∨ (k = 74 ∧ j = x) ∨ k = 69 + x) h h') := by
  refine zmet rfl rfl rfl ?_
  refine zS_aload_n (zdec eX3_make 0 rfl) rfl rfl ?_
  refine zS_getref (i := 46) (zdec eX3_make 1 rfl) kF_X3_16 ⟨by decide, rfl⟩ rfl rfl rfl rfl rfl ?_
  refine zS_iload_n (zdec eX3_make 2 rfl) rfl ?_
  refine zS_iload_n (zdec eX3_make 3 rfl) rfl ?_
  refine zS_iastore (zdec eX3_make 4 rfl) ⟨by decide, rfl⟩ (by omega) (by omega) ?_
  refine zS_aload_n (zdec eX3_make 5 rfl) rfl rfl ?_
  refine zS_getref (i := 47) (zdec eX3_make 6 rfl) kF_X3_20 ⟨by decide, rfl⟩ rfl rfl rfl rfl rfl ?_
  refine zS_iload_n (zdec eX3_make 7 rfl) rfl ?_
  refine zS_iload_n (zdec eX3_make 8 rfl) rfl ?_
  refine zS_iastore (zdec eX3_make 9 rfl) ⟨by decide, rfl⟩ (by omega) (by omega) ?_
  refine zS_iconst (zdec eX3_make 10 rfl) rfl ?_
  refine zS_istore (zdec eX3_make 11 rfl) rfl ?_
  exact L_make x0 x1 z0 z1 z.toNat 0 _ (by omega) (by omega) (by rw [zset_n (by omega), zset_s]) (zset_s _ _ _ _) (fun i i0 k1 => by omega) ((Fr.rf.set (by omega)).set (by omega))
theorem p_row {d : Nat} {h : zH} {W : Rw} {x y z : Int} (hd : 20 ≤ d) (RW : RC h W) : zMI d mX9_row [zA 0, zI x, zI y, zI z] h (fun r h' => r = a_row x y z ∧ RC h' (n_row W x y z) ∧ Fr (fun k _ => 69 ≤ k ∧ k ≤ 74) h h') := by
  refine zmet rfl rfl rfl ?_
  refine zS_aload_n (zdec eX9_row 0 rfl) rfl rfl ?_
  refine zS_getref (i := 5) (zdec eX9_row 1 rfl) kF_X9_42 ⟨by decide, rfl⟩ rfl rfl rfl rfl rfl ?_
  refine zS_iload_n (zdec eX9_row 2 rfl) rfl ?_
  refine zvI (M' := mX3_isSlot) (As := [zI x]) (st := []) (zdec eX9_row 3 rfl) kM_X9_303 kV_X3_isSlot ⟨by decide, rfl⟩ rfl rfl rfl rfl rfl (by omega) c_isSlot ?_
  refine zS_if_eq (tgt := 26) (zdec eX9_row 4 rfl) rfl (fun c1 => ?_) (fun c1 => ?_)
  · have z1 := d2i_0.mp c1
    refine zS_bipush (zdec eX9_row 13 rfl) rfl rfl ?_
    exact zlMI (zdec eX9_row 14 rfl) rfl ⟨by unfold a_row; rw [if_neg (by omega)], by unfold n_row; rw [if_neg (by omega)]; exact RW, Fr.rf⟩
  · have z1 := d2i_n.mp c1
    refine zS_iload_n (zdec eX9_row 5 rfl) rfl ?_
    refine zS_if_lt (tgt := 26) (zdec eX9_row 6 rfl) rfl (fun c2 => ?_) (fun c2 => ?_)
    · refine zS_bipush (zdec eX9_row 13 rfl) rfl rfl ?_
      exact zlMI (zdec eX9_row 14 rfl) rfl ⟨by unfold a_row; rw [if_neg (by omega)], by unfold n_row; rw [if_neg (by omega)]; exact RW, Fr.rf⟩
    · refine zS_iload_n (zdec eX9_row 7 rfl) rfl ?_
      refine zS_iconst (zdec eX9_row 8 rfl) rfl ?_
      refine zS_icmp_gt (tgt := 26) (zdec eX9_row 9 rfl) rfl (fun c3 => ?_) (fun c3 => ?_)
      · refine zS_bipush (zdec eX9_row 13 rfl) rfl rfl ?_
        exact zlMI (zdec eX9_row 14 rfl) rfl ⟨by unfold a_row; rw [if_neg (by omega)], by unfold n_row; rw [if_neg (by omega)]; exact RW, Fr.rf⟩
      · refine zS_iload_n (zdec eX9_row 10 rfl) rfl ?_
        refine zS_bipush (zdec eX9_row 11 rfl) rfl rfl ?_
        refine zS_icmp_le (tgt := 29) (zdec eX9_row 12 rfl) rfl (fun c4 => ?_) (fun c4 => ?_)
        · refine zS_iload_n (zdec eX9_row 15 rfl) rfl ?_
          refine zS_if_ge (tgt := 36) (zdec eX9_row 16 rfl) rfl (fun c5 => ?_) (fun c5 => ?_)
          · refine zS_aload_n (zdec eX9_row 19 rfl) rfl rfl ?_
            refine zS_getref (i := 5) (zdec eX9_row 20 rfl) kF_X9_42 ⟨by decide, rfl⟩ rfl rfl rfl rfl rfl ?_
            refine zS_iload_n (zdec eX9_row 21 rfl) rfl ?_
            refine zS_iload_n (zdec eX9_row 22 rfl) rfl ?_
            refine zS_iload_n (zdec eX9_row 23 rfl) rfl ?_
            refine zvMV (M' := mX3_make) (As := [zI x, zI y, zI z]) (st := []) (zdec eX9_row 24 rfl) kM_X9_388 kV_X3_make ⟨by decide, rfl⟩ rfl rfl rfl rfl rfl (by omega) (c_make (by omega) (by omega) (by omega) (by omega)) (fun h5 ⟨e1, e2, e3, e4⟩ => ?_)
            refine zS_iconst (zdec eX9_row 25 rfl) rfl ?_
            exact zlMI (zdec eX9_row 26 rfl) rfl ⟨by unfold a_row; rw [if_pos (by omega), if_neg (by omega)], RW.row (by omega) e1 e2 e3 e4, e4.mono (fun k j w => by omega)⟩
          · refine zS_bipush (zdec eX9_row 17 rfl) rfl rfl ?_
            exact zlMI (zdec eX9_row 18 rfl) rfl ⟨by unfold a_row; rw [if_pos (by omega), if_pos (by omega)], by unfold n_row; rw [if_neg (by omega)]; exact RW, Fr.rf⟩
        · refine zS_bipush (zdec eX9_row 13 rfl) rfl rfl ?_
          exact zlMI (zdec eX9_row 14 rfl) rfl ⟨by unfold a_row; rw [if_neg (by omega)], by unfold n_row; rw [if_neg (by omega)]; exact RW, Fr.rf⟩
def cuW (w v : Int) : Int := if w = 0 then zB8 (zL2I v) else if w = 1 then zB16 (zL2I v) else if w = 2 then zL2I v else v
def okW (W : Rw) (x y : Int) : Prop := (0 ≤ x ∧ x < 4) ∧ W 0 x ≠ -1 ∧ 0 ≤ y ∧ y < W 0 x
def n_write (W : Rw) (x y v : Int) : Rw := if (0 ≤ x ∧ x < 4) ∧ W 0 x ≠ -1 ∧ 0 ≤ y ∧ y < W 0 x then zset W (2 + x) y (cuW (W 1 x) v) else W
def a_write (W : Rw) (x y : Int) : Int := if 0 ≤ x ∧ x < 4 then (if W 0 x = -1 then -6 else if 0 ≤ y ∧ y < W 0 x then 0 else -7) else -2
theorem n_write_V {W : Rw} (VW : RV W) (x y v : Int) : RV (n_write W x y v) := by
  unfold n_write
  split
  · rename_i w
    have w1 := w.1
    intro s s0 s1
    rw [zset_n (by omega), zset_n (by omega)]
    exact VW s s0 s1
  · exact VW
theorem RC.write {h : zH} {W : Rw} (R : RC h W) {x y v : Int} (w : okW W x y) : RC (zset h (69 + x) y (cuW (W 1 x) v)) (n_write W x y v) := by
  unfold n_write
  rw [if_pos (show (0 ≤ x ∧ x < 4) ∧ W 0 x ≠ -1 ∧ 0 ≤ y ∧ y < W 0 x from w)]
  have w1 := w.1
  intro s s0 s1
  rw [zset_n (by omega), zset_n (by omega), zset_n (by omega), zset_n (by omega)]
  refine ⟨R.sz s0 s1, R.wd s0 s1, fun i i0 i1 => ?_⟩
  by_cases u : s = x ∧ i = y
  · rw [zset_e (by omega) u.2, zset_e (by omega) u.2]
  · rw [zset_n (by omega), zset_n (by omega)]; exact R.nm s0 s1 i0 i1
theorem c_put {d : Nat} {h : zH} {W : Rw} {x y v : Int} (RW : RC h W) (VW : RV W) (w : okW W x y) : zMV d mX3_put [zA 67, zI x, zI y, zJ v] h (fun h' => h' = zset h (69 + x) y (cuW (W 1 x) v)) := by
  have w1 := w.1
  have w2 := w.2.1
  have w3 := w.2.2
  have vs := VW.sz w1.1 w1.2
  have vw := VW.wd w1.1 w1.2 w2
  refine zmet rfl rfl rfl ?_
  refine zS_aload_n (zdec eX3_put 0 rfl) rfl rfl ?_
  refine zS_getref (i := 47) (zdec eX3_put 1 rfl) kF_X3_20 ⟨by decide, rfl⟩ rfl rfl rfl rfl rfl ?_
  refine zS_iload_n (zdec eX3_put 2 rfl) rfl ?_
  refine zS_ialoadE (v := (W 1 x)) (zdec eX3_put 3 rfl) ⟨by decide, rfl⟩ (by omega) (by omega) (RW.wd (by omega) (by omega) (by omega)) ?_
  rcases (show W 1 x = 0 ∨ W 1 x = 1 ∨ W 1 x = 2 ∨ W 1 x = 3 by omega) with e0 | e0 | e0 | e0
  · refine zS_tableIn (off := 26) (tgt := 32) (zdec eX3_put 4 rfl) (by rw [e0]; decide) (by rw [e0]; decide) (by rw [e0]; rfl) rfl ?_
    refine zS_aload_n (zdec eX3_put 5 rfl) rfl rfl ?_
    refine zS_getref (i := 45) (zdec eX3_put 6 rfl) kF_X3_11 ⟨by decide, rfl⟩ rfl rfl rfl rfl rfl ?_
    refine zS_iload_n (zdec eX3_put 7 rfl) rfl ?_
    refine zS_aaload1 (i := 6) (zdec eX3_put 8 rfl) (Or.inr (Or.inr rfl)) ⟨by decide, rfl⟩ rfl rfl rfl (by omega) (by omega) ?_
    refine zS_iload_n (zdec eX3_put 9 rfl) rfl ?_
    refine zS_lload_n (zdec eX3_put 10 rfl) rfl ?_
    refine zS_l2i (zdec eX3_put 11 rfl) ?_
    refine zS_i2b (zdec eX3_put 12 rfl) ?_
    refine zS_i2l (zdec eX3_put 13 rfl) ?_
    refine zS_lastore (zdec eX3_put 14 rfl) (zrow_69 (by omega) (by omega)) (by omega) (by omega) ?_
    refine zS_goto (tgt := 85) (zdec eX3_put 15 rfl) rfl ?_
    exact zlMV (zdec eX3_put 44 rfl) rfl (by unfold cuW; rw [e0]; rfl)
  · refine zS_tableIn (off := 41) (tgt := 47) (zdec eX3_put 4 rfl) (by rw [e0]; decide) (by rw [e0]; decide) (by rw [e0]; rfl) rfl ?_
    refine zS_aload_n (zdec eX3_put 16 rfl) rfl rfl ?_
    refine zS_getref (i := 45) (zdec eX3_put 17 rfl) kF_X3_11 ⟨by decide, rfl⟩ rfl rfl rfl rfl rfl ?_
    refine zS_iload_n (zdec eX3_put 18 rfl) rfl ?_
    refine zS_aaload1 (i := 6) (zdec eX3_put 19 rfl) (Or.inr (Or.inr rfl)) ⟨by decide, rfl⟩ rfl rfl rfl (by omega) (by omega) ?_
    refine zS_iload_n (zdec eX3_put 20 rfl) rfl ?_
    refine zS_lload_n (zdec eX3_put 21 rfl) rfl ?_
    refine zS_l2i (zdec eX3_put 22 rfl) ?_
    refine zS_i2s (zdec eX3_put 23 rfl) ?_
    refine zS_i2l (zdec eX3_put 24 rfl) ?_
    refine zS_lastore (zdec eX3_put 25 rfl) (zrow_69 (by omega) (by omega)) (by omega) (by omega) ?_
    refine zS_goto (tgt := 85) (zdec eX3_put 26 rfl) rfl ?_
    exact zlMV (zdec eX3_put 44 rfl) rfl (by unfold cuW; rw [e0]; rfl)
  · refine zS_tableIn (off := 56) (tgt := 62) (zdec eX3_put 4 rfl) (by rw [e0]; decide) (by rw [e0]; decide) (by rw [e0]; rfl) rfl ?_
    refine zS_aload_n (zdec eX3_put 27 rfl) rfl rfl ?_
    refine zS_getref (i := 45) (zdec eX3_put 28 rfl) kF_X3_11 ⟨by decide, rfl⟩ rfl rfl rfl rfl rfl ?_
    refine zS_iload_n (zdec eX3_put 29 rfl) rfl ?_
    refine zS_aaload1 (i := 6) (zdec eX3_put 30 rfl) (Or.inr (Or.inr rfl)) ⟨by decide, rfl⟩ rfl rfl rfl (by omega) (by omega) ?_
    refine zS_iload_n (zdec eX3_put 31 rfl) rfl ?_
    refine zS_lload_n (zdec eX3_put 32 rfl) rfl ?_
    refine zS_l2i (zdec eX3_put 33 rfl) ?_
    refine zS_i2l (zdec eX3_put 34 rfl) ?_
    refine zS_lastore (zdec eX3_put 35 rfl) (zrow_69 (by omega) (by omega)) (by omega) (by omega) ?_
    refine zS_goto (tgt := 85) (zdec eX3_put 36 rfl) rfl ?_
    exact zlMV (zdec eX3_put 44 rfl) rfl (by unfold cuW; rw [e0]; rfl)
  · refine zS_tableOut (tgt := 76) (zdec eX3_put 4 rfl) (Or.inr (by rw [e0]; decide)) rfl ?_
    refine zS_aload_n (zdec eX3_put 37 rfl) rfl rfl ?_
    refine zS_getref (i := 45) (zdec eX3_put 38 rfl) kF_X3_11 ⟨by decide, rfl⟩ rfl rfl rfl rfl rfl ?_
    refine zS_iload_n (zdec eX3_put 39 rfl) rfl ?_
    refine zS_aaload1 (i := 6) (zdec eX3_put 40 rfl) (Or.inr (Or.inr rfl)) ⟨by decide, rfl⟩ rfl rfl rfl (by omega) (by omega) ?_
    refine zS_iload_n (zdec eX3_put 41 rfl) rfl ?_
    refine zS_lload_n (zdec eX3_put 42 rfl) rfl ?_
    refine zS_lastore (zdec eX3_put 43 rfl) (zrow_69 (by omega) (by omega)) (by omega) (by omega) ?_
    exact zlMV (zdec eX3_put 44 rfl) rfl (by unfold cuW; rw [e0]; rfl)
theorem p_write {d : Nat} {h : zH} {W : Rw} {x y v : Int} (hd : 20 ≤ d) (RW : RC h W) (VW : RV W) : zMI d mX9_write [zA 0, zI x, zI y, zJ v] h (fun r h' => r = a_write W x y ∧ RC h' (n_write W x y v) ∧ Fr (fun k _ => 69 ≤ k ∧ k ≤ 74) h h') := by
  refine zmet rfl rfl rfl ?_
  refine zS_aload_n (zdec eX9_write 0 rfl) rfl rfl ?_
  refine zS_getref (i := 5) (zdec eX9_write 1 rfl) kF_X9_42 ⟨by decide, rfl⟩ rfl rfl rfl rfl rfl ?_
  refine zS_iload_n (zdec eX9_write 2 rfl) rfl ?_
  refine zvI (M' := mX3_isSlot) (As := [zI x]) (st := []) (zdec eX9_write 3 rfl) kM_X9_303 kV_X3_isSlot ⟨by decide, rfl⟩ rfl rfl rfl rfl rfl (by omega) c_isSlot ?_
  refine zS_if_ne (tgt := 14) (zdec eX9_write 4 rfl) rfl (fun c1 => ?_) (fun c1 => ?_)
  · have z1 := d2i_n.mp c1
    refine zS_aload_n (zdec eX9_write 7 rfl) rfl rfl ?_
    refine zS_getref (i := 5) (zdec eX9_write 8 rfl) kF_X9_42 ⟨by decide, rfl⟩ rfl rfl rfl rfl rfl ?_
    refine zS_iload_n (zdec eX9_write 9 rfl) rfl ?_
    refine zvI (M' := mX3_isEmpty) (As := [zI x]) (st := []) (zdec eX9_write 10 rfl) kM_X9_392 kV_X3_isEmpty ⟨by decide, rfl⟩ rfl rfl rfl rfl rfl (by omega) (c_isEmpty RW (by omega) (by omega)) ?_
    refine zS_if_eq (tgt := 28) (zdec eX9_write 11 rfl) rfl (fun c2 => ?_) (fun c2 => ?_)
    · have z2 := d2i_0.mp c2
      refine zS_iload_n (zdec eX9_write 14 rfl) rfl ?_
      refine zS_if_lt (tgt := 45) (zdec eX9_write 15 rfl) rfl (fun c3 => ?_) (fun c3 => ?_)
      · refine zS_bipush (zdec eX9_write 23 rfl) rfl rfl ?_
        exact zlMI (zdec eX9_write 24 rfl) rfl ⟨by unfold a_write; rw [if_pos (by omega), if_neg (by omega), if_neg (by omega)], by unfold n_write; rw [if_neg (by omega)]; exact RW, Fr.rf⟩
      · refine zS_iload_n (zdec eX9_write 16 rfl) rfl ?_
        refine zS_aload_n (zdec eX9_write 17 rfl) rfl rfl ?_
        refine zS_getref (i := 5) (zdec eX9_write 18 rfl) kF_X9_42 ⟨by decide, rfl⟩ rfl rfl rfl rfl rfl ?_
        refine zS_getref (i := 46) (zdec eX9_write 19 rfl) kF_X9_395 ⟨by decide, rfl⟩ rfl rfl rfl rfl rfl ?_
        refine zS_iload_n (zdec eX9_write 20 rfl) rfl ?_
        refine zS_ialoadE (v := (W 0 x)) (zdec eX9_write 21 rfl) ⟨by decide, rfl⟩ (by omega) (by omega) (RW.sz (by omega) (by omega)) ?_
        refine zS_icmp_lt (tgt := 48) (zdec eX9_write 22 rfl) rfl (fun c4 => ?_) (fun c4 => ?_)
        · have w5 : okW W x y := ⟨by omega, by omega, by omega, by omega⟩
          refine zS_aload_n (zdec eX9_write 25 rfl) rfl rfl ?_
          refine zS_getref (i := 5) (zdec eX9_write 26 rfl) kF_X9_42 ⟨by decide, rfl⟩ rfl rfl rfl rfl rfl ?_
          refine zS_iload_n (zdec eX9_write 27 rfl) rfl ?_
          refine zS_iload_n (zdec eX9_write 28 rfl) rfl ?_
          refine zS_lload_n (zdec eX9_write 29 rfl) rfl ?_
          refine zvMV (M' := mX3_put) (As := [zI x, zI y, zJ v]) (st := []) (zdec eX9_write 30 rfl) kM_X9_398 kV_X3_put ⟨by decide, rfl⟩ rfl rfl rfl rfl rfl (by omega) (c_put RW VW w5) (fun h5 e5 => ?_)
          refine zS_iconst (zdec eX9_write 31 rfl) rfl ?_
          exact zlMI (zdec eX9_write 32 rfl) rfl ⟨by unfold a_write; rw [if_pos (by omega), if_neg (by omega), if_pos (by omega)], by rw [e5]; exact RW.write w5, by rw [e5]; exact Fr.rf.set (by omega)⟩
        · refine zS_bipush (zdec eX9_write 23 rfl) rfl rfl ?_
          exact zlMI (zdec eX9_write 24 rfl) rfl ⟨by unfold a_write; rw [if_pos (by omega), if_neg (by omega), if_neg (by omega)], by unfold n_write; rw [if_neg (by omega)]; exact RW, Fr.rf⟩
    · have z2 := d2i_n.mp c2
      refine zS_bipush (zdec eX9_write 12 rfl) rfl rfl ?_
      exact zlMI (zdec eX9_write 13 rfl) rfl ⟨by unfold a_write; rw [if_pos (by omega), if_pos (by omega)], by unfold n_write; rw [if_neg (by omega)]; exact RW, Fr.rf⟩
  · have z1 := d2i_0.mp c1
    refine zS_bipush (zdec eX9_write 5 rfl) rfl rfl ?_
    exact zlMI (zdec eX9_write 6 rfl) rfl ⟨by unfold a_write; rw [if_neg (by omega)], by unfold n_write; rw [if_neg (by omega)]; exact RW, Fr.rf⟩
def okP (W : Rw) (x y u v n : Int) : Prop := (0 ≤ y ∧ 0 ≤ n ∧ y + n ≤ W 0 x) ∧ (0 ≤ v ∧ v + n ≤ W 0 u)
def a_paste (W : Rw) (x y u v n : Int) : Int := if (0 ≤ x ∧ x < 4) ∧ 0 ≤ u ∧ u < 4 then (if W 0 x = -1 ∨ W 0 u = -1 then -6 else if W 1 x ≠ W 1 u then -8 else if (0 ≤ y ∧ 0 ≤ n ∧ y + n ≤ W 0 x) ∧ (0 ≤ v ∧ v + n ≤ W 0 u) then 0 else -7) else -2
def n_paste (W : Rw) (x y u v n : Int) : Rw := if ((0 ≤ x ∧ x < 4) ∧ 0 ≤ u ∧ u < 4) ∧ (W 0 x ≠ -1 ∧ W 0 u ≠ -1) ∧ W 1 x = W 1 u ∧ (0 ≤ y ∧ 0 ≤ n ∧ y + n ≤ W 0 x) ∧ (0 ≤ v ∧ v + n ≤ W 0 u) then zcpy W (2 + x) y (2 + u) v n else W
theorem n_paste_V {W : Rw} (VW : RV W) (x y u v n : Int) : RV (n_paste W x y u v n) := by
  unfold n_paste
  split
  · rename_i w
    intro s s0 s1
    rw [zcpy_k (by omega), zcpy_k (by omega)]
    exact VW s s0 s1
  · exact VW
theorem RC.paste {h : zH} {W : Rw} (R : RC h W) {x y u v n : Int} (w : ((0 ≤ x ∧ x < 4) ∧ 0 ≤ u ∧ u < 4) ∧ (W 0 x ≠ -1 ∧ W 0 u ≠ -1) ∧ W 1 x = W 1 u ∧ (0 ≤ y ∧ 0 ≤ n ∧ y + n ≤ W 0 x) ∧ (0 ≤ v ∧ v + n ≤ W 0 u)) : RC (zcpy h (69 + x) y (69 + u) v n) (n_paste W x y u v n) := by
  unfold n_paste
  rw [if_pos w]
  intro s s0 s1
  rw [zcpy_k (by omega), zcpy_k (by omega), zcpy_k (by omega), zcpy_k (by omega)]
  refine ⟨R.sz s0 s1, R.wd s0 s1, fun i i0 i1 => ?_⟩
  show (if 69 + s = 69 + u ∧ v ≤ i ∧ i < v + n then h (69 + x) (y + (i - v)) else h (69 + s) i) = (if 2 + s = 2 + u ∧ v ≤ i ∧ i < v + n then W (2 + x) (y + (i - v)) else W (2 + s) i)
  by_cases q : s = u ∧ v ≤ i ∧ i < v + n
  · rw [if_pos (by omega), if_pos (by omega)]; exact R.nm (by omega) (by omega) (by omega) (by omega)
  · rw [if_neg (by omega), if_neg (by omega)]; exact R.nm s0 s1 i0 i1
theorem zCmp_gt {a b : Int} : 0 < zCmp a b ↔ b < a := by unfold zCmp; split <;> (try split) <;> omega
theorem c_reaches {d : Nat} {h : zH} {W : Rw} {x y n : Int} (RW : RC h W) (x0 : 0 ≤ x) (x1 : x < 4) (y1 : zR y) (n1 : zR n) : zPI d mX3_reaches [zA 67, zI x, zI y, zI n] h (d2i (0 ≤ y ∧ 0 ≤ n ∧ y + n ≤ W 0 x)) := by
  unfold zR at y1 n1
  refine zmet rfl rfl rfl ?_
  refine zS_iload_n (zdec eX3_reaches 0 rfl) rfl ?_
  refine zS_if_lt (tgt := 28) (zdec eX3_reaches 1 rfl) rfl (fun c1 => ?_) (fun c1 => ?_)
  · refine zS_iconst (zdec eX3_reaches 18 rfl) rfl ?_
    exact zlZ (zdec eX3_reaches 19 rfl) rfl (Or.inl rfl) (by rw [d2i_f (by omega)])
  · refine zS_iload_n (zdec eX3_reaches 2 rfl) rfl ?_
    refine zS_if_lt (tgt := 28) (zdec eX3_reaches 3 rfl) rfl (fun c2 => ?_) (fun c2 => ?_)
    · refine zS_iconst (zdec eX3_reaches 18 rfl) rfl ?_
      exact zlZ (zdec eX3_reaches 19 rfl) rfl (Or.inl rfl) (by rw [d2i_f (by omega)])
    · refine zS_iload_n (zdec eX3_reaches 4 rfl) rfl ?_
      refine zS_i2l (zdec eX3_reaches 5 rfl) ?_
      refine zS_iload_n (zdec eX3_reaches 6 rfl) rfl ?_
      refine zS_i2l (zdec eX3_reaches 7 rfl) ?_
      refine zS_ladd (zdec eX3_reaches 8 rfl) ⟨by omega, by omega⟩ ?_
      refine zS_aload_n (zdec eX3_reaches 9 rfl) rfl rfl ?_
      refine zS_getref (i := 46) (zdec eX3_reaches 10 rfl) kF_X3_16 ⟨by decide, rfl⟩ rfl rfl rfl rfl rfl ?_
      refine zS_iload_n (zdec eX3_reaches 11 rfl) rfl ?_
      refine zS_ialoadE (v := (W 0 x)) (zdec eX3_reaches 12 rfl) ⟨by decide, rfl⟩ (by omega) (by omega) (RW.sz (by omega) (by omega)) ?_
      refine zS_i2l (zdec eX3_reaches 13 rfl) ?_
      refine zS_lcmp (zdec eX3_reaches 14 rfl) ?_
      refine zS_if_gt (tgt := 28) (zdec eX3_reaches 15 rfl) rfl (fun c3 => ?_) (fun c3 => ?_)
      · refine zS_iconst (zdec eX3_reaches 18 rfl) rfl ?_
        exact zlZ (zdec eX3_reaches 19 rfl) rfl (Or.inl rfl) (by rw [d2i_f (by have := zCmp_gt.mp c3; omega)])
      · refine zS_iconst (zdec eX3_reaches 16 rfl) rfl ?_
        refine zS_goto (tgt := 29) (zdec eX3_reaches 17 rfl) rfl ?_
        exact zlZ (zdec eX3_reaches 19 rfl) rfl (Or.inr rfl) (by rw [d2i_t (by have := mt zCmp_gt.mpr c3; omega)])
theorem p_paste {d : Nat} {h : zH} {W : Rw} {x y u v n : Int} (hd : 20 ≤ d) (RW : RC h W) (VW : RV W) (y1 : zR y) (v1 : zR v) (n1 : zR n) : zMI d mX9_paste [zA 0, zI x, zI y, zI u, zI v, zI n] h (fun r h' => r = a_paste W x y u v n ∧ RC h' (n_paste W x y u v n) ∧ Fr (fun k _ => 69 ≤ k ∧ k ≤ 74) h h') := by
  refine zmet rfl rfl rfl ?_
  refine zS_aload_n (zdec eX9_paste 0 rfl) rfl rfl ?_
  refine zS_getref (i := 5) (zdec eX9_paste 1 rfl) kF_X9_42 ⟨by decide, rfl⟩ rfl rfl rfl rfl rfl ?_
  refine zS_iload_n (zdec eX9_paste 2 rfl) rfl ?_
  refine zvI (M' := mX3_isSlot) (As := [zI x]) (st := []) (zdec eX9_paste 3 rfl) kM_X9_303 kV_X3_isSlot ⟨by decide, rfl⟩ rfl rfl rfl rfl rfl (by omega) c_isSlot ?_
  refine zS_if_eq (tgt := 22) (zdec eX9_paste 4 rfl) rfl (fun c1 => ?_) (fun c1 => ?_)
  · have z1 := d2i_0.mp c1
    refine zS_bipush (zdec eX9_paste 10 rfl) rfl rfl ?_
    exact zlMI (zdec eX9_paste 11 rfl) rfl ⟨by unfold a_paste; rw [if_neg (by omega)], by unfold n_paste; rw [if_neg (by omega)]; exact RW, Fr.rf⟩
  · have z1 := d2i_n.mp c1
    refine zS_aload_n (zdec eX9_paste 5 rfl) rfl rfl ?_
    refine zS_getref (i := 5) (zdec eX9_paste 6 rfl) kF_X9_42 ⟨by decide, rfl⟩ rfl rfl rfl rfl rfl ?_
    refine zS_iload_n (zdec eX9_paste 7 rfl) rfl ?_
    refine zvI (M' := mX3_isSlot) (As := [zI u]) (st := []) (zdec eX9_paste 8 rfl) kM_X9_303 kV_X3_isSlot ⟨by decide, rfl⟩ rfl rfl rfl rfl rfl (by omega) c_isSlot ?_
    refine zS_if_ne (tgt := 25) (zdec eX9_paste 9 rfl) rfl (fun c2 => ?_) (fun c2 => ?_)
    · have z2 := d2i_n.mp c2
      refine zS_aload_n (zdec eX9_paste 12 rfl) rfl rfl ?_
      refine zS_getref (i := 5) (zdec eX9_paste 13 rfl) kF_X9_42 ⟨by decide, rfl⟩ rfl rfl rfl rfl rfl ?_
      refine zS_iload_n (zdec eX9_paste 14 rfl) rfl ?_
      refine zvI (M' := mX3_isEmpty) (As := [zI x]) (st := []) (zdec eX9_paste 15 rfl) kM_X9_392 kV_X3_isEmpty ⟨by decide, rfl⟩ rfl rfl rfl rfl rfl (by omega) (c_isEmpty RW (by omega) (by omega)) ?_
      refine zS_if_ne (tgt := 47) (zdec eX9_paste 16 rfl) rfl (fun c3 => ?_) (fun c3 => ?_)
      · have z3 := d2i_n.mp c3
        refine zS_bipush (zdec eX9_paste 22 rfl) rfl rfl ?_
        exact zlMI (zdec eX9_paste 23 rfl) rfl ⟨by unfold a_paste; rw [if_pos (by omega), if_pos (by omega)], by unfold n_paste; rw [if_neg (by omega)]; exact RW, Fr.rf⟩
      · have z3 := d2i_0.mp c3
        refine zS_aload_n (zdec eX9_paste 17 rfl) rfl rfl ?_
        refine zS_getref (i := 5) (zdec eX9_paste 18 rfl) kF_X9_42 ⟨by decide, rfl⟩ rfl rfl rfl rfl rfl ?_
        refine zS_iload_n (zdec eX9_paste 19 rfl) rfl ?_
        refine zvI (M' := mX3_isEmpty) (As := [zI u]) (st := []) (zdec eX9_paste 20 rfl) kM_X9_392 kV_X3_isEmpty ⟨by decide, rfl⟩ rfl rfl rfl rfl rfl (by omega) (c_isEmpty RW (by omega) (by omega)) ?_
        refine zS_if_eq (tgt := 50) (zdec eX9_paste 21 rfl) rfl (fun c4 => ?_) (fun c4 => ?_)
        · have z4 := d2i_0.mp c4
          refine zS_aload_n (zdec eX9_paste 24 rfl) rfl rfl ?_
          refine zS_getref (i := 5) (zdec eX9_paste 25 rfl) kF_X9_42 ⟨by decide, rfl⟩ rfl rfl rfl rfl rfl ?_
          refine zS_getref (i := 47) (zdec eX9_paste 26 rfl) kF_X9_402 ⟨by decide, rfl⟩ rfl rfl rfl rfl rfl ?_
          refine zS_iload_n (zdec eX9_paste 27 rfl) rfl ?_
          refine zS_ialoadE (v := (W 1 x)) (zdec eX9_paste 28 rfl) ⟨by decide, rfl⟩ (by omega) (by omega) (RW.wd (by omega) (by omega) (by omega)) ?_
          refine zS_aload_n (zdec eX9_paste 29 rfl) rfl rfl ?_
          refine zS_getref (i := 5) (zdec eX9_paste 30 rfl) kF_X9_42 ⟨by decide, rfl⟩ rfl rfl rfl rfl rfl ?_
          refine zS_getref (i := 47) (zdec eX9_paste 31 rfl) kF_X9_402 ⟨by decide, rfl⟩ rfl rfl rfl rfl rfl ?_
          refine zS_iload_n (zdec eX9_paste 32 rfl) rfl ?_
          refine zS_ialoadE (v := (W 1 u)) (zdec eX9_paste 33 rfl) ⟨by decide, rfl⟩ (by omega) (by omega) (RW.wd (by omega) (by omega) (by omega)) ?_
          refine zS_icmp_eq (tgt := 74) (zdec eX9_paste 34 rfl) rfl (fun c5 => ?_) (fun c5 => ?_)
          · refine zS_aload_n (zdec eX9_paste 37 rfl) rfl rfl ?_
            refine zS_getref (i := 5) (zdec eX9_paste 38 rfl) kF_X9_42 ⟨by decide, rfl⟩ rfl rfl rfl rfl rfl ?_
            refine zS_iload_n (zdec eX9_paste 39 rfl) rfl ?_
            refine zS_iload_n (zdec eX9_paste 40 rfl) rfl ?_
            refine zS_iload (zdec eX9_paste 41 rfl) rfl ?_
            refine zvI (M' := mX3_reaches) (As := [zI x, zI y, zI n]) (st := []) (zdec eX9_paste 42 rfl) kM_X9_405 kV_X3_reaches ⟨by decide, rfl⟩ rfl rfl rfl rfl rfl (by omega) (c_reaches RW (by omega) (by omega) (by assumption) (by assumption)) ?_
            refine zS_if_eq (tgt := 103) (zdec eX9_paste 43 rfl) rfl (fun c6 => ?_) (fun c6 => ?_)
            · have z6 := d2i_0.mp c6
              refine zS_bipush (zdec eX9_paste 51 rfl) rfl rfl ?_
              exact zlMI (zdec eX9_paste 52 rfl) rfl ⟨by unfold a_paste; rw [if_pos (by omega), if_neg (by omega), if_neg (by omega), if_neg (by omega)], by unfold n_paste; rw [if_neg (by omega)]; exact RW, Fr.rf⟩
            · have z6 := d2i_n.mp c6
              refine zS_aload_n (zdec eX9_paste 44 rfl) rfl rfl ?_
              refine zS_getref (i := 5) (zdec eX9_paste 45 rfl) kF_X9_42 ⟨by decide, rfl⟩ rfl rfl rfl rfl rfl ?_
              refine zS_iload_n (zdec eX9_paste 46 rfl) rfl ?_
              refine zS_iload (zdec eX9_paste 47 rfl) rfl ?_
              refine zS_iload (zdec eX9_paste 48 rfl) rfl ?_
              refine zvI (M' := mX3_reaches) (As := [zI u, zI v, zI n]) (st := []) (zdec eX9_paste 49 rfl) kM_X9_405 kV_X3_reaches ⟨by decide, rfl⟩ rfl rfl rfl rfl rfl (by omega) (c_reaches RW (by omega) (by omega) (by assumption) (by assumption)) ?_
              refine zS_if_ne (tgt := 106) (zdec eX9_paste 50 rfl) rfl (fun c7 => ?_) (fun c7 => ?_)
              · have z7 := d2i_n.mp c7
                have vs1 := VW.sz (show 0 ≤ x by omega) (by omega)
                have vs2 := VW.sz (show 0 ≤ u by omega) (by omega)
                refine zS_aload_n (zdec eX9_paste 53 rfl) rfl rfl ?_
                refine zS_getref (i := 5) (zdec eX9_paste 54 rfl) kF_X9_42 ⟨by decide, rfl⟩ rfl rfl rfl rfl rfl ?_
                refine zS_getref (i := 45) (zdec eX9_paste 55 rfl) kF_X9_409 ⟨by decide, rfl⟩ rfl rfl rfl rfl rfl ?_
                refine zS_iload_n (zdec eX9_paste 56 rfl) rfl ?_
                refine zS_aaload1 (i := 6) (zdec eX9_paste 57 rfl) (Or.inr (Or.inr rfl)) ⟨by decide, rfl⟩ rfl rfl rfl (by omega) (by omega) ?_
                refine zS_iload_n (zdec eX9_paste 58 rfl) rfl ?_
                refine zS_aload_n (zdec eX9_paste 59 rfl) rfl rfl ?_
                refine zS_getref (i := 5) (zdec eX9_paste 60 rfl) kF_X9_42 ⟨by decide, rfl⟩ rfl rfl rfl rfl rfl ?_
                refine zS_getref (i := 45) (zdec eX9_paste 61 rfl) kF_X9_409 ⟨by decide, rfl⟩ rfl rfl rfl rfl rfl ?_
                refine zS_iload_n (zdec eX9_paste 62 rfl) rfl ?_
                refine zS_aaload1 (i := 6) (zdec eX9_paste 63 rfl) (Or.inr (Or.inr rfl)) ⟨by decide, rfl⟩ rfl rfl rfl (by omega) (by omega) ?_
                refine zS_iload (zdec eX9_paste 64 rfl) rfl ?_
                refine zS_iload (zdec eX9_paste 65 rfl) rfl ?_
                refine zS_copyL (zdec eX9_paste 66 rfl) kM_X9_413 rfl (by omega) (zrow_69 (by omega) (by omega)) (zrow_69 (by omega) (by omega)) (by omega) (by omega) (by omega) (by omega) (by omega) ?_
                refine zS_iconst (zdec eX9_paste 67 rfl) rfl ?_
                exact zlMI (zdec eX9_paste 68 rfl) rfl ⟨by unfold a_paste; rw [if_pos (by omega), if_neg (by omega), if_neg (by omega), if_pos (by omega)], RW.paste (by omega), fun k j hn => by rw [zcpy_k (by omega)]⟩
              · have z7 := d2i_0.mp c7
                refine zS_bipush (zdec eX9_paste 51 rfl) rfl rfl ?_
                exact zlMI (zdec eX9_paste 52 rfl) rfl ⟨by unfold a_paste; rw [if_pos (by omega), if_neg (by omega), if_neg (by omega), if_neg (by omega)], by unfold n_paste; rw [if_neg (by omega)]; exact RW, Fr.rf⟩
          · refine zS_bipush (zdec eX9_paste 35 rfl) rfl rfl ?_
            exact zlMI (zdec eX9_paste 36 rfl) rfl ⟨by unfold a_paste; rw [if_pos (by omega), if_neg (by omega), if_pos (by omega)], by unfold n_paste; rw [if_neg (by omega)]; exact RW, Fr.rf⟩
        · have z4 := d2i_n.mp c4
          refine zS_bipush (zdec eX9_paste 22 rfl) rfl rfl ?_
          exact zlMI (zdec eX9_paste 23 rfl) rfl ⟨by unfold a_paste; rw [if_pos (by omega), if_pos (by omega)], by unfold n_paste; rw [if_neg (by omega)]; exact RW, Fr.rf⟩
    · have z2 := d2i_0.mp c2
      refine zS_bipush (zdec eX9_paste 10 rfl) rfl rfl ?_
      exact zlMI (zdec eX9_paste 11 rfl) rfl ⟨by unfold a_paste; rw [if_neg (by omega)], by unfold n_paste; rw [if_neg (by omega)]; exact RW, Fr.rf⟩
theorem L_used {d : Nat} {h : zH} {W : Rw} (hd : 1 ≤ d) (RW : RC h W) : ∀ (n : Nat) (e : Int), 0 ≤ e → e + n = 4 → zS mX3_used (zr d) 4 [zA 67, zI (sumI (fun s => if W 0 s = -1 then 0 else 1) e), zI e] [] TT h (zOne (sumI (fun s => if W 0 s = -1 then 0 else 1) 4) h) := by
  intro n
  induction n with
  | zero =>
    intro e a1 a2
    refine zS_iload_n (zdec eX3_used 4 rfl) rfl ?_
    refine zS_iconst (zdec eX3_used 5 rfl) rfl ?_
    refine zS_icmp_ge (tgt := 31) (zdec eX3_used 6 rfl) rfl (fun cz => ?_) (fun cz => absurd (by omega) cz)
    refine zS_iload_n (zdec eX3_used 19 rfl) rfl ?_
    exact zlI (zdec eX3_used 20 rfl) rfl (by rw [show e = 4 by omega])
  | succ n ih =>
    intro e a1 a2
    have s0 := sumI_nn (f := fun s => if W 0 s = -1 then 0 else 1) (k := e) (fun j _ _ => by split <;> omega)
    have s1 := sumI_le (f := fun s => if W 0 s = -1 then 0 else 1) (k := e) (B := 1) a1 (fun j _ _ => by split <;> omega)
    refine zS_iload_n (zdec eX3_used 4 rfl) rfl ?_
    refine zS_iconst (zdec eX3_used 5 rfl) rfl ?_
    refine zS_icmp_ge (tgt := 31) (zdec eX3_used 6 rfl) rfl (fun cz => absurd cz (by omega)) (fun cz => ?_)
    refine zS_iload_n (zdec eX3_used 7 rfl) rfl ?_
    refine zS_aload_n (zdec eX3_used 8 rfl) rfl rfl ?_
    refine zS_iload_n (zdec eX3_used 9 rfl) rfl ?_
    refine zvI (M' := mX3_isEmpty) (As := [zI e]) (st := [zI (sumI (fun s => if W 0 s = -1 then 0 else 1) e)]) (zdec eX3_used 10 rfl) kM_X3_23 kV_X3_isEmpty ⟨by decide, rfl⟩ rfl rfl rfl rfl rfl (by omega) (c_isEmpty RW (by omega) (by omega)) ?_
    refine zS_if_eq (tgt := 22) (zdec eX3_used 11 rfl) rfl (fun c1 => ?_) (fun c1 => ?_)
    · have z1 := d2i_0.mp c1
      refine zS_iconst (zdec eX3_used 14 rfl) rfl ?_
      refine zS_iadd (zdec eX3_used 15 rfl) ⟨by omega, by omega⟩ ?_
      refine zS_istore_n (zdec eX3_used 16 rfl) rfl ?_
      refine zS_iinc (zdec eX3_used 17 rfl) rfl rfl ⟨by omega, by omega⟩ ?_
      refine zS_goto (tgt := 4) (zdec eX3_used 18 rfl) rfl ?_
      have k := ih (e + 1) (by omega) (by omega)
      rw [sumI_s _ a1, if_neg z1] at k
      exact k
    · have z1 := d2i_n.mp c1
      refine zS_iconst (zdec eX3_used 12 rfl) rfl ?_
      refine zS_goto (tgt := 23) (zdec eX3_used 13 rfl) rfl ?_
      refine zS_iadd (zdec eX3_used 15 rfl) ⟨by omega, by omega⟩ ?_
      refine zS_istore_n (zdec eX3_used 16 rfl) rfl ?_
      refine zS_iinc (zdec eX3_used 17 rfl) rfl rfl ⟨by omega, by omega⟩ ?_
      refine zS_goto (tgt := 4) (zdec eX3_used 18 rfl) rfl ?_
      have k := ih (e + 1) (by omega) (by omega)
      rw [sumI_s _ a1, if_pos z1] at k
      exact k
theorem c_used {d : Nat} {h : zH} {W : Rw} (hd : 1 ≤ d) (RW : RC h W) : zPI d mX3_used [zA 67] h (sumI (fun s => if W 0 s = -1 then 0 else 1) 4) := by
  refine zmet rfl rfl rfl ?_
  refine zS_iconst (zdec eX3_used 0 rfl) rfl ?_
  refine zS_istore_n (zdec eX3_used 1 rfl) rfl ?_
  refine zS_iconst (zdec eX3_used 2 rfl) rfl ?_
  refine zS_istore_n (zdec eX3_used 3 rfl) rfl ?_
  exact L_used hd RW 4 0 (by omega) (by omega)
def a_count (D : Dk) (W : Rw) (t x : Int) : Int := if 0 ≤ x ∧ x ≤ 9 then D 0 (x + 1) else if x = 10 then D 0 0 else if x = 11 then t else if x = 12 then sumI (fun s => if W 0 s = -1 then 0 else 1) 4 else -1
theorem p_count {d : Nat} {h : zH} {D : Dk} {W : Rw} {t x : Int} (hd : 20 ≤ d) (RD : DC h 15 D) (RW : RC h W) (ht : h 1 2 = t) : zPI d mX9_count [zA 0, zI x] h (a_count D W t x) := by
  refine zmet rfl rfl rfl ?_
  refine zS_iload_n (zdec eX9_count 0 rfl) rfl ?_
  rcases (show x = 0 ∨ x = 1 ∨ x = 2 ∨ x = 3 ∨ x = 4 ∨ x = 5 ∨ x = 6 ∨ x = 7 ∨ x = 8 ∨ x = 9 ∨ x = 10 ∨ x = 11 ∨ x = 12 ∨ (x < 0 ∨ 12 < x) by omega) with e0 | e0 | e0 | e0 | e0 | e0 | e0 | e0 | e0 | e0 | e0 | e0 | e0 | e0
  · refine zS_tableIn (off := 67) (tgt := 68) (zdec eX9_count 1 rfl) (by rw [e0]; decide) (by rw [e0]; decide) (by rw [e0]; rfl) rfl ?_
    refine zS_aload_n (zdec eX9_count 2 rfl) rfl rfl ?_
    refine zS_getref (i := 2) (zdec eX9_count 3 rfl) kF_X9_27 ⟨by decide, rfl⟩ rfl rfl rfl rfl rfl ?_
    refine zS_getfieldE (x := 1) (v := (D 0 1)) (zdec eX9_count 4 rfl) kF_X9_127 ⟨by decide, rfl⟩ rfl rfl rfl (RD.s (by decide) (by decide)) ?_
    exact zlI (zdec eX9_count 5 rfl) rfl (by unfold a_count; rw [if_pos (by omega), e0]; rfl)
  · refine zS_tableIn (off := 75) (tgt := 76) (zdec eX9_count 1 rfl) (by rw [e0]; decide) (by rw [e0]; decide) (by rw [e0]; rfl) rfl ?_
    refine zS_aload_n (zdec eX9_count 6 rfl) rfl rfl ?_
    refine zS_getref (i := 2) (zdec eX9_count 7 rfl) kF_X9_27 ⟨by decide, rfl⟩ rfl rfl rfl rfl rfl ?_
    refine zS_getfieldE (x := 2) (v := (D 0 2)) (zdec eX9_count 8 rfl) kF_X9_373 ⟨by decide, rfl⟩ rfl rfl rfl (RD.s (by decide) (by decide)) ?_
    exact zlI (zdec eX9_count 9 rfl) rfl (by unfold a_count; rw [if_pos (by omega), e0]; rfl)
  · refine zS_tableIn (off := 83) (tgt := 84) (zdec eX9_count 1 rfl) (by rw [e0]; decide) (by rw [e0]; decide) (by rw [e0]; rfl) rfl ?_
    refine zS_aload_n (zdec eX9_count 10 rfl) rfl rfl ?_
    refine zS_getref (i := 2) (zdec eX9_count 11 rfl) kF_X9_27 ⟨by decide, rfl⟩ rfl rfl rfl rfl rfl ?_
    refine zS_getfieldE (x := 3) (v := (D 0 3)) (zdec eX9_count 12 rfl) kF_X9_376 ⟨by decide, rfl⟩ rfl rfl rfl (RD.s (by decide) (by decide)) ?_
    exact zlI (zdec eX9_count 13 rfl) rfl (by unfold a_count; rw [if_pos (by omega), e0]; rfl)
  · refine zS_tableIn (off := 91) (tgt := 92) (zdec eX9_count 1 rfl) (by rw [e0]; decide) (by rw [e0]; decide) (by rw [e0]; rfl) rfl ?_
    refine zS_aload_n (zdec eX9_count 14 rfl) rfl rfl ?_
    refine zS_getref (i := 2) (zdec eX9_count 15 rfl) kF_X9_27 ⟨by decide, rfl⟩ rfl rfl rfl rfl rfl ?_
    refine zS_getfieldE (x := 4) (v := (D 0 4)) (zdec eX9_count 16 rfl) kF_X9_378 ⟨by decide, rfl⟩ rfl rfl rfl (RD.s (by decide) (by decide)) ?_
    exact zlI (zdec eX9_count 17 rfl) rfl (by unfold a_count; rw [if_pos (by omega), e0]; rfl)
  · refine zS_tableIn (off := 99) (tgt := 100) (zdec eX9_count 1 rfl) (by rw [e0]; decide) (by rw [e0]; decide) (by rw [e0]; rfl) rfl ?_
    refine zS_aload_n (zdec eX9_count 18 rfl) rfl rfl ?_
    refine zS_getref (i := 2) (zdec eX9_count 19 rfl) kF_X9_27 ⟨by decide, rfl⟩ rfl rfl rfl rfl rfl ?_
    refine zS_getfieldE (x := 5) (v := (D 0 5)) (zdec eX9_count 20 rfl) kF_X9_193 ⟨by decide, rfl⟩ rfl rfl rfl (RD.s (by decide) (by decide)) ?_
    exact zlI (zdec eX9_count 21 rfl) rfl (by unfold a_count; rw [if_pos (by omega), e0]; rfl)
  · refine zS_tableIn (off := 107) (tgt := 108) (zdec eX9_count 1 rfl) (by rw [e0]; decide) (by rw [e0]; decide) (by rw [e0]; rfl) rfl ?_
    refine zS_aload_n (zdec eX9_count 22 rfl) rfl rfl ?_
    refine zS_getref (i := 2) (zdec eX9_count 23 rfl) kF_X9_27 ⟨by decide, rfl⟩ rfl rfl rfl rfl rfl ?_
    refine zS_getfieldE (x := 6) (v := (D 0 6)) (zdec eX9_count 24 rfl) kF_X9_379 ⟨by decide, rfl⟩ rfl rfl rfl (RD.s (by decide) (by decide)) ?_
    exact zlI (zdec eX9_count 25 rfl) rfl (by unfold a_count; rw [if_pos (by omega), e0]; rfl)
  · refine zS_tableIn (off := 115) (tgt := 116) (zdec eX9_count 1 rfl) (by rw [e0]; decide) (by rw [e0]; decide) (by rw [e0]; rfl) rfl ?_
    refine zS_aload_n (zdec eX9_count 26 rfl) rfl rfl ?_
    refine zS_getref (i := 2) (zdec eX9_count 27 rfl) kF_X9_27 ⟨by decide, rfl⟩ rfl rfl rfl rfl rfl ?_
    refine zS_getfieldE (x := 7) (v := (D 0 7)) (zdec eX9_count 28 rfl) kF_X9_223 ⟨by decide, rfl⟩ rfl rfl rfl (RD.s (by decide) (by decide)) ?_
    exact zlI (zdec eX9_count 29 rfl) rfl (by unfold a_count; rw [if_pos (by omega), e0]; rfl)
  · refine zS_tableIn (off := 123) (tgt := 124) (zdec eX9_count 1 rfl) (by rw [e0]; decide) (by rw [e0]; decide) (by rw [e0]; rfl) rfl ?_
    refine zS_aload_n (zdec eX9_count 30 rfl) rfl rfl ?_
    refine zS_getref (i := 2) (zdec eX9_count 31 rfl) kF_X9_27 ⟨by decide, rfl⟩ rfl rfl rfl rfl rfl ?_
    refine zS_getfieldE (x := 8) (v := (D 0 8)) (zdec eX9_count 32 rfl) kF_X9_202 ⟨by decide, rfl⟩ rfl rfl rfl (RD.s (by decide) (by decide)) ?_
    exact zlI (zdec eX9_count 33 rfl) rfl (by unfold a_count; rw [if_pos (by omega), e0]; rfl)
  · refine zS_tableIn (off := 131) (tgt := 132) (zdec eX9_count 1 rfl) (by rw [e0]; decide) (by rw [e0]; decide) (by rw [e0]; rfl) rfl ?_
    refine zS_aload_n (zdec eX9_count 34 rfl) rfl rfl ?_
    refine zS_getref (i := 2) (zdec eX9_count 35 rfl) kF_X9_27 ⟨by decide, rfl⟩ rfl rfl rfl rfl rfl ?_
    refine zS_getfieldE (x := 9) (v := (D 0 9)) (zdec eX9_count 36 rfl) kF_X9_382 ⟨by decide, rfl⟩ rfl rfl rfl (RD.s (by decide) (by decide)) ?_
    exact zlI (zdec eX9_count 37 rfl) rfl (by unfold a_count; rw [if_pos (by omega), e0]; rfl)
  · refine zS_tableIn (off := 139) (tgt := 140) (zdec eX9_count 1 rfl) (by rw [e0]; decide) (by rw [e0]; decide) (by rw [e0]; rfl) rfl ?_
    refine zS_aload_n (zdec eX9_count 38 rfl) rfl rfl ?_
    refine zS_getref (i := 2) (zdec eX9_count 39 rfl) kF_X9_27 ⟨by decide, rfl⟩ rfl rfl rfl rfl rfl ?_
    refine zS_getfieldE (x := 10) (v := (D 0 10)) (zdec eX9_count 40 rfl) kF_X9_360 ⟨by decide, rfl⟩ rfl rfl rfl (RD.s (by decide) (by decide)) ?_
    exact zlI (zdec eX9_count 41 rfl) rfl (by unfold a_count; rw [if_pos (by omega), e0]; rfl)
  · refine zS_tableIn (off := 147) (tgt := 148) (zdec eX9_count 1 rfl) (by rw [e0]; decide) (by rw [e0]; decide) (by rw [e0]; rfl) rfl ?_
    refine zS_aload_n (zdec eX9_count 42 rfl) rfl rfl ?_
    refine zS_getref (i := 2) (zdec eX9_count 43 rfl) kF_X9_27 ⟨by decide, rfl⟩ rfl rfl rfl rfl rfl ?_
    refine zS_getfieldE (x := 0) (v := (D 0 0)) (zdec eX9_count 44 rfl) kF_X9_102 ⟨by decide, rfl⟩ rfl rfl rfl (RD.s (by decide) (by decide)) ?_
    exact zlI (zdec eX9_count 45 rfl) rfl (by unfold a_count; rw [if_neg (by omega), if_pos (by omega)])
  · refine zS_tableIn (off := 155) (tgt := 156) (zdec eX9_count 1 rfl) (by rw [e0]; decide) (by rw [e0]; decide) (by rw [e0]; rfl) rfl ?_
    refine zS_aload_n (zdec eX9_count 46 rfl) rfl rfl ?_
    refine zS_getref (i := 0) (zdec eX9_count 47 rfl) kF_X9_10 ⟨by decide, rfl⟩ rfl rfl rfl rfl rfl ?_
    refine zS_getfieldE (x := 2) (v := t) (zdec eX9_count 48 rfl) kF_X9_81 ⟨by decide, rfl⟩ rfl rfl rfl ht ?_
    exact zlI (zdec eX9_count 49 rfl) rfl (by unfold a_count; rw [if_neg (by omega), if_neg (by omega), if_pos (by omega)])
  · refine zS_tableIn (off := 163) (tgt := 164) (zdec eX9_count 1 rfl) (by rw [e0]; decide) (by rw [e0]; decide) (by rw [e0]; rfl) rfl ?_
    refine zS_aload_n (zdec eX9_count 50 rfl) rfl rfl ?_
    refine zS_getref (i := 5) (zdec eX9_count 51 rfl) kF_X9_42 ⟨by decide, rfl⟩ rfl rfl rfl rfl rfl ?_
    refine zvI (M' := mX3_used) (As := []) (st := []) (zdec eX9_count 52 rfl) kM_X9_385 kV_X3_used ⟨by decide, rfl⟩ rfl rfl rfl rfl rfl (by omega) (c_used (by omega) RW) ?_
    exact zlI (zdec eX9_count 53 rfl) rfl (by unfold a_count; rw [if_neg (by omega), if_neg (by omega), if_neg (by omega), if_pos (by omega)])
  · refine zS_tableOut (tgt := 172) (zdec eX9_count 1 rfl) (by omega) rfl ?_
    refine zS_iconst (zdec eX9_count 54 rfl) rfl ?_
    exact zlI (zdec eX9_count 55 rfl) rfl (by unfold a_count; rw [if_neg (by omega), if_neg (by omega), if_neg (by omega), if_neg (by omega)])

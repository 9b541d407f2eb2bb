theorem L_become_15_3 {d : Nat} {h : zH} {D : Dk} (hd : 1 ≤ d) (RD : DC h 3 D) : ∀ (n : Nat) (e : Int) (h1 : zH), 0 ≤ e → e + n = 5 → (∀ j, 0 ≤ j → j ≤ 10 → h1 15 j = h 3 j) → (∀ j, 0 ≤ j → j < 4 → h1 16 j = h 4 j) → (∀ k w, 0 ≤ k → k < e → 0 ≤ w → w < 7 → h1 (18 + k) w = h (6 + k) w) → Fr (fun k _ => 15 ≤ k ∧ k ≤ 25) h h1 → zS mX0_become (zr d) 104 [zA 15, zA 3, zI e] [] TT h1 (zAnV (fun h' => DC h' 15 D ∧ Fr (fun k _ => 15 ≤ k ∧ k ≤ 25) h h')) := by
  intro n
  induction n with
  | zero =>
    intro e h1 a1 a2 i1 i2 i3 i4
    refine zS_iload_n (zdec eX0_become 54 rfl) rfl ?_
    refine zS_iconst (zdec eX0_become 55 rfl) rfl ?_
    refine zS_icmp_ge (tgt := 134) (zdec eX0_become 56 rfl) rfl (fun cz => ?_) (fun cz => absurd (by omega) cz)
    refine zS_aload_n (zdec eX0_become 71 rfl) rfl rfl ?_
    refine zS_getref (i := 15) (zdec eX0_become 72 rfl) kF_X0_20 ⟨by decide, rfl⟩ rfl rfl rfl rfl rfl ?_
    refine zS_iconst (zdec eX0_become 73 rfl) rfl ?_
    refine zS_aload_n (zdec eX0_become 74 rfl) rfl rfl ?_
    refine zS_getref (i := 27) (zdec eX0_become 75 rfl) kF_X0_20 ⟨by decide, rfl⟩ rfl rfl rfl rfl rfl ?_
    refine zS_iconst (zdec eX0_become 76 rfl) rfl ?_
    refine zS_bipush (zdec eX0_become 77 rfl) rfl rfl ?_
    refine zS_copyI (zdec eX0_become 78 rfl) kM_X0_63 rfl (by omega) ⟨by decide, rfl⟩ ⟨by decide, rfl⟩ (by decide) (by decide) (by decide) (by decide) (by decide) ?_
    refine zS_aload_n (zdec eX0_become 79 rfl) rfl rfl ?_
    refine zS_getref (i := 16) (zdec eX0_become 80 rfl) kF_X0_23 ⟨by decide, rfl⟩ rfl rfl rfl rfl rfl ?_
    refine zS_iconst (zdec eX0_become 81 rfl) rfl ?_
    refine zS_aload_n (zdec eX0_become 82 rfl) rfl rfl ?_
    refine zS_getref (i := 28) (zdec eX0_become 83 rfl) kF_X0_23 ⟨by decide, rfl⟩ rfl rfl rfl rfl rfl ?_
    refine zS_iconst (zdec eX0_become 84 rfl) rfl ?_
    refine zS_bipush (zdec eX0_become 85 rfl) rfl rfl ?_
    refine zS_copyI (zdec eX0_become 86 rfl) kM_X0_63 rfl (by omega) ⟨by decide, rfl⟩ ⟨by decide, rfl⟩ (by decide) (by decide) (by decide) (by decide) (by decide) ?_
    refine zS_aload_n (zdec eX0_become 87 rfl) rfl rfl ?_
    refine zS_getref (i := 17) (zdec eX0_become 88 rfl) kF_X0_26 ⟨by decide, rfl⟩ rfl rfl rfl rfl rfl ?_
    refine zS_iconst (zdec eX0_become 89 rfl) rfl ?_
    refine zS_aload_n (zdec eX0_become 90 rfl) rfl rfl ?_
    refine zS_getref (i := 29) (zdec eX0_become 91 rfl) kF_X0_26 ⟨by decide, rfl⟩ rfl rfl rfl rfl rfl ?_
    refine zS_iconst (zdec eX0_become 92 rfl) rfl ?_
    refine zS_bipush (zdec eX0_become 93 rfl) rfl rfl ?_
    refine zS_copyI (zdec eX0_become 94 rfl) kM_X0_63 rfl (by omega) ⟨by decide, rfl⟩ ⟨by decide, rfl⟩ (by decide) (by decide) (by decide) (by decide) (by decide) ?_
    have g : ∀ k j, k < 23 → (zcpy (zcpy (zcpy h1 11 0 23 0 6) 12 0 24 0 6) 13 0 25 0 20) k j = h1 k j := fun k j z => by rw [zcpy_k (by omega), zcpy_k (by omega), zcpy_k (by omega)]
    have f8 : ∀ i, 0 ≤ i → i < 6 → (zcpy (zcpy (zcpy h1 11 0 23 0 6) 12 0 24 0 6) 13 0 25 0 20) 23 i = h 11 i := fun i i0 i1 => by
        rw [zcpy_k (by decide), zcpy_k (by decide)]
        show (if (23 : Int) = 23 ∧ 0 ≤ i ∧ i < 0 + 6 then _ else _) = _
        rw [if_pos ⟨rfl, i0, by omega⟩, i4 _ _ (by omega), show (0 : Int) + (i - 0) = i by omega]
    have f9 : ∀ i, 0 ≤ i → i < 6 → (zcpy (zcpy (zcpy h1 11 0 23 0 6) 12 0 24 0 6) 13 0 25 0 20) 24 i = h 12 i := fun i i0 i1 => by
        rw [zcpy_k (by decide)]
        show (if (24 : Int) = 24 ∧ 0 ≤ i ∧ i < 0 + 6 then _ else _) = _
        rw [if_pos ⟨rfl, i0, by omega⟩, zcpy_k (by decide), i4 _ _ (by omega), show (0 : Int) + (i - 0) = i by omega]
    have f10 : ∀ i, 0 ≤ i → i < 20 → (zcpy (zcpy (zcpy h1 11 0 23 0 6) 12 0 24 0 6) 13 0 25 0 20) 25 i = h 13 i := fun i i0 i1 => by
        show (if (25 : Int) = 25 ∧ 0 ≤ i ∧ i < 0 + 20 then _ else _) = _
        rw [if_pos ⟨rfl, i0, by omega⟩, zcpy_k (by decide), zcpy_k (by decide), i4 _ _ (by omega), show (0 : Int) + (i - 0) = i by omega]
    exact zlMV (zdec eX0_become 95 rfl) rfl ⟨⟨fun j j0 j1 => (g _ _ (by omega)).trans ((i1 j j0 j1).trans (RD.1 j j0 j1)), fun s s0 s1 s2 => (g _ _ (by omega)).trans ((i2 s s0 s1).trans (RD.2.1 s s0 s1 s2)), fun k w k0 k1 k2 w0 w1 => (g _ _ (by omega)).trans ((i3 k w k0 (by omega) w0 w1).trans (RD.2.2.1 k w k0 k1 k2 w0 w1)), fun i i0 i1 i2 => ⟨(f8 i i0 i1).trans (RD.2.2.2.1 i i0 i1 i2).1, (f9 i i0 i1).trans (RD.2.2.2.1 i i0 i1 i2).2⟩, fun i i0 i1 i2 => (f10 i i0 i1).trans (RD.2.2.2.2 i i0 i1 i2)⟩, fun k j hn => by rw [zcpy_k (by omega), zcpy_k (by omega), zcpy_k (by omega)]; exact i4 k j hn⟩
  | succ n ih =>
    intro e h1 a1 a2 i1 i2 i3 i4
    refine zS_iload_n (zdec eX0_become 54 rfl) rfl ?_
    refine zS_iconst (zdec eX0_become 55 rfl) rfl ?_
    refine zS_icmp_ge (tgt := 134) (zdec eX0_become 56 rfl) rfl (fun cz => absurd cz (by omega)) (fun cz => ?_)
    refine zS_aload_n (zdec eX0_become 57 rfl) rfl rfl ?_
    refine zS_getref (i := 14) (zdec eX0_become 58 rfl) kF_X0_17 ⟨by decide, rfl⟩ rfl rfl rfl rfl rfl ?_
    refine zS_iload_n (zdec eX0_become 59 rfl) rfl ?_
    refine zS_aaload1 (i := 0) (zdec eX0_become 60 rfl) (Or.inr (Or.inl rfl)) ⟨by decide, rfl⟩ rfl rfl rfl (by omega) (by omega) ?_
    refine zS_iconst (zdec eX0_become 61 rfl) rfl ?_
    refine zS_aload_n (zdec eX0_become 62 rfl) rfl rfl ?_
    refine zS_getref (i := 26) (zdec eX0_become 63 rfl) kF_X0_17 ⟨by decide, rfl⟩ rfl rfl rfl rfl rfl ?_
    refine zS_iload_n (zdec eX0_become 64 rfl) rfl ?_
    refine zS_aaload1 (i := 1) (zdec eX0_become 65 rfl) (Or.inr (Or.inl rfl)) ⟨by decide, rfl⟩ rfl rfl rfl (by omega) (by omega) ?_
    refine zS_iconst (zdec eX0_become 66 rfl) rfl ?_
    refine zS_bipush (zdec eX0_become 67 rfl) rfl rfl ?_
    refine zS_copyI (zdec eX0_become 68 rfl) kM_X0_63 rfl (by omega) (zrow_6 a1 (by omega)) (zrow_18 a1 (by omega)) (by decide) (by decide) (by decide) (by decide) (by decide) ?_
    refine zS_iinc (zdec eX0_become 69 rfl) rfl rfl ⟨by omega, by omega⟩ ?_
    refine zS_goto (tgt := 104) (zdec eX0_become 70 rfl) rfl ?_
    refine ih (e + 1) _ (by omega) (by omega) (fun j j0 j1 => by rw [zcpy_k (by omega)]; exact i1 j j0 j1) (fun j j0 j1 => by rw [zcpy_k (by omega)]; exact i2 j j0 j1) (fun k w k0 k1 w0 w1 => ?_) (fun k j hn => by rw [zcpy_k (by omega)]; exact i4 k j hn)
    by_cases u : k = e
    · subst u
      show (if 18 + k = 18 + k ∧ 0 ≤ w ∧ w < 0 + 7 then _ else _) = _
      rw [if_pos ⟨rfl, w0, by omega⟩, i4 _ _ (by omega), show (0 : Int) + (w - 0) = w by omega]
    · rw [zcpy_k (by omega)]; exact i3 k w k0 (by omega) w0 w1
theorem c_become_15_3 {d : Nat} {h : zH} {D : Dk} (hd : 1 ≤ d) (RD : DC h 3 D) : zMV d mX0_become [zA 15, zA 3] h (fun h' => DC h' 15 D ∧ Fr (fun k _ => 15 ≤ k ∧ k ≤ 25) h h') := by
  have K : zS mX0_become (zr d) 104 [zA 15, zA 3, zI 0] [] TT (zcpy (zset (zset (zset (zset (zset (zset (zset (zset (zset (zset (zset h 15 0 (h 3 0)) 15 1 (h 3 1)) 15 2 (h 3 2)) 15 3 (h 3 3)) 15 4 (h 3 4)) 15 5 (h 3 5)) 15 6 (h 3 6)) 15 7 (h 3 7)) 15 8 (h 3 8)) 15 9 (h 3 9)) 15 10 (h 3 10)) 4 0 16 0 4) (zAnV (fun h' => DC h' 15 D ∧ Fr (fun k _ => 15 ≤ k ∧ k ≤ 25) h h')) := by
    refine L_become_15_3 hd RD 5 0 _ (by omega) (by omega) (fun j j0 j1 => ?_) (fun j j0 j1 => ?_) (fun k w k0 k1 => by omega) (fun k j hn => ?_)
    · rw [zcpy_k (by decide)]
      rcases (show j = 0 ∨ j = 1 ∨ j = 2 ∨ j = 3 ∨ j = 4 ∨ j = 5 ∨ j = 6 ∨ j = 7 ∨ j = 8 ∨ j = 9 ∨ j = 10 by omega) with rfl | rfl | rfl | rfl | rfl | rfl | rfl | rfl | rfl | rfl | rfl <;> rfl
    · show (if (16 : Int) = 16 ∧ 0 ≤ j ∧ j < 0 + 4 then _ else _) = _
      rw [if_pos ⟨rfl, j0, by omega⟩, show (0 : Int) + (j - 0) = j by omega]
      exact congrFun (zset_k (by decide)) _ |>.trans (rfl)
    · rw [zcpy_k (by omega)]
      exact ((((((((((((Fr.rf.set (by omega)).set (by omega)).set (by omega)).set (by omega)).set (by omega)).set (by omega)).set (by omega)).set (by omega)).set (by omega)).set (by omega)).set (by omega)) : Fr (fun k _ => 15 ≤ k ∧ k ≤ 25) h _) k j hn
  refine zmet rfl rfl rfl ?_
  refine zS_aload_n (zdec eX0_become 0 rfl) rfl rfl ?_
  refine zS_aload_n (zdec eX0_become 1 rfl) rfl rfl ?_
  refine zS_getfieldE (x := 0) (v := (h 3 0)) (zdec eX0_become 2 rfl) kF_X0_29 ⟨by decide, rfl⟩ rfl rfl rfl rfl ?_
  refine zS_putfield (x := 0) (zdec eX0_become 3 rfl) kF_X0_29 (Or.inl kf0_0) ⟨by decide, rfl⟩ rfl rfl rfl (Or.inl (fun q => by cases q)) ?_
  refine zS_aload_n (zdec eX0_become 4 rfl) rfl rfl ?_
  refine zS_aload_n (zdec eX0_become 5 rfl) rfl rfl ?_
  refine zS_getfieldE (x := 1) (v := (h 3 1)) (zdec eX0_become 6 rfl) kF_X0_33 ⟨by decide, rfl⟩ rfl rfl rfl (congrFun (zset_k (by decide)) _) ?_
  refine zS_putfield (x := 1) (zdec eX0_become 7 rfl) kF_X0_33 (Or.inl kf0_1) ⟨by decide, rfl⟩ rfl rfl rfl (Or.inl (fun q => by cases q)) ?_
  refine zS_aload_n (zdec eX0_become 8 rfl) rfl rfl ?_
  refine zS_aload_n (zdec eX0_become 9 rfl) rfl rfl ?_
  refine zS_getfieldE (x := 2) (v := (h 3 2)) (zdec eX0_become 10 rfl) kF_X0_36 ⟨by decide, rfl⟩ rfl rfl rfl ((congrFun (zset_k (by decide)) _).trans (congrFun (zset_k (by decide)) _)) ?_
  refine zS_putfield (x := 2) (zdec eX0_become 11 rfl) kF_X0_36 (Or.inl kf0_2) ⟨by decide, rfl⟩ rfl rfl rfl (Or.inl (fun q => by cases q)) ?_
  refine zS_aload_n (zdec eX0_become 12 rfl) rfl rfl ?_
  refine zS_aload_n (zdec eX0_become 13 rfl) rfl rfl ?_
  refine zS_getfieldE (x := 3) (v := (h 3 3)) (zdec eX0_become 14 rfl) kF_X0_39 ⟨by decide, rfl⟩ rfl rfl rfl ((congrFun (zset_k (by decide)) _).trans ((congrFun (zset_k (by decide)) _).trans (congrFun (zset_k (by decide)) _))) ?_
  refine zS_putfield (x := 3) (zdec eX0_become 15 rfl) kF_X0_39 (Or.inl kf0_3) ⟨by decide, rfl⟩ rfl rfl rfl (Or.inl (fun q => by cases q)) ?_
  refine zS_aload_n (zdec eX0_become 16 rfl) rfl rfl ?_
  refine zS_aload_n (zdec eX0_become 17 rfl) rfl rfl ?_
  refine zS_getfieldE (x := 4) (v := (h 3 4)) (zdec eX0_become 18 rfl) kF_X0_42 ⟨by decide, rfl⟩ rfl rfl rfl ((congrFun (zset_k (by decide)) _).trans ((congrFun (zset_k (by decide)) _).trans ((congrFun (zset_k (by decide)) _).trans (congrFun (zset_k (by decide)) _)))) ?_
  refine zS_putfield (x := 4) (zdec eX0_become 19 rfl) kF_X0_42 (Or.inl kf0_4) ⟨by decide, rfl⟩ rfl rfl rfl (Or.inl (fun q => by cases q)) ?_
  refine zS_aload_n (zdec eX0_become 20 rfl) rfl rfl ?_
  refine zS_aload_n (zdec eX0_become 21 rfl) rfl rfl ?_
  refine zS_getfieldE (x := 5) (v := (h 3 5)) (zdec eX0_become 22 rfl) kF_X0_45 ⟨by decide, rfl⟩ rfl rfl rfl ((congrFun (zset_k (by decide)) _).trans ((congrFun (zset_k (by decide)) _).trans ((congrFun (zset_k (by decide)) _).trans ((congrFun (zset_k (by decide)) _).trans (congrFun (zset_k (by decide)) _))))) ?_
  refine zS_putfield (x := 5) (zdec eX0_become 23 rfl) kF_X0_45 (Or.inl kf0_5) ⟨by decide, rfl⟩ rfl rfl rfl (Or.inl (fun q => by cases q)) ?_
  refine zS_aload_n (zdec eX0_become 24 rfl) rfl rfl ?_
  refine zS_aload_n (zdec eX0_become 25 rfl) rfl rfl ?_
  refine zS_getfieldE (x := 6) (v := (h 3 6)) (zdec eX0_become 26 rfl) kF_X0_48 ⟨by decide, rfl⟩ rfl rfl rfl ((congrFun (zset_k (by decide)) _).trans ((congrFun (zset_k (by decide)) _).trans ((congrFun (zset_k (by decide)) _).trans ((congrFun (zset_k (by decide)) _).trans ((congrFun (zset_k (by decide)) _).trans (congrFun (zset_k (by decide)) _)))))) ?_
  refine zS_putfield (x := 6) (zdec eX0_become 27 rfl) kF_X0_48 (Or.inl kf0_6) ⟨by decide, rfl⟩ rfl rfl rfl (Or.inl (fun q => by cases q)) ?_
  refine zS_aload_n (zdec eX0_become 28 rfl) rfl rfl ?_
  refine zS_aload_n (zdec eX0_become 29 rfl) rfl rfl ?_
  refine zS_getfieldE (x := 7) (v := (h 3 7)) (zdec eX0_become 30 rfl) kF_X0_51 ⟨by decide, rfl⟩ rfl rfl rfl ((congrFun (zset_k (by decide)) _).trans ((congrFun (zset_k (by decide)) _).trans ((congrFun (zset_k (by decide)) _).trans ((congrFun (zset_k (by decide)) _).trans ((congrFun (zset_k (by decide)) _).trans ((congrFun (zset_k (by decide)) _).trans (congrFun (zset_k (by decide)) _))))))) ?_
  refine zS_putfield (x := 7) (zdec eX0_become 31 rfl) kF_X0_51 (Or.inl kf0_7) ⟨by decide, rfl⟩ rfl rfl rfl (Or.inl (fun q => by cases q)) ?_
  refine zS_aload_n (zdec eX0_become 32 rfl) rfl rfl ?_
  refine zS_aload_n (zdec eX0_become 33 rfl) rfl rfl ?_
  refine zS_getfieldE (x := 8) (v := (h 3 8)) (zdec eX0_become 34 rfl) kF_X0_54 ⟨by decide, rfl⟩ rfl rfl rfl ((congrFun (zset_k (by decide)) _).trans ((congrFun (zset_k (by decide)) _).trans ((congrFun (zset_k (by decide)) _).trans ((congrFun (zset_k (by decide)) _).trans ((congrFun (zset_k (by decide)) _).trans ((congrFun (zset_k (by decide)) _).trans ((congrFun (zset_k (by decide)) _).trans (congrFun (zset_k (by decide)) _)))))))) ?_
  refine zS_putfield (x := 8) (zdec eX0_become 35 rfl) kF_X0_54 (Or.inl kf0_8) ⟨by decide, rfl⟩ rfl rfl rfl (Or.inl (fun q => by cases q)) ?_
  refine zS_aload_n (zdec eX0_become 36 rfl) rfl rfl ?_
  refine zS_aload_n (zdec eX0_become 37 rfl) rfl rfl ?_
  refine zS_getfieldE (x := 9) (v := (h 3 9)) (zdec eX0_become 38 rfl) kF_X0_57 ⟨by decide, rfl⟩ rfl rfl rfl ((congrFun (zset_k (by decide)) _).trans ((congrFun (zset_k (by decide)) _).trans ((congrFun (zset_k (by decide)) _).trans ((congrFun (zset_k (by decide)) _).trans ((congrFun (zset_k (by decide)) _).trans ((congrFun (zset_k (by decide)) _).trans ((congrFun (zset_k (by decide)) _).trans ((congrFun (zset_k (by decide)) _).trans (congrFun (zset_k (by decide)) _))))))))) ?_
  refine zS_putfield (x := 9) (zdec eX0_become 39 rfl) kF_X0_57 (Or.inl kf0_9) ⟨by decide, rfl⟩ rfl rfl rfl (Or.inl (fun q => by cases q)) ?_
  refine zS_aload_n (zdec eX0_become 40 rfl) rfl rfl ?_
  refine zS_aload_n (zdec eX0_become 41 rfl) rfl rfl ?_
  refine zS_getfieldE (x := 10) (v := (h 3 10)) (zdec eX0_become 42 rfl) kF_X0_60 ⟨by decide, rfl⟩ rfl rfl rfl ((congrFun (zset_k (by decide)) _).trans ((congrFun (zset_k (by decide)) _).trans ((congrFun (zset_k (by decide)) _).trans ((congrFun (zset_k (by decide)) _).trans ((congrFun (zset_k (by decide)) _).trans ((congrFun (zset_k (by decide)) _).trans ((congrFun (zset_k (by decide)) _).trans ((congrFun (zset_k (by decide)) _).trans ((congrFun (zset_k (by decide)) _).trans (congrFun (zset_k (by decide)) _)))))))))) ?_
  refine zS_putfield (x := 10) (zdec eX0_become 43 rfl) kF_X0_60 (Or.inl kf0_10) ⟨by decide, rfl⟩ rfl rfl rfl (Or.inl (fun q => by cases q)) ?_
  refine zS_aload_n (zdec eX0_become 44 rfl) rfl rfl ?_
  refine zS_getref (i := 13) (zdec eX0_become 45 rfl) kF_X0_9 ⟨by decide, rfl⟩ rfl rfl rfl rfl rfl ?_
  refine zS_iconst (zdec eX0_become 46 rfl) rfl ?_
  refine zS_aload_n (zdec eX0_become 47 rfl) rfl rfl ?_
  refine zS_getref (i := 25) (zdec eX0_become 48 rfl) kF_X0_9 ⟨by decide, rfl⟩ rfl rfl rfl rfl rfl ?_
  refine zS_iconst (zdec eX0_become 49 rfl) rfl ?_
  refine zS_iconst (zdec eX0_become 50 rfl) rfl ?_
  refine zS_copyI (zdec eX0_become 51 rfl) kM_X0_63 rfl (by omega) ⟨by decide, rfl⟩ ⟨by decide, rfl⟩ (by decide) (by decide) (by decide) (by decide) (by decide) ?_
  refine zS_iconst (zdec eX0_become 52 rfl) rfl ?_
  refine zS_istore_n (zdec eX0_become 53 rfl) rfl ?_
  exact K
theorem L_become_15_33 {d : Nat} {h : zH} {D : Dk} (hd : 1 ≤ d) (RD : DC h 33 D) : ∀ (n : Nat) (e : Int) (h1 : zH), 0 ≤ e → e + n = 5 → (∀ j, 0 ≤ j → j ≤ 10 → h1 15 j = h 33 j) → (∀ j, 0 ≤ j → j < 4 → h1 16 j = h 34 j) → (∀ k w, 0 ≤ k → k < e → 0 ≤ w → w < 7 → h1 (18 + k) w = h (36 + k) w) → Fr (fun k _ => 15 ≤ k ∧ k ≤ 25) h h1 → zS mX0_become (zr d) 104 [zA 15, zA 33, zI e] [] TT h1 (zAnV (fun h' => DC h' 15 D ∧ Fr (fun k _ => 15 ≤ k ∧ k ≤ 25) h h')) := by
  intro n
  induction n with
  | zero =>
    intro e h1 a1 a2 i1 i2 i3 i4
    refine zS_iload_n (zdec eX0_become 54 rfl) rfl ?_
    refine zS_iconst (zdec eX0_become 55 rfl) rfl ?_
    refine zS_icmp_ge (tgt := 134) (zdec eX0_become 56 rfl) rfl (fun cz => ?_) (fun cz => absurd (by omega) cz)
    refine zS_aload_n (zdec eX0_become 71 rfl) rfl rfl ?_
    refine zS_getref (i := 32) (zdec eX0_become 72 rfl) kF_X0_20 ⟨by decide, rfl⟩ rfl rfl rfl rfl rfl ?_
    refine zS_iconst (zdec eX0_become 73 rfl) rfl ?_
    refine zS_aload_n (zdec eX0_become 74 rfl) rfl rfl ?_
    refine zS_getref (i := 27) (zdec eX0_become 75 rfl) kF_X0_20 ⟨by decide, rfl⟩ rfl rfl rfl rfl rfl ?_
    refine zS_iconst (zdec eX0_become 76 rfl) rfl ?_
    refine zS_bipush (zdec eX0_become 77 rfl) rfl rfl ?_
    refine zS_copyI (zdec eX0_become 78 rfl) kM_X0_63 rfl (by omega) ⟨by decide, rfl⟩ ⟨by decide, rfl⟩ (by decide) (by decide) (by decide) (by decide) (by decide) ?_
    refine zS_aload_n (zdec eX0_become 79 rfl) rfl rfl ?_
    refine zS_getref (i := 33) (zdec eX0_become 80 rfl) kF_X0_23 ⟨by decide, rfl⟩ rfl rfl rfl rfl rfl ?_
    refine zS_iconst (zdec eX0_become 81 rfl) rfl ?_
    refine zS_aload_n (zdec eX0_become 82 rfl) rfl rfl ?_
    refine zS_getref (i := 28) (zdec eX0_become 83 rfl) kF_X0_23 ⟨by decide, rfl⟩ rfl rfl rfl rfl rfl ?_
    refine zS_iconst (zdec eX0_become 84 rfl) rfl ?_
    refine zS_bipush (zdec eX0_become 85 rfl) rfl rfl ?_
    refine zS_copyI (zdec eX0_become 86 rfl) kM_X0_63 rfl (by omega) ⟨by decide, rfl⟩ ⟨by decide, rfl⟩ (by decide) (by decide) (by decide) (by decide) (by decide) ?_
    refine zS_aload_n (zdec eX0_become 87 rfl) rfl rfl ?_
    refine zS_getref (i := 34) (zdec eX0_become 88 rfl) kF_X0_26 ⟨by decide, rfl⟩ rfl rfl rfl rfl rfl ?_
    refine zS_iconst (zdec eX0_become 89 rfl) rfl ?_
    refine zS_aload_n (zdec eX0_become 90 rfl) rfl rfl ?_
    refine zS_getref (i := 29) (zdec eX0_become 91 rfl) kF_X0_26 ⟨by decide, rfl⟩ rfl rfl rfl rfl rfl ?_
    refine zS_iconst (zdec eX0_become 92 rfl) rfl ?_
    refine zS_bipush (zdec eX0_become 93 rfl) rfl rfl ?_
    refine zS_copyI (zdec eX0_become 94 rfl) kM_X0_63 rfl (by omega) ⟨by decide, rfl⟩ ⟨by decide, rfl⟩ (by decide) (by decide) (by decide) (by decide) (by decide) ?_
    have g : ∀ k j, k < 23 → (zcpy (zcpy (zcpy h1 41 0 23 0 6) 42 0 24 0 6) 43 0 25 0 20) k j = h1 k j := fun k j z => by rw [zcpy_k (by omega), zcpy_k (by omega), zcpy_k (by omega)]
    have f8 : ∀ i, 0 ≤ i → i < 6 → (zcpy (zcpy (zcpy h1 41 0 23 0 6) 42 0 24 0 6) 43 0 25 0 20) 23 i = h 41 i := fun i i0 i1 => by
        rw [zcpy_k (by decide), zcpy_k (by decide)]
        show (if (23 : Int) = 23 ∧ 0 ≤ i ∧ i < 0 + 6 then _ else _) = _
        rw [if_pos ⟨rfl, i0, by omega⟩, i4 _ _ (by omega), show (0 : Int) + (i - 0) = i by omega]
    have f9 : ∀ i, 0 ≤ i → i < 6 → (zcpy (zcpy (zcpy h1 41 0 23 0 6) 42 0 24 0 6) 43 0 25 0 20) 24 i = h 42 i := fun i i0 i1 => by
        rw [zcpy_k (by decide)]
        show (if (24 : Int) = 24 ∧ 0 ≤ i ∧ i < 0 + 6 then _ else _) = _
        rw [if_pos ⟨rfl, i0, by omega⟩, zcpy_k (by decide), i4 _ _ (by omega), show (0 : Int) + (i - 0) = i by omega]
    have f10 : ∀ i, 0 ≤ i → i < 20 → (zcpy (zcpy (zcpy h1 41 0 23 0 6) 42 0 24 0 6) 43 0 25 0 20) 25 i = h 43 i := fun i i0 i1 => by
        show (if (25 : Int) = 25 ∧ 0 ≤ i ∧ i < 0 + 20 then _ else _) = _
        rw [if_pos ⟨rfl, i0, by omega⟩, zcpy_k (by decide), zcpy_k (by decide), i4 _ _ (by omega), show (0 : Int) + (i - 0) = i by omega]
    exact zlMV (zdec eX0_become 95 rfl) rfl ⟨⟨fun j j0 j1 => (g _ _ (by omega)).trans ((i1 j j0 j1).trans (RD.1 j j0 j1)), fun s s0 s1 s2 => (g _ _ (by omega)).trans ((i2 s s0 s1).trans (RD.2.1 s s0 s1 s2)), fun k w k0 k1 k2 w0 w1 => (g _ _ (by omega)).trans ((i3 k w k0 (by omega) w0 w1).trans (RD.2.2.1 k w k0 k1 k2 w0 w1)), fun i i0 i1 i2 => ⟨(f8 i i0 i1).trans (RD.2.2.2.1 i i0 i1 i2).1, (f9 i i0 i1).trans (RD.2.2.2.1 i i0 i1 i2).2⟩, fun i i0 i1 i2 => (f10 i i0 i1).trans (RD.2.2.2.2 i i0 i1 i2)⟩, fun k j hn => by rw [zcpy_k (by omega), zcpy_k (by omega), zcpy_k (by omega)]; exact i4 k j hn⟩
  | succ n ih =>
    intro e h1 a1 a2 i1 i2 i3 i4
    refine zS_iload_n (zdec eX0_become 54 rfl) rfl ?_
    refine zS_iconst (zdec eX0_become 55 rfl) rfl ?_
    refine zS_icmp_ge (tgt := 134) (zdec eX0_become 56 rfl) rfl (fun cz => absurd cz (by omega)) (fun cz => ?_)
    refine zS_aload_n (zdec eX0_become 57 rfl) rfl rfl ?_
    refine zS_getref (i := 31) (zdec eX0_become 58 rfl) kF_X0_17 ⟨by decide, rfl⟩ rfl rfl rfl rfl rfl ?_
    refine zS_iload_n (zdec eX0_become 59 rfl) rfl ?_
    refine zS_aaload1 (i := 3) (zdec eX0_become 60 rfl) (Or.inr (Or.inl rfl)) ⟨by decide, rfl⟩ rfl rfl rfl (by omega) (by omega) ?_
    refine zS_iconst (zdec eX0_become 61 rfl) rfl ?_
    refine zS_aload_n (zdec eX0_become 62 rfl) rfl rfl ?_
    refine zS_getref (i := 26) (zdec eX0_become 63 rfl) kF_X0_17 ⟨by decide, rfl⟩ rfl rfl rfl rfl rfl ?_
    refine zS_iload_n (zdec eX0_become 64 rfl) rfl ?_
    refine zS_aaload1 (i := 1) (zdec eX0_become 65 rfl) (Or.inr (Or.inl rfl)) ⟨by decide, rfl⟩ rfl rfl rfl (by omega) (by omega) ?_
    refine zS_iconst (zdec eX0_become 66 rfl) rfl ?_
    refine zS_bipush (zdec eX0_become 67 rfl) rfl rfl ?_
    refine zS_copyI (zdec eX0_become 68 rfl) kM_X0_63 rfl (by omega) (zrow_36 a1 (by omega)) (zrow_18 a1 (by omega)) (by decide) (by decide) (by decide) (by decide) (by decide) ?_
    refine zS_iinc (zdec eX0_become 69 rfl) rfl rfl ⟨by omega, by omega⟩ ?_
    refine zS_goto (tgt := 104) (zdec eX0_become 70 rfl) rfl ?_
    refine ih (e + 1) _ (by omega) (by omega) (fun j j0 j1 => by rw [zcpy_k (by omega)]; exact i1 j j0 j1) (fun j j0 j1 => by rw [zcpy_k (by omega)]; exact i2 j j0 j1) (fun k w k0 k1 w0 w1 => ?_) (fun k j hn => by rw [zcpy_k (by omega)]; exact i4 k j hn)
    by_cases u : k = e
    · subst u
      show (if 18 + k = 18 + k ∧ 0 ≤ w ∧ w < 0 + 7 then _ else _) = _
      rw [if_pos ⟨rfl, w0, by omega⟩, i4 _ _ (by omega), show (0 : Int) + (w - 0) = w by omega]
    · rw [zcpy_k (by omega)]; exact i3 k w k0 (by omega) w0 w1
theorem c_become_15_33 {d : Nat} {h : zH} {D : Dk} (hd : 1 ≤ d) (RD : DC h 33 D) : zMV d mX0_become [zA 15, zA 33] h (fun h' => DC h' 15 D ∧ Fr (fun k _ => 15 ≤ k ∧ k ≤ 25) h h') := by
  have K : zS mX0_become (zr d) 104 [zA 15, zA 33, zI 0] [] TT (zcpy (zset (zset (zset (zset (zset (zset (zset (zset (zset (zset (zset h 15 0 (h 33 0)) 15 1 (h 33 1)) 15 2 (h 33 2)) 15 3 (h 33 3)) 15 4 (h 33 4)) 15 5 (h 33 5)) 15 6 (h 33 6)) 15 7 (h 33 7)) 15 8 (h 33 8)) 15 9 (h 33 9)) 15 10 (h 33 10)) 34 0 16 0 4) (zAnV (fun h' => DC h' 15 D ∧ Fr (fun k _ => 15 ≤ k ∧ k ≤ 25) h h')) := by
    refine L_become_15_33 hd RD 5 0 _ (by omega) (by omega) (fun j j0 j1 => ?_) (fun j j0 j1 => ?_) (fun k w k0 k1 => by omega) (fun k j hn => ?_)
    · rw [zcpy_k (by decide)]
      rcases (show j = 0 ∨ j = 1 ∨ j = 2 ∨ j = 3 ∨ j = 4 ∨ j = 5 ∨ j = 6 ∨ j = 7 ∨ j = 8 ∨ j = 9 ∨ j = 10 by omega) with rfl | rfl | rfl | rfl | rfl | rfl | rfl | rfl | rfl | rfl | rfl <;> rfl
    · show (if (16 : Int) = 16 ∧ 0 ≤ j ∧ j < 0 + 4 then _ else _) = _
      rw [if_pos ⟨rfl, j0, by omega⟩, show (0 : Int) + (j - 0) = j by omega]
      exact congrFun (zset_k (by decide)) _ |>.trans (rfl)
    · rw [zcpy_k (by omega)]
      exact ((((((((((((Fr.rf.set (by omega)).set (by omega)).set (by omega)).set (by omega)).set (by omega)).set (by omega)).set (by omega)).set (by omega)).set (by omega)).set (by omega)).set (by omega)) : Fr (fun k _ => 15 ≤ k ∧ k ≤ 25) h _) k j hn
  refine zmet rfl rfl rfl ?_
  refine zS_aload_n (zdec eX0_become 0 rfl) rfl rfl ?_
  refine zS_aload_n (zdec eX0_become 1 rfl) rfl rfl ?_
  refine zS_getfieldE (x := 0) (v := (h 33 0)) (zdec eX0_become 2 rfl) kF_X0_29 ⟨by decide, rfl⟩ rfl rfl rfl rfl ?_
  refine zS_putfield (x := 0) (zdec eX0_become 3 rfl) kF_X0_29 (Or.inl kf0_0) ⟨by decide, rfl⟩ rfl rfl rfl (Or.inl (fun q => by cases q)) ?_
  refine zS_aload_n (zdec eX0_become 4 rfl) rfl rfl ?_
  refine zS_aload_n (zdec eX0_become 5 rfl) rfl rfl ?_
  refine zS_getfieldE (x := 1) (v := (h 33 1)) (zdec eX0_become 6 rfl) kF_X0_33 ⟨by decide, rfl⟩ rfl rfl rfl (congrFun (zset_k (by decide)) _) ?_
  refine zS_putfield (x := 1) (zdec eX0_become 7 rfl) kF_X0_33 (Or.inl kf0_1) ⟨by decide, rfl⟩ rfl rfl rfl (Or.inl (fun q => by cases q)) ?_
  refine zS_aload_n (zdec eX0_become 8 rfl) rfl rfl ?_
  refine zS_aload_n (zdec eX0_become 9 rfl) rfl rfl ?_
  refine zS_getfieldE (x := 2) (v := (h 33 2)) (zdec eX0_become 10 rfl) kF_X0_36 ⟨by decide, rfl⟩ rfl rfl rfl ((congrFun (zset_k (by decide)) _).trans (congrFun (zset_k (by decide)) _)) ?_
  refine zS_putfield (x := 2) (zdec eX0_become 11 rfl) kF_X0_36 (Or.inl kf0_2) ⟨by decide, rfl⟩ rfl rfl rfl (Or.inl (fun q => by cases q)) ?_
  refine zS_aload_n (zdec eX0_become 12 rfl) rfl rfl ?_
  refine zS_aload_n (zdec eX0_become 13 rfl) rfl rfl ?_
  refine zS_getfieldE (x := 3) (v := (h 33 3)) (zdec eX0_become 14 rfl) kF_X0_39 ⟨by decide, rfl⟩ rfl rfl rfl ((congrFun (zset_k (by decide)) _).trans ((congrFun (zset_k (by decide)) _).trans (congrFun (zset_k (by decide)) _))) ?_
  refine zS_putfield (x := 3) (zdec eX0_become 15 rfl) kF_X0_39 (Or.inl kf0_3) ⟨by decide, rfl⟩ rfl rfl rfl (Or.inl (fun q => by cases q)) ?_
  refine zS_aload_n (zdec eX0_become 16 rfl) rfl rfl ?_
  refine zS_aload_n (zdec eX0_become 17 rfl) rfl rfl ?_
  refine zS_getfieldE (x := 4) (v := (h 33 4)) (zdec eX0_become 18 rfl) kF_X0_42 ⟨by decide, rfl⟩ rfl rfl rfl ((congrFun (zset_k (by decide)) _).trans ((congrFun (zset_k (by decide)) _).trans ((congrFun (zset_k (by decide)) _).trans (congrFun (zset_k (by decide)) _)))) ?_
  refine zS_putfield (x := 4) (zdec eX0_become 19 rfl) kF_X0_42 (Or.inl kf0_4) ⟨by decide, rfl⟩ rfl rfl rfl (Or.inl (fun q => by cases q)) ?_
  refine zS_aload_n (zdec eX0_become 20 rfl) rfl rfl ?_
  refine zS_aload_n (zdec eX0_become 21 rfl) rfl rfl ?_
  refine zS_getfieldE (x := 5) (v := (h 33 5)) (zdec eX0_become 22 rfl) kF_X0_45 ⟨by decide, rfl⟩ rfl rfl rfl ((congrFun (zset_k (by decide)) _).trans ((congrFun (zset_k (by decide)) _).trans ((congrFun (zset_k (by decide)) _).trans ((congrFun (zset_k (by decide)) _).trans (congrFun (zset_k (by decide)) _))))) ?_
  refine zS_putfield (x := 5) (zdec eX0_become 23 rfl) kF_X0_45 (Or.inl kf0_5) ⟨by decide, rfl⟩ rfl rfl rfl (Or.inl (fun q => by cases q)) ?_
  refine zS_aload_n (zdec eX0_become 24 rfl) rfl rfl ?_
  refine zS_aload_n (zdec eX0_become 25 rfl) rfl rfl ?_
  refine zS_getfieldE (x := 6) (v := (h 33 6)) (zdec eX0_become 26 rfl) kF_X0_48 ⟨by decide, rfl⟩ rfl rfl rfl ((congrFun (zset_k (by decide)) _).trans ((congrFun (zset_k (by decide)) _).trans ((congrFun (zset_k (by decide)) _).trans ((congrFun (zset_k (by decide)) _).trans ((congrFun (zset_k (by decide)) _).trans (congrFun (zset_k (by decide)) _)))))) ?_
  refine zS_putfield (x := 6) (zdec eX0_become 27 rfl) kF_X0_48 (Or.inl kf0_6) ⟨by decide, rfl⟩ rfl rfl rfl (Or.inl (fun q => by cases q)) ?_
  refine zS_aload_n (zdec eX0_become 28 rfl) rfl rfl ?_
  refine zS_aload_n (zdec eX0_become 29 rfl) rfl rfl ?_
  refine zS_getfieldE (x := 7) (v := (h 33 7)) (zdec eX0_become 30 rfl) kF_X0_51 ⟨by decide, rfl⟩ rfl rfl rfl ((congrFun (zset_k (by decide)) _).trans ((congrFun (zset_k (by decide)) _).trans ((congrFun (zset_k (by decide)) _).trans ((congrFun (zset_k (by decide)) _).trans ((congrFun (zset_k (by decide)) _).trans ((congrFun (zset_k (by decide)) _).trans (congrFun (zset_k (by decide)) _))))))) ?_
  refine zS_putfield (x := 7) (zdec eX0_become 31 rfl) kF_X0_51 (Or.inl kf0_7) ⟨by decide, rfl⟩ rfl rfl rfl (Or.inl (fun q => by cases q)) ?_
  refine zS_aload_n (zdec eX0_become 32 rfl) rfl rfl ?_
  refine zS_aload_n (zdec eX0_become 33 rfl) rfl rfl ?_
  refine zS_getfieldE (x := 8) (v := (h 33 8)) (zdec eX0_become 34 rfl) kF_X0_54 ⟨by decide, rfl⟩ rfl rfl rfl ((congrFun (zset_k (by decide)) _).trans ((congrFun (zset_k (by decide)) _).trans ((congrFun (zset_k (by decide)) _).trans ((congrFun (zset_k (by decide)) _).trans ((congrFun (zset_k (by decide)) _).trans ((congrFun (zset_k (by decide)) _).trans ((congrFun (zset_k (by decide)) _).trans (congrFun (zset_k (by decide)) _)))))))) ?_
  refine zS_putfield (x := 8) (zdec eX0_become 35 rfl) kF_X0_54 (Or.inl kf0_8) ⟨by decide, rfl⟩ rfl rfl rfl (Or.inl (fun q => by cases q)) ?_
  refine zS_aload_n (zdec eX0_become 36 rfl) rfl rfl ?_
  refine zS_aload_n (zdec eX0_become 37 rfl) rfl rfl ?_
  refine zS_getfieldE (x := 9) (v := (h 33 9)) (zdec eX0_become 38 rfl) kF_X0_57 ⟨by decide, rfl⟩ rfl rfl rfl ((congrFun (zset_k (by decide)) _).trans ((congrFun (zset_k (by decide)) _).trans ((congrFun (zset_k (by decide)) _).trans ((congrFun (zset_k (by decide)) _).trans ((congrFun (zset_k (by decide)) _).trans ((congrFun (zset_k (by decide)) _).trans ((congrFun (zset_k (by decide)) _).trans ((congrFun (zset_k (by decide)) _).trans (congrFun (zset_k (by decide)) _))))))))) ?_
  refine zS_putfield (x := 9) (zdec eX0_become 39 rfl) kF_X0_57 (Or.inl kf0_9) ⟨by decide, rfl⟩ rfl rfl rfl (Or.inl (fun q => by cases q)) ?_
  refine zS_aload_n (zdec eX0_become 40 rfl) rfl rfl ?_
  refine zS_aload_n (zdec eX0_become 41 rfl) rfl rfl ?_
  refine zS_getfieldE (x := 10) (v := (h 33 10)) (zdec eX0_become 42 rfl) kF_X0_60 ⟨by decide, rfl⟩ rfl rfl rfl ((congrFun (zset_k (by decide)) _).trans ((congrFun (zset_k (by decide)) _).trans ((congrFun (zset_k (by decide)) _).trans ((congrFun (zset_k (by decide)) _).trans ((congrFun (zset_k (by decide)) _).trans ((congrFun (zset_k (by decide)) _).trans ((congrFun (zset_k (by decide)) _).trans ((congrFun (zset_k (by decide)) _).trans ((congrFun (zset_k (by decide)) _).trans (congrFun (zset_k (by decide)) _)))))))))) ?_
  refine zS_putfield (x := 10) (zdec eX0_become 43 rfl) kF_X0_60 (Or.inl kf0_10) ⟨by decide, rfl⟩ rfl rfl rfl (Or.inl (fun q => by cases q)) ?_
  refine zS_aload_n (zdec eX0_become 44 rfl) rfl rfl ?_
  refine zS_getref (i := 30) (zdec eX0_become 45 rfl) kF_X0_9 ⟨by decide, rfl⟩ rfl rfl rfl rfl rfl ?_
  refine zS_iconst (zdec eX0_become 46 rfl) rfl ?_
  refine zS_aload_n (zdec eX0_become 47 rfl) rfl rfl ?_
  refine zS_getref (i := 25) (zdec eX0_become 48 rfl) kF_X0_9 ⟨by decide, rfl⟩ rfl rfl rfl rfl rfl ?_
  refine zS_iconst (zdec eX0_become 49 rfl) rfl ?_
  refine zS_iconst (zdec eX0_become 50 rfl) rfl ?_
  refine zS_copyI (zdec eX0_become 51 rfl) kM_X0_63 rfl (by omega) ⟨by decide, rfl⟩ ⟨by decide, rfl⟩ (by decide) (by decide) (by decide) (by decide) (by decide) ?_
  refine zS_iconst (zdec eX0_become 52 rfl) rfl ?_
  refine zS_istore_n (zdec eX0_become 53 rfl) rfl ?_
  exact K
theorem L_become_15_44 {d : Nat} {h : zH} {D : Dk} (hd : 1 ≤ d) (RD : DC h 44 D) : ∀ (n : Nat) (e : Int) (h1 : zH), 0 ≤ e → e + n = 5 → (∀ j, 0 ≤ j → j ≤ 10 → h1 15 j = h 44 j) → (∀ j, 0 ≤ j → j < 4 → h1 16 j = h 45 j) → (∀ k w, 0 ≤ k → k < e → 0 ≤ w → w < 7 → h1 (18 + k) w = h (47 + k) w) → Fr (fun k _ => 15 ≤ k ∧ k ≤ 25) h h1 → zS mX0_become (zr d) 104 [zA 15, zA 44, zI e] [] TT h1 (zAnV (fun h' => DC h' 15 D ∧ Fr (fun k _ => 15 ≤ k ∧ k ≤ 25) h h')) := by
  intro n
  induction n with
  | zero =>
    intro e h1 a1 a2 i1 i2 i3 i4
    refine zS_iload_n (zdec eX0_become 54 rfl) rfl ?_
    refine zS_iconst (zdec eX0_become 55 rfl) rfl ?_
    refine zS_icmp_ge (tgt := 134) (zdec eX0_become 56 rfl) rfl (fun cz => ?_) (fun cz => absurd (by omega) cz)
    refine zS_aload_n (zdec eX0_become 71 rfl) rfl rfl ?_
    refine zS_getref (i := 37) (zdec eX0_become 72 rfl) kF_X0_20 ⟨by decide, rfl⟩ rfl rfl rfl rfl rfl ?_
    refine zS_iconst (zdec eX0_become 73 rfl) rfl ?_
    refine zS_aload_n (zdec eX0_become 74 rfl) rfl rfl ?_
    refine zS_getref (i := 27) (zdec eX0_become 75 rfl) kF_X0_20 ⟨by decide, rfl⟩ rfl rfl rfl rfl rfl ?_
    refine zS_iconst (zdec eX0_become 76 rfl) rfl ?_
    refine zS_bipush (zdec eX0_become 77 rfl) rfl rfl ?_
    refine zS_copyI (zdec eX0_become 78 rfl) kM_X0_63 rfl (by omega) ⟨by decide, rfl⟩ ⟨by decide, rfl⟩ (by decide) (by decide) (by decide) (by decide) (by decide) ?_
    refine zS_aload_n (zdec eX0_become 79 rfl) rfl rfl ?_
    refine zS_getref (i := 38) (zdec eX0_become 80 rfl) kF_X0_23 ⟨by decide, rfl⟩ rfl rfl rfl rfl rfl ?_
    refine zS_iconst (zdec eX0_become 81 rfl) rfl ?_
    refine zS_aload_n (zdec eX0_become 82 rfl) rfl rfl ?_
    refine zS_getref (i := 28) (zdec eX0_become 83 rfl) kF_X0_23 ⟨by decide, rfl⟩ rfl rfl rfl rfl rfl ?_
    refine zS_iconst (zdec eX0_become 84 rfl) rfl ?_
    refine zS_bipush (zdec eX0_become 85 rfl) rfl rfl ?_
    refine zS_copyI (zdec eX0_become 86 rfl) kM_X0_63 rfl (by omega) ⟨by decide, rfl⟩ ⟨by decide, rfl⟩ (by decide) (by decide) (by decide) (by decide) (by decide) ?_
    refine zS_aload_n (zdec eX0_become 87 rfl) rfl rfl ?_
    refine zS_getref (i := 39) (zdec eX0_become 88 rfl) kF_X0_26 ⟨by decide, rfl⟩ rfl rfl rfl rfl rfl ?_
    refine zS_iconst (zdec eX0_become 89 rfl) rfl ?_
    refine zS_aload_n (zdec eX0_become 90 rfl) rfl rfl ?_
    refine zS_getref (i := 29) (zdec eX0_become 91 rfl) kF_X0_26 ⟨by decide, rfl⟩ rfl rfl rfl rfl rfl ?_
    refine zS_iconst (zdec eX0_become 92 rfl) rfl ?_
    refine zS_bipush (zdec eX0_become 93 rfl) rfl rfl ?_
    refine zS_copyI (zdec eX0_become 94 rfl) kM_X0_63 rfl (by omega) ⟨by decide, rfl⟩ ⟨by decide, rfl⟩ (by decide) (by decide) (by decide) (by decide) (by decide) ?_
    have g : ∀ k j, k < 23 → (zcpy (zcpy (zcpy h1 52 0 23 0 6) 53 0 24 0 6) 54 0 25 0 20) k j = h1 k j := fun k j z => by rw [zcpy_k (by omega), zcpy_k (by omega), zcpy_k (by omega)]
    have f8 : ∀ i, 0 ≤ i → i < 6 → (zcpy (zcpy (zcpy h1 52 0 23 0 6) 53 0 24 0 6) 54 0 25 0 20) 23 i = h 52 i := fun i i0 i1 => by
        rw [zcpy_k (by decide), zcpy_k (by decide)]
        show (if (23 : Int) = 23 ∧ 0 ≤ i ∧ i < 0 + 6 then _ else _) = _
        rw [if_pos ⟨rfl, i0, by omega⟩, i4 _ _ (by omega), show (0 : Int) + (i - 0) = i by omega]
    have f9 : ∀ i, 0 ≤ i → i < 6 → (zcpy (zcpy (zcpy h1 52 0 23 0 6) 53 0 24 0 6) 54 0 25 0 20) 24 i = h 53 i := fun i i0 i1 => by
        rw [zcpy_k (by decide)]
        show (if (24 : Int) = 24 ∧ 0 ≤ i ∧ i < 0 + 6 then _ else _) = _
        rw [if_pos ⟨rfl, i0, by omega⟩, zcpy_k (by decide), i4 _ _ (by omega), show (0 : Int) + (i - 0) = i by omega]
    have f10 : ∀ i, 0 ≤ i → i < 20 → (zcpy (zcpy (zcpy h1 52 0 23 0 6) 53 0 24 0 6) 54 0 25 0 20) 25 i = h 54 i := fun i i0 i1 => by
        show (if (25 : Int) = 25 ∧ 0 ≤ i ∧ i < 0 + 20 then _ else _) = _
        rw [if_pos ⟨rfl, i0, by omega⟩, zcpy_k (by decide), zcpy_k (by decide), i4 _ _ (by omega), show (0 : Int) + (i - 0) = i by omega]
    exact zlMV (zdec eX0_become 95 rfl) rfl ⟨⟨fun j j0 j1 => (g _ _ (by omega)).trans ((i1 j j0 j1).trans (RD.1 j j0 j1)), fun s s0 s1 s2 => (g _ _ (by omega)).trans ((i2 s s0 s1).trans (RD.2.1 s s0 s1 s2)), fun k w k0 k1 k2 w0 w1 => (g _ _ (by omega)).trans ((i3 k w k0 (by omega) w0 w1).trans (RD.2.2.1 k w k0 k1 k2 w0 w1)), fun i i0 i1 i2 => ⟨(f8 i i0 i1).trans (RD.2.2.2.1 i i0 i1 i2).1, (f9 i i0 i1).trans (RD.2.2.2.1 i i0 i1 i2).2⟩, fun i i0 i1 i2 => (f10 i i0 i1).trans (RD.2.2.2.2 i i0 i1 i2)⟩, fun k j hn => by rw [zcpy_k (by omega), zcpy_k (by omega), zcpy_k (by omega)]; exact i4 k j hn⟩
  | succ n ih =>
    intro e h1 a1 a2 i1 i2 i3 i4
    refine zS_iload_n (zdec eX0_become 54 rfl) rfl ?_
    refine zS_iconst (zdec eX0_become 55 rfl) rfl ?_
    refine zS_icmp_ge (tgt := 134) (zdec eX0_become 56 rfl) rfl (fun cz => absurd cz (by omega)) (fun cz => ?_)
    refine zS_aload_n (zdec eX0_become 57 rfl) rfl rfl ?_
    refine zS_getref (i := 36) (zdec eX0_become 58 rfl) kF_X0_17 ⟨by decide, rfl⟩ rfl rfl rfl rfl rfl ?_
    refine zS_iload_n (zdec eX0_become 59 rfl) rfl ?_
    refine zS_aaload1 (i := 4) (zdec eX0_become 60 rfl) (Or.inr (Or.inl rfl)) ⟨by decide, rfl⟩ rfl rfl rfl (by omega) (by omega) ?_
    refine zS_iconst (zdec eX0_become 61 rfl) rfl ?_
    refine zS_aload_n (zdec eX0_become 62 rfl) rfl rfl ?_
    refine zS_getref (i := 26) (zdec eX0_become 63 rfl) kF_X0_17 ⟨by decide, rfl⟩ rfl rfl rfl rfl rfl ?_
    refine zS_iload_n (zdec eX0_become 64 rfl) rfl ?_
    refine zS_aaload1 (i := 1) (zdec eX0_become 65 rfl) (Or.inr (Or.inl rfl)) ⟨by decide, rfl⟩ rfl rfl rfl (by omega) (by omega) ?_
    refine zS_iconst (zdec eX0_become 66 rfl) rfl ?_
    refine zS_bipush (zdec eX0_become 67 rfl) rfl rfl ?_
    refine zS_copyI (zdec eX0_become 68 rfl) kM_X0_63 rfl (by omega) (zrow_47 a1 (by omega)) (zrow_18 a1 (by omega)) (by decide) (by decide) (by decide) (by decide) (by decide) ?_
    refine zS_iinc (zdec eX0_become 69 rfl) rfl rfl ⟨by omega, by omega⟩ ?_
    refine zS_goto (tgt := 104) (zdec eX0_become 70 rfl) rfl ?_
    refine ih (e + 1) _ (by omega) (by omega) (fun j j0 j1 => by rw [zcpy_k (by omega)]; exact i1 j j0 j1) (fun j j0 j1 => by rw [zcpy_k (by omega)]; exact i2 j j0 j1) (fun k w k0 k1 w0 w1 => ?_) (fun k j hn => by rw [zcpy_k (by omega)]; exact i4 k j hn)
    by_cases u : k = e
    · subst u
      show (if 18 + k = 18 + k ∧ 0 ≤ w ∧ w < 0 + 7 then _ else _) = _
      rw [if_pos ⟨rfl, w0, by omega⟩, i4 _ _ (by omega), show (0 : Int) + (w - 0) = w by omega]
    · rw [zcpy_k (by omega)]; exact i3 k w k0 (by omega) w0 w1
theorem c_become_15_44 {d : Nat} {h : zH} {D : Dk} (hd : 1 ≤ d) (RD : DC h 44 D) : zMV d mX0_become [zA 15, zA 44] h (fun h' => DC h' 15 D ∧ Fr (fun k _ => 15 ≤ k ∧ k ≤ 25) h h') := by
  have K : zS mX0_become (zr d) 104 [zA 15, zA 44, zI 0] [] TT (zcpy (zset (zset (zset (zset (zset (zset (zset (zset (zset (zset (zset h 15 0 (h 44 0)) 15 1 (h 44 1)) 15 2 (h 44 2)) 15 3 (h 44 3)) 15 4 (h 44 4)) 15 5 (h 44 5)) 15 6 (h 44 6)) 15 7 (h 44 7)) 15 8 (h 44 8)) 15 9 (h 44 9)) 15 10 (h 44 10)) 45 0 16 0 4) (zAnV (fun h' => DC h' 15 D ∧ Fr (fun k _ => 15 ≤ k ∧ k ≤ 25) h h')) := by
    refine L_become_15_44 hd RD 5 0 _ (by omega) (by omega) (fun j j0 j1 => ?_) (fun j j0 j1 => ?_) (fun k w k0 k1 => by omega) (fun k j hn => ?_)
    · rw [zcpy_k (by decide)]
      rcases (show j = 0 ∨ j = 1 ∨ j = 2 ∨ j = 3 ∨ j = 4 ∨ j = 5 ∨ j = 6 ∨ j = 7 ∨ j = 8 ∨ j = 9 ∨ j = 10 by omega) with rfl | rfl | rfl | rfl | rfl | rfl | rfl | rfl | rfl | rfl | rfl <;> rfl
    · show (if (16 : Int) = 16 ∧ 0 ≤ j ∧ j < 0 + 4 then _ else _) = _
      rw [if_pos ⟨rfl, j0, by omega⟩, show (0 : Int) + (j - 0) = j by omega]
      exact congrFun (zset_k (by decide)) _ |>.trans (rfl)
    · rw [zcpy_k (by omega)]
      exact ((((((((((((Fr.rf.set (by omega)).set (by omega)).set (by omega)).set (by omega)).set (by omega)).set (by omega)).set (by omega)).set (by omega)).set (by omega)).set (by omega)).set (by omega)) : Fr (fun k _ => 15 ≤ k ∧ k ≤ 25) h _) k j hn
  refine zmet rfl rfl rfl ?_
  refine zS_aload_n (zdec eX0_become 0 rfl) rfl rfl ?_
  refine zS_aload_n (zdec eX0_become 1 rfl) rfl rfl ?_
  refine zS_getfieldE (x := 0) (v := (h 44 0)) (zdec eX0_become 2 rfl) kF_X0_29 ⟨by decide, rfl⟩ rfl rfl rfl rfl ?_
  refine zS_putfield (x := 0) (zdec eX0_become 3 rfl) kF_X0_29 (Or.inl kf0_0) ⟨by decide, rfl⟩ rfl rfl rfl (Or.inl (fun q => by cases q)) ?_
  refine zS_aload_n (zdec eX0_become 4 rfl) rfl rfl ?_
  refine zS_aload_n (zdec eX0_become 5 rfl) rfl rfl ?_
  refine zS_getfieldE (x := 1) (v := (h 44 1)) (zdec eX0_become 6 rfl) kF_X0_33 ⟨by decide, rfl⟩ rfl rfl rfl (congrFun (zset_k (by decide)) _) ?_
  refine zS_putfield (x := 1) (zdec eX0_become 7 rfl) kF_X0_33 (Or.inl kf0_1) ⟨by decide, rfl⟩ rfl rfl rfl (Or.inl (fun q => by cases q)) ?_
  refine zS_aload_n (zdec eX0_become 8 rfl) rfl rfl ?_
  refine zS_aload_n (zdec eX0_become 9 rfl) rfl rfl ?_
  refine zS_getfieldE (x := 2) (v := (h 44 2)) (zdec eX0_become 10 rfl) kF_X0_36 ⟨by decide, rfl⟩ rfl rfl rfl ((congrFun (zset_k (by decide)) _).trans (congrFun (zset_k (by decide)) _)) ?_
  refine zS_putfield (x := 2) (zdec eX0_become 11 rfl) kF_X0_36 (Or.inl kf0_2) ⟨by decide, rfl⟩ rfl rfl rfl (Or.inl (fun q => by cases q)) ?_
  refine zS_aload_n (zdec eX0_become 12 rfl) rfl rfl ?_
  refine zS_aload_n (zdec eX0_become 13 rfl) rfl rfl ?_
  refine zS_getfieldE (x := 3) (v := (h 44 3)) (zdec eX0_become 14 rfl) kF_X0_39 ⟨by decide, rfl⟩ rfl rfl rfl ((congrFun (zset_k (by decide)) _).trans ((congrFun (zset_k (by decide)) _).trans (congrFun (zset_k (by decide)) _))) ?_
  refine zS_putfield (x := 3) (zdec eX0_become 15 rfl) kF_X0_39 (Or.inl kf0_3) ⟨by decide, rfl⟩ rfl rfl rfl (Or.inl (fun q => by cases q)) ?_
  refine zS_aload_n (zdec eX0_become 16 rfl) rfl rfl ?_
  refine zS_aload_n (zdec eX0_become 17 rfl) rfl rfl ?_
  refine zS_getfieldE (x := 4) (v := (h 44 4)) (zdec eX0_become 18 rfl) kF_X0_42 ⟨by decide, rfl⟩ rfl rfl rfl ((congrFun (zset_k (by decide)) _).trans ((congrFun (zset_k (by decide)) _).trans ((congrFun (zset_k (by decide)) _).trans (congrFun (zset_k (by decide)) _)))) ?_
  refine zS_putfield (x := 4) (zdec eX0_become 19 rfl) kF_X0_42 (Or.inl kf0_4) ⟨by decide, rfl⟩ rfl rfl rfl (Or.inl (fun q => by cases q)) ?_
  refine zS_aload_n (zdec eX0_become 20 rfl) rfl rfl ?_
  refine zS_aload_n (zdec eX0_become 21 rfl) rfl rfl ?_
  refine zS_getfieldE (x := 5) (v := (h 44 5)) (zdec eX0_become 22 rfl) kF_X0_45 ⟨by decide, rfl⟩ rfl rfl rfl ((congrFun (zset_k (by decide)) _).trans ((congrFun (zset_k (by decide)) _).trans ((congrFun (zset_k (by decide)) _).trans ((congrFun (zset_k (by decide)) _).trans (congrFun (zset_k (by decide)) _))))) ?_
  refine zS_putfield (x := 5) (zdec eX0_become 23 rfl) kF_X0_45 (Or.inl kf0_5) ⟨by decide, rfl⟩ rfl rfl rfl (Or.inl (fun q => by cases q)) ?_
  refine zS_aload_n (zdec eX0_become 24 rfl) rfl rfl ?_
  refine zS_aload_n (zdec eX0_become 25 rfl) rfl rfl ?_
  refine zS_getfieldE (x := 6) (v := (h 44 6)) (zdec eX0_become 26 rfl) kF_X0_48 ⟨by decide, rfl⟩ rfl rfl rfl ((congrFun (zset_k (by decide)) _).trans ((congrFun (zset_k (by decide)) _).trans ((congrFun (zset_k (by decide)) _).trans ((congrFun (zset_k (by decide)) _).trans ((congrFun (zset_k (by decide)) _).trans (congrFun (zset_k (by decide)) _)))))) ?_
  refine zS_putfield (x := 6) (zdec eX0_become 27 rfl) kF_X0_48 (Or.inl kf0_6) ⟨by decide, rfl⟩ rfl rfl rfl (Or.inl (fun q => by cases q)) ?_
  refine zS_aload_n (zdec eX0_become 28 rfl) rfl rfl ?_
  refine zS_aload_n (zdec eX0_become 29 rfl) rfl rfl ?_
  refine zS_getfieldE (x := 7) (v := (h 44 7)) (zdec eX0_become 30 rfl) kF_X0_51 ⟨by decide, rfl⟩ rfl rfl rfl ((congrFun (zset_k (by decide)) _).trans ((congrFun (zset_k (by decide)) _).trans ((congrFun (zset_k (by decide)) _).trans ((congrFun (zset_k (by decide)) _).trans ((congrFun (zset_k (by decide)) _).trans ((congrFun (zset_k (by decide)) _).trans (congrFun (zset_k (by decide)) _))))))) ?_
  refine zS_putfield (x := 7) (zdec eX0_become 31 rfl) kF_X0_51 (Or.inl kf0_7) ⟨by decide, rfl⟩ rfl rfl rfl (Or.inl (fun q => by cases q)) ?_
  refine zS_aload_n (zdec eX0_become 32 rfl) rfl rfl ?_
  refine zS_aload_n (zdec eX0_become 33 rfl) rfl rfl ?_
  refine zS_getfieldE (x := 8) (v := (h 44 8)) (zdec eX0_become 34 rfl) kF_X0_54 ⟨by decide, rfl⟩ rfl rfl rfl ((congrFun (zset_k (by decide)) _).trans ((congrFun (zset_k (by decide)) _).trans ((congrFun (zset_k (by decide)) _).trans ((congrFun (zset_k (by decide)) _).trans ((congrFun (zset_k (by decide)) _).trans ((congrFun (zset_k (by decide)) _).trans ((congrFun (zset_k (by decide)) _).trans (congrFun (zset_k (by decide)) _)))))))) ?_
  refine zS_putfield (x := 8) (zdec eX0_become 35 rfl) kF_X0_54 (Or.inl kf0_8) ⟨by decide, rfl⟩ rfl rfl rfl (Or.inl (fun q => by cases q)) ?_
  refine zS_aload_n (zdec eX0_become 36 rfl) rfl rfl ?_
  refine zS_aload_n (zdec eX0_become 37 rfl) rfl rfl ?_
  refine zS_getfieldE (x := 9) (v := (h 44 9)) (zdec eX0_become 38 rfl) kF_X0_57 ⟨by decide, rfl⟩ rfl rfl rfl ((congrFun (zset_k (by decide)) _).trans ((congrFun (zset_k (by decide)) _).trans ((congrFun (zset_k (by decide)) _).trans ((congrFun (zset_k (by decide)) _).trans ((congrFun (zset_k (by decide)) _).trans ((congrFun (zset_k (by decide)) _).trans ((congrFun (zset_k (by decide)) _).trans ((congrFun (zset_k (by decide)) _).trans (congrFun (zset_k (by decide)) _))))))))) ?_
  refine zS_putfield (x := 9) (zdec eX0_become 39 rfl) kF_X0_57 (Or.inl kf0_9) ⟨by decide, rfl⟩ rfl rfl rfl (Or.inl (fun q => by cases q)) ?_
  refine zS_aload_n (zdec eX0_become 40 rfl) rfl rfl ?_
  refine zS_aload_n (zdec eX0_become 41 rfl) rfl rfl ?_
  refine zS_getfieldE (x := 10) (v := (h 44 10)) (zdec eX0_become 42 rfl) kF_X0_60 ⟨by decide, rfl⟩ rfl rfl rfl ((congrFun (zset_k (by decide)) _).trans ((congrFun (zset_k (by decide)) _).trans ((congrFun (zset_k (by decide)) _).trans ((congrFun (zset_k (by decide)) _).trans ((congrFun (zset_k (by decide)) _).trans ((congrFun (zset_k (by decide)) _).trans ((congrFun (zset_k (by decide)) _).trans ((congrFun (zset_k (by decide)) _).trans ((congrFun (zset_k (by decide)) _).trans (congrFun (zset_k (by decide)) _)))))))))) ?_
  refine zS_putfield (x := 10) (zdec eX0_become 43 rfl) kF_X0_60 (Or.inl kf0_10) ⟨by decide, rfl⟩ rfl rfl rfl (Or.inl (fun q => by cases q)) ?_
  refine zS_aload_n (zdec eX0_become 44 rfl) rfl rfl ?_
  refine zS_getref (i := 35) (zdec eX0_become 45 rfl) kF_X0_9 ⟨by decide, rfl⟩ rfl rfl rfl rfl rfl ?_
  refine zS_iconst (zdec eX0_become 46 rfl) rfl ?_
  refine zS_aload_n (zdec eX0_become 47 rfl) rfl rfl ?_
  refine zS_getref (i := 25) (zdec eX0_become 48 rfl) kF_X0_9 ⟨by decide, rfl⟩ rfl rfl rfl rfl rfl ?_
  refine zS_iconst (zdec eX0_become 49 rfl) rfl ?_
  refine zS_iconst (zdec eX0_become 50 rfl) rfl ?_
  refine zS_copyI (zdec eX0_become 51 rfl) kM_X0_63 rfl (by omega) ⟨by decide, rfl⟩ ⟨by decide, rfl⟩ (by decide) (by decide) (by decide) (by decide) (by decide) ?_
  refine zS_iconst (zdec eX0_become 52 rfl) rfl ?_
  refine zS_istore_n (zdec eX0_become 53 rfl) rfl ?_
  exact K
theorem L_become_15_55 {d : Nat} {h : zH} {D : Dk} (hd : 1 ≤ d) (RD : DC h 55 D) : ∀ (n : Nat) (e : Int) (h1 : zH), 0 ≤ e → e + n = 5 → (∀ j, 0 ≤ j → j ≤ 10 → h1 15 j = h 55 j) → (∀ j, 0 ≤ j → j < 4 → h1 16 j = h 56 j) → (∀ k w, 0 ≤ k → k < e → 0 ≤ w → w < 7 → h1 (18 + k) w = h (58 + k) w) → Fr (fun k _ => 15 ≤ k ∧ k ≤ 25) h h1 → zS mX0_become (zr d) 104 [zA 15, zA 55, zI e] [] TT h1 (zAnV (fun h' => DC h' 15 D ∧ Fr (fun k _ => 15 ≤ k ∧ k ≤ 25) h h')) := by
  intro n
  induction n with
  | zero =>
    intro e h1 a1 a2 i1 i2 i3 i4
    refine zS_iload_n (zdec eX0_become 54 rfl) rfl ?_
    refine zS_iconst (zdec eX0_become 55 rfl) rfl ?_
    refine zS_icmp_ge (tgt := 134) (zdec eX0_become 56 rfl) rfl (fun cz => ?_) (fun cz => absurd (by omega) cz)
    refine zS_aload_n (zdec eX0_become 71 rfl) rfl rfl ?_
    refine zS_getref (i := 42) (zdec eX0_become 72 rfl) kF_X0_20 ⟨by decide, rfl⟩ rfl rfl rfl rfl rfl ?_
    refine zS_iconst (zdec eX0_become 73 rfl) rfl ?_
    refine zS_aload_n (zdec eX0_become 74 rfl) rfl rfl ?_
    refine zS_getref (i := 27) (zdec eX0_become 75 rfl) kF_X0_20 ⟨by decide, rfl⟩ rfl rfl rfl rfl rfl ?_
    refine zS_iconst (zdec eX0_become 76 rfl) rfl ?_
    refine zS_bipush (zdec eX0_become 77 rfl) rfl rfl ?_
    refine zS_copyI (zdec eX0_become 78 rfl) kM_X0_63 rfl (by omega) ⟨by decide, rfl⟩ ⟨by decide, rfl⟩ (by decide) (by decide) (by decide) (by decide) (by decide) ?_
    refine zS_aload_n (zdec eX0_become 79 rfl) rfl rfl ?_
    refine zS_getref (i := 43) (zdec eX0_become 80 rfl) kF_X0_23 ⟨by decide, rfl⟩ rfl rfl rfl rfl rfl ?_
    refine zS_iconst (zdec eX0_become 81 rfl) rfl ?_
    refine zS_aload_n (zdec eX0_become 82 rfl) rfl rfl ?_
    refine zS_getref (i := 28) (zdec eX0_become 83 rfl) kF_X0_23 ⟨by decide, rfl⟩ rfl rfl rfl rfl rfl ?_
    refine zS_iconst (zdec eX0_become 84 rfl) rfl ?_
    refine zS_bipush (zdec eX0_become 85 rfl) rfl rfl ?_
    refine zS_copyI (zdec eX0_become 86 rfl) kM_X0_63 rfl (by omega) ⟨by decide, rfl⟩ ⟨by decide, rfl⟩ (by decide) (by decide) (by decide) (by decide) (by decide) ?_
    refine zS_aload_n (zdec eX0_become 87 rfl) rfl rfl ?_
    refine zS_getref (i := 44) (zdec eX0_become 88 rfl) kF_X0_26 ⟨by decide, rfl⟩ rfl rfl rfl rfl rfl ?_
    refine zS_iconst (zdec eX0_become 89 rfl) rfl ?_
    refine zS_aload_n (zdec eX0_become 90 rfl) rfl rfl ?_
    refine zS_getref (i := 29) (zdec eX0_become 91 rfl) kF_X0_26 ⟨by decide, rfl⟩ rfl rfl rfl rfl rfl ?_
    refine zS_iconst (zdec eX0_become 92 rfl) rfl ?_
    refine zS_bipush (zdec eX0_become 93 rfl) rfl rfl ?_
    refine zS_copyI (zdec eX0_become 94 rfl) kM_X0_63 rfl (by omega) ⟨by decide, rfl⟩ ⟨by decide, rfl⟩ (by decide) (by decide) (by decide) (by decide) (by decide) ?_
    have g : ∀ k j, k < 23 → (zcpy (zcpy (zcpy h1 63 0 23 0 6) 64 0 24 0 6) 65 0 25 0 20) k j = h1 k j := fun k j z => by rw [zcpy_k (by omega), zcpy_k (by omega), zcpy_k (by omega)]
    have f8 : ∀ i, 0 ≤ i → i < 6 → (zcpy (zcpy (zcpy h1 63 0 23 0 6) 64 0 24 0 6) 65 0 25 0 20) 23 i = h 63 i := fun i i0 i1 => by
        rw [zcpy_k (by decide), zcpy_k (by decide)]
        show (if (23 : Int) = 23 ∧ 0 ≤ i ∧ i < 0 + 6 then _ else _) = _
        rw [if_pos ⟨rfl, i0, by omega⟩, i4 _ _ (by omega), show (0 : Int) + (i - 0) = i by omega]
    have f9 : ∀ i, 0 ≤ i → i < 6 → (zcpy (zcpy (zcpy h1 63 0 23 0 6) 64 0 24 0 6) 65 0 25 0 20) 24 i = h 64 i := fun i i0 i1 => by
        rw [zcpy_k (by decide)]
        show (if (24 : Int) = 24 ∧ 0 ≤ i ∧ i < 0 + 6 then _ else _) = _
        rw [if_pos ⟨rfl, i0, by omega⟩, zcpy_k (by decide), i4 _ _ (by omega), show (0 : Int) + (i - 0) = i by omega]
    have f10 : ∀ i, 0 ≤ i → i < 20 → (zcpy (zcpy (zcpy h1 63 0 23 0 6) 64 0 24 0 6) 65 0 25 0 20) 25 i = h 65 i := fun i i0 i1 => by
        show (if (25 : Int) = 25 ∧ 0 ≤ i ∧ i < 0 + 20 then _ else _) = _
        rw [if_pos ⟨rfl, i0, by omega⟩, zcpy_k (by decide), zcpy_k (by decide), i4 _ _ (by omega), show (0 : Int) + (i - 0) = i by omega]
    exact zlMV (zdec eX0_become 95 rfl) rfl ⟨⟨fun j j0 j1 => (g _ _ (by omega)).trans ((i1 j j0 j1).trans (RD.1 j j0 j1)), fun s s0 s1 s2 => (g _ _ (by omega)).trans ((i2 s s0 s1).trans (RD.2.1 s s0 s1 s2)), fun k w k0 k1 k2 w0 w1 => (g _ _ (by omega)).trans ((i3 k w k0 (by omega) w0 w1).trans (RD.2.2.1 k w k0 k1 k2 w0 w1)), fun i i0 i1 i2 => ⟨(f8 i i0 i1).trans (RD.2.2.2.1 i i0 i1 i2).1, (f9 i i0 i1).trans (RD.2.2.2.1 i i0 i1 i2).2⟩, fun i i0 i1 i2 => (f10 i i0 i1).trans (RD.2.2.2.2 i i0 i1 i2)⟩, fun k j hn => by rw [zcpy_k (by omega), zcpy_k (by omega), zcpy_k (by omega)]; exact i4 k j hn⟩
  | succ n ih =>
    intro e h1 a1 a2 i1 i2 i3 i4
    refine zS_iload_n (zdec eX0_become 54 rfl) rfl ?_
    refine zS_iconst (zdec eX0_become 55 rfl) rfl ?_
    refine zS_icmp_ge (tgt := 134) (zdec eX0_become 56 rfl) rfl (fun cz => absurd cz (by omega)) (fun cz => ?_)
    refine zS_aload_n (zdec eX0_become 57 rfl) rfl rfl ?_
    refine zS_getref (i := 41) (zdec eX0_become 58 rfl) kF_X0_17 ⟨by decide, rfl⟩ rfl rfl rfl rfl rfl ?_
    refine zS_iload_n (zdec eX0_become 59 rfl) rfl ?_
    refine zS_aaload1 (i := 5) (zdec eX0_become 60 rfl) (Or.inr (Or.inl rfl)) ⟨by decide, rfl⟩ rfl rfl rfl (by omega) (by omega) ?_
    refine zS_iconst (zdec eX0_become 61 rfl) rfl ?_
    refine zS_aload_n (zdec eX0_become 62 rfl) rfl rfl ?_
    refine zS_getref (i := 26) (zdec eX0_become 63 rfl) kF_X0_17 ⟨by decide, rfl⟩ rfl rfl rfl rfl rfl ?_
    refine zS_iload_n (zdec eX0_become 64 rfl) rfl ?_
    refine zS_aaload1 (i := 1) (zdec eX0_become 65 rfl) (Or.inr (Or.inl rfl)) ⟨by decide, rfl⟩ rfl rfl rfl (by omega) (by omega) ?_
    refine zS_iconst (zdec eX0_become 66 rfl) rfl ?_
    refine zS_bipush (zdec eX0_become 67 rfl) rfl rfl ?_
    refine zS_copyI (zdec eX0_become 68 rfl) kM_X0_63 rfl (by omega) (zrow_58 a1 (by omega)) (zrow_18 a1 (by omega)) (by decide) (by decide) (by decide) (by decide) (by decide) ?_
    refine zS_iinc (zdec eX0_become 69 rfl) rfl rfl ⟨by omega, by omega⟩ ?_
    refine zS_goto (tgt := 104) (zdec eX0_become 70 rfl) rfl ?_
    refine ih (e + 1) _ (by omega) (by omega) (fun j j0 j1 => by rw [zcpy_k (by omega)]; exact i1 j j0 j1) (fun j j0 j1 => by rw [zcpy_k (by omega)]; exact i2 j j0 j1) (fun k w k0 k1 w0 w1 => ?_) (fun k j hn => by rw [zcpy_k (by omega)]; exact i4 k j hn)
    by_cases u : k = e
    · subst u
      show (if 18 + k = 18 + k ∧ 0 ≤ w ∧ w < 0 + 7 then _ else _) = _
      rw [if_pos ⟨rfl, w0, by omega⟩, i4 _ _ (by omega), show (0 : Int) + (w - 0) = w by omega]
    · rw [zcpy_k (by omega)]; exact i3 k w k0 (by omega) w0 w1
theorem c_become_15_55 {d : Nat} {h : zH} {D : Dk} (hd : 1 ≤ d) (RD : DC h 55 D) : zMV d mX0_become [zA 15, zA 55] h (fun h' => DC h' 15 D ∧ Fr (fun k _ => 15 ≤ k ∧ k ≤ 25) h h') := by
  have K : zS mX0_become (zr d) 104 [zA 15, zA 55, zI 0] [] TT (zcpy (zset (zset (zset (zset (zset (zset (zset (zset (zset (zset (zset h 15 0 (h 55 0)) 15 1 (h 55 1)) 15 2 (h 55 2)) 15 3 (h 55 3)) 15 4 (h 55 4)) 15 5 (h 55 5)) 15 6 (h 55 6)) 15 7 (h 55 7)) 15 8 (h 55 8)) 15 9 (h 55 9)) 15 10 (h 55 10)) 56 0 16 0 4) (zAnV (fun h' => DC h' 15 D ∧ Fr (fun k _ => 15 ≤ k ∧ k ≤ 25) h h')) := by
    refine L_become_15_55 hd RD 5 0 _ (by omega) (by omega) (fun j j0 j1 => ?_) (fun j j0 j1 => ?_) (fun k w k0 k1 => by omega) (fun k j hn => ?_)
    · rw [zcpy_k (by decide)]
      rcases (show j = 0 ∨ j = 1 ∨ j = 2 ∨ j = 3 ∨ j = 4 ∨ j = 5 ∨ j = 6 ∨ j = 7 ∨ j = 8 ∨ j = 9 ∨ j = 10 by omega) with rfl | rfl | rfl | rfl | rfl | rfl | rfl | rfl | rfl | rfl | rfl <;> rfl
    · show (if (16 : Int) = 16 ∧ 0 ≤ j ∧ j < 0 + 4 then _ else _) = _
      rw [if_pos ⟨rfl, j0, by omega⟩, show (0 : Int) + (j - 0) = j by omega]
      exact congrFun (zset_k (by decide)) _ |>.trans (rfl)
    · rw [zcpy_k (by omega)]
      exact ((((((((((((Fr.rf.set (by omega)).set (by omega)).set (by omega)).set (by omega)).set (by omega)).set (by omega)).set (by omega)).set (by omega)).set (by omega)).set (by omega)).set (by omega)) : Fr (fun k _ => 15 ≤ k ∧ k ≤ 25) h _) k j hn
  refine zmet rfl rfl rfl ?_
  refine zS_aload_n (zdec eX0_become 0 rfl) rfl rfl ?_
  refine zS_aload_n (zdec eX0_become 1 rfl) rfl rfl ?_
  refine zS_getfieldE (x := 0) (v := (h 55 0)) (zdec eX0_become 2 rfl) kF_X0_29 ⟨by decide, rfl⟩ rfl rfl rfl rfl ?_
  refine zS_putfield (x := 0) (zdec eX0_become 3 rfl) kF_X0_29 (Or.inl kf0_0) ⟨by decide, rfl⟩ rfl rfl rfl (Or.inl (fun q => by cases q)) ?_
  refine zS_aload_n (zdec eX0_become 4 rfl) rfl rfl ?_
  refine zS_aload_n (zdec eX0_become 5 rfl) rfl rfl ?_
  refine zS_getfieldE (x := 1) (v := (h 55 1)) (zdec eX0_become 6 rfl) kF_X0_33 ⟨by decide, rfl⟩ rfl rfl rfl (congrFun (zset_k (by decide)) _) ?_
  refine zS_putfield (x := 1) (zdec eX0_become 7 rfl) kF_X0_33 (Or.inl kf0_1) ⟨by decide, rfl⟩ rfl rfl rfl (Or.inl (fun q => by cases q)) ?_
  refine zS_aload_n (zdec eX0_become 8 rfl) rfl rfl ?_
  refine zS_aload_n (zdec eX0_become 9 rfl) rfl rfl ?_
  refine zS_getfieldE (x := 2) (v := (h 55 2)) (zdec eX0_become 10 rfl) kF_X0_36 ⟨by decide, rfl⟩ rfl rfl rfl ((congrFun (zset_k (by decide)) _).trans (congrFun (zset_k (by decide)) _)) ?_
  refine zS_putfield (x := 2) (zdec eX0_become 11 rfl) kF_X0_36 (Or.inl kf0_2) ⟨by decide, rfl⟩ rfl rfl rfl (Or.inl (fun q => by cases q)) ?_
  refine zS_aload_n (zdec eX0_become 12 rfl) rfl rfl ?_
  refine zS_aload_n (zdec eX0_become 13 rfl) rfl rfl ?_
  refine zS_getfieldE (x := 3) (v := (h 55 3)) (zdec eX0_become 14 rfl) kF_X0_39 ⟨by decide, rfl⟩ rfl rfl rfl ((congrFun (zset_k (by decide)) _).trans ((congrFun (zset_k (by decide)) _).trans (congrFun (zset_k (by decide)) _))) ?_
  refine zS_putfield (x := 3) (zdec eX0_become 15 rfl) kF_X0_39 (Or.inl kf0_3) ⟨by decide, rfl⟩ rfl rfl rfl (Or.inl (fun q => by cases q)) ?_
  refine zS_aload_n (zdec eX0_become 16 rfl) rfl rfl ?_
  refine zS_aload_n (zdec eX0_become 17 rfl) rfl rfl ?_
  refine zS_getfieldE (x := 4) (v := (h 55 4)) (zdec eX0_become 18 rfl) kF_X0_42 ⟨by decide, rfl⟩ rfl rfl rfl ((congrFun (zset_k (by decide)) _).trans ((congrFun (zset_k (by decide)) _).trans ((congrFun (zset_k (by decide)) _).trans (congrFun (zset_k (by decide)) _)))) ?_
  refine zS_putfield (x := 4) (zdec eX0_become 19 rfl) kF_X0_42 (Or.inl kf0_4) ⟨by decide, rfl⟩ rfl rfl rfl (Or.inl (fun q => by cases q)) ?_
  refine zS_aload_n (zdec eX0_become 20 rfl) rfl rfl ?_
  refine zS_aload_n (zdec eX0_become 21 rfl) rfl rfl ?_
  refine zS_getfieldE (x := 5) (v := (h 55 5)) (zdec eX0_become 22 rfl) kF_X0_45 ⟨by decide, rfl⟩ rfl rfl rfl ((congrFun (zset_k (by decide)) _).trans ((congrFun (zset_k (by decide)) _).trans ((congrFun (zset_k (by decide)) _).trans ((congrFun (zset_k (by decide)) _).trans (congrFun (zset_k (by decide)) _))))) ?_
  refine zS_putfield (x := 5) (zdec eX0_become 23 rfl) kF_X0_45 (Or.inl kf0_5) ⟨by decide, rfl⟩ rfl rfl rfl (Or.inl (fun q => by cases q)) ?_
  refine zS_aload_n (zdec eX0_become 24 rfl) rfl rfl ?_
  refine zS_aload_n (zdec eX0_become 25 rfl) rfl rfl ?_
  refine zS_getfieldE (x := 6) (v := (h 55 6)) (zdec eX0_become 26 rfl) kF_X0_48 ⟨by decide, rfl⟩ rfl rfl rfl ((congrFun (zset_k (by decide)) _).trans ((congrFun (zset_k (by decide)) _).trans ((congrFun (zset_k (by decide)) _).trans ((congrFun (zset_k (by decide)) _).trans ((congrFun (zset_k (by decide)) _).trans (congrFun (zset_k (by decide)) _)))))) ?_
  refine zS_putfield (x := 6) (zdec eX0_become 27 rfl) kF_X0_48 (Or.inl kf0_6) ⟨by decide, rfl⟩ rfl rfl rfl (Or.inl (fun q => by cases q)) ?_
  refine zS_aload_n (zdec eX0_become 28 rfl) rfl rfl ?_
  refine zS_aload_n (zdec eX0_become 29 rfl) rfl rfl ?_
  refine zS_getfieldE (x := 7) (v := (h 55 7)) (zdec eX0_become 30 rfl) kF_X0_51 ⟨by decide, rfl⟩ rfl rfl rfl ((congrFun (zset_k (by decide)) _).trans ((congrFun (zset_k (by decide)) _).trans ((congrFun (zset_k (by decide)) _).trans ((congrFun (zset_k (by decide)) _).trans ((congrFun (zset_k (by decide)) _).trans ((congrFun (zset_k (by decide)) _).trans (congrFun (zset_k (by decide)) _))))))) ?_
  refine zS_putfield (x := 7) (zdec eX0_become 31 rfl) kF_X0_51 (Or.inl kf0_7) ⟨by decide, rfl⟩ rfl rfl rfl (Or.inl (fun q => by cases q)) ?_
  refine zS_aload_n (zdec eX0_become 32 rfl) rfl rfl ?_
  refine zS_aload_n (zdec eX0_become 33 rfl) rfl rfl ?_
  refine zS_getfieldE (x := 8) (v := (h 55 8)) (zdec eX0_become 34 rfl) kF_X0_54 ⟨by decide, rfl⟩ rfl rfl rfl ((congrFun (zset_k (by decide)) _).trans ((congrFun (zset_k (by decide)) _).trans ((congrFun (zset_k (by decide)) _).trans ((congrFun (zset_k (by decide)) _).trans ((congrFun (zset_k (by decide)) _).trans ((congrFun (zset_k (by decide)) _).trans ((congrFun (zset_k (by decide)) _).trans (congrFun (zset_k (by decide)) _)))))))) ?_
  refine zS_putfield (x := 8) (zdec eX0_become 35 rfl) kF_X0_54 (Or.inl kf0_8) ⟨by decide, rfl⟩ rfl rfl rfl (Or.inl (fun q => by cases q)) ?_
  refine zS_aload_n (zdec eX0_become 36 rfl) rfl rfl ?_
  refine zS_aload_n (zdec eX0_become 37 rfl) rfl rfl ?_
  refine zS_getfieldE (x := 9) (v := (h 55 9)) (zdec eX0_become 38 rfl) kF_X0_57 ⟨by decide, rfl⟩ rfl rfl rfl ((congrFun (zset_k (by decide)) _).trans ((congrFun (zset_k (by decide)) _).trans ((congrFun (zset_k (by decide)) _).trans ((congrFun (zset_k (by decide)) _).trans ((congrFun (zset_k (by decide)) _).trans ((congrFun (zset_k (by decide)) _).trans ((congrFun (zset_k (by decide)) _).trans ((congrFun (zset_k (by decide)) _).trans (congrFun (zset_k (by decide)) _))))))))) ?_
  refine zS_putfield (x := 9) (zdec eX0_become 39 rfl) kF_X0_57 (Or.inl kf0_9) ⟨by decide, rfl⟩ rfl rfl rfl (Or.inl (fun q => by cases q)) ?_
  refine zS_aload_n (zdec eX0_become 40 rfl) rfl rfl ?_
  refine zS_aload_n (zdec eX0_become 41 rfl) rfl rfl ?_
  refine zS_getfieldE (x := 10) (v := (h 55 10)) (zdec eX0_become 42 rfl) kF_X0_60 ⟨by decide, rfl⟩ rfl rfl rfl ((congrFun (zset_k (by decide)) _).trans ((congrFun (zset_k (by decide)) _).trans ((congrFun (zset_k (by decide)) _).trans ((congrFun (zset_k (by decide)) _).trans ((congrFun (zset_k (by decide)) _).trans ((congrFun (zset_k (by decide)) _).trans ((congrFun (zset_k (by decide)) _).trans ((congrFun (zset_k (by decide)) _).trans ((congrFun (zset_k (by decide)) _).trans (congrFun (zset_k (by decide)) _)))))))))) ?_
  refine zS_putfield (x := 10) (zdec eX0_become 43 rfl) kF_X0_60 (Or.inl kf0_10) ⟨by decide, rfl⟩ rfl rfl rfl (Or.inl (fun q => by cases q)) ?_
  refine zS_aload_n (zdec eX0_become 44 rfl) rfl rfl ?_
  refine zS_getref (i := 40) (zdec eX0_become 45 rfl) kF_X0_9 ⟨by decide, rfl⟩ rfl rfl rfl rfl rfl ?_
  refine zS_iconst (zdec eX0_become 46 rfl) rfl ?_
  refine zS_aload_n (zdec eX0_become 47 rfl) rfl rfl ?_
  refine zS_getref (i := 25) (zdec eX0_become 48 rfl) kF_X0_9 ⟨by decide, rfl⟩ rfl rfl rfl rfl rfl ?_
  refine zS_iconst (zdec eX0_become 49 rfl) rfl ?_
  refine zS_iconst (zdec eX0_become 50 rfl) rfl ?_
  refine zS_copyI (zdec eX0_become 51 rfl) kM_X0_63 rfl (by omega) ⟨by decide, rfl⟩ ⟨by decide, rfl⟩ (by decide) (by decide) (by decide) (by decide) (by decide) ?_
  refine zS_iconst (zdec eX0_become 52 rfl) rfl ?_
  refine zS_istore_n (zdec eX0_become 53 rfl) rfl ?_
  exact K
theorem L_become_33_15 {d : Nat} {h : zH} {D : Dk} (hd : 1 ≤ d) (RD : DC h 15 D) : ∀ (n : Nat) (e : Int) (h1 : zH), 0 ≤ e → e + n = 5 → (∀ j, 0 ≤ j → j ≤ 10 → h1 33 j = h 15 j) → (∀ j, 0 ≤ j → j < 4 → h1 34 j = h 16 j) → (∀ k w, 0 ≤ k → k < e → 0 ≤ w → w < 7 → h1 (36 + k) w = h (18 + k) w) → Fr (fun k _ => 33 ≤ k ∧ k ≤ 43) h h1 → zS mX0_become (zr d) 104 [zA 33, zA 15, zI e] [] TT h1 (zAnV (fun h' => DC h' 33 D ∧ Fr (fun k _ => 33 ≤ k ∧ k ≤ 43) h h')) := by
  intro n
  induction n with
  | zero =>
    intro e h1 a1 a2 i1 i2 i3 i4
    refine zS_iload_n (zdec eX0_become 54 rfl) rfl ?_
    refine zS_iconst (zdec eX0_become 55 rfl) rfl ?_
    refine zS_icmp_ge (tgt := 134) (zdec eX0_become 56 rfl) rfl (fun cz => ?_) (fun cz => absurd (by omega) cz)
    refine zS_aload_n (zdec eX0_become 71 rfl) rfl rfl ?_
    refine zS_getref (i := 27) (zdec eX0_become 72 rfl) kF_X0_20 ⟨by decide, rfl⟩ rfl rfl rfl rfl rfl ?_
    refine zS_iconst (zdec eX0_become 73 rfl) rfl ?_
    refine zS_aload_n (zdec eX0_become 74 rfl) rfl rfl ?_
    refine zS_getref (i := 32) (zdec eX0_become 75 rfl) kF_X0_20 ⟨by decide, rfl⟩ rfl rfl rfl rfl rfl ?_
    refine zS_iconst (zdec eX0_become 76 rfl) rfl ?_
    refine zS_bipush (zdec eX0_become 77 rfl) rfl rfl ?_
    refine zS_copyI (zdec eX0_become 78 rfl) kM_X0_63 rfl (by omega) ⟨by decide, rfl⟩ ⟨by decide, rfl⟩ (by decide) (by decide) (by decide) (by decide) (by decide) ?_
    refine zS_aload_n (zdec eX0_become 79 rfl) rfl rfl ?_
    refine zS_getref (i := 28) (zdec eX0_become 80 rfl) kF_X0_23 ⟨by decide, rfl⟩ rfl rfl rfl rfl rfl ?_
    refine zS_iconst (zdec eX0_become 81 rfl) rfl ?_
    refine zS_aload_n (zdec eX0_become 82 rfl) rfl rfl ?_
    refine zS_getref (i := 33) (zdec eX0_become 83 rfl) kF_X0_23 ⟨by decide, rfl⟩ rfl rfl rfl rfl rfl ?_
    refine zS_iconst (zdec eX0_become 84 rfl) rfl ?_
    refine zS_bipush (zdec eX0_become 85 rfl) rfl rfl ?_
    refine zS_copyI (zdec eX0_become 86 rfl) kM_X0_63 rfl (by omega) ⟨by decide, rfl⟩ ⟨by decide, rfl⟩ (by decide) (by decide) (by decide) (by decide) (by decide) ?_
    refine zS_aload_n (zdec eX0_become 87 rfl) rfl rfl ?_
    refine zS_getref (i := 29) (zdec eX0_become 88 rfl) kF_X0_26 ⟨by decide, rfl⟩ rfl rfl rfl rfl rfl ?_
    refine zS_iconst (zdec eX0_become 89 rfl) rfl ?_
    refine zS_aload_n (zdec eX0_become 90 rfl) rfl rfl ?_
    refine zS_getref (i := 34) (zdec eX0_become 91 rfl) kF_X0_26 ⟨by decide, rfl⟩ rfl rfl rfl rfl rfl ?_
    refine zS_iconst (zdec eX0_become 92 rfl) rfl ?_
    refine zS_bipush (zdec eX0_become 93 rfl) rfl rfl ?_
    refine zS_copyI (zdec eX0_become 94 rfl) kM_X0_63 rfl (by omega) ⟨by decide, rfl⟩ ⟨by decide, rfl⟩ (by decide) (by decide) (by decide) (by decide) (by decide) ?_
    have g : ∀ k j, k < 41 → (zcpy (zcpy (zcpy h1 23 0 41 0 6) 24 0 42 0 6) 25 0 43 0 20) k j = h1 k j := fun k j z => by rw [zcpy_k (by omega), zcpy_k (by omega), zcpy_k (by omega)]
    have f8 : ∀ i, 0 ≤ i → i < 6 → (zcpy (zcpy (zcpy h1 23 0 41 0 6) 24 0 42 0 6) 25 0 43 0 20) 41 i = h 23 i := fun i i0 i1 => by
        rw [zcpy_k (by decide), zcpy_k (by decide)]
        show (if (41 : Int) = 41 ∧ 0 ≤ i ∧ i < 0 + 6 then _ else _) = _
        rw [if_pos ⟨rfl, i0, by omega⟩, i4 _ _ (by omega), show (0 : Int) + (i - 0) = i by omega]
    have f9 : ∀ i, 0 ≤ i → i < 6 → (zcpy (zcpy (zcpy h1 23 0 41 0 6) 24 0 42 0 6) 25 0 43 0 20) 42 i = h 24 i := fun i i0 i1 => by
        rw [zcpy_k (by decide)]
        show (if (42 : Int) = 42 ∧ 0 ≤ i ∧ i < 0 + 6 then _ else _) = _
        rw [if_pos ⟨rfl, i0, by omega⟩, zcpy_k (by decide), i4 _ _ (by omega), show (0 : Int) + (i - 0) = i by omega]
    have f10 : ∀ i, 0 ≤ i → i < 20 → (zcpy (zcpy (zcpy h1 23 0 41 0 6) 24 0 42 0 6) 25 0 43 0 20) 43 i = h 25 i := fun i i0 i1 => by
        show (if (43 : Int) = 43 ∧ 0 ≤ i ∧ i < 0 + 20 then _ else _) = _
        rw [if_pos ⟨rfl, i0, by omega⟩, zcpy_k (by decide), zcpy_k (by decide), i4 _ _ (by omega), show (0 : Int) + (i - 0) = i by omega]
    exact zlMV (zdec eX0_become 95 rfl) rfl ⟨⟨fun j j0 j1 => (g _ _ (by omega)).trans ((i1 j j0 j1).trans (RD.1 j j0 j1)), fun s s0 s1 s2 => (g _ _ (by omega)).trans ((i2 s s0 s1).trans (RD.2.1 s s0 s1 s2)), fun k w k0 k1 k2 w0 w1 => (g _ _ (by omega)).trans ((i3 k w k0 (by omega) w0 w1).trans (RD.2.2.1 k w k0 k1 k2 w0 w1)), fun i i0 i1 i2 => ⟨(f8 i i0 i1).trans (RD.2.2.2.1 i i0 i1 i2).1, (f9 i i0 i1).trans (RD.2.2.2.1 i i0 i1 i2).2⟩, fun i i0 i1 i2 => (f10 i i0 i1).trans (RD.2.2.2.2 i i0 i1 i2)⟩, fun k j hn => by rw [zcpy_k (by omega), zcpy_k (by omega), zcpy_k (by omega)]; exact i4 k j hn⟩
  | succ n ih =>
    intro e h1 a1 a2 i1 i2 i3 i4
    refine zS_iload_n (zdec eX0_become 54 rfl) rfl ?_
    refine zS_iconst (zdec eX0_become 55 rfl) rfl ?_
    refine zS_icmp_ge (tgt := 134) (zdec eX0_become 56 rfl) rfl (fun cz => absurd cz (by omega)) (fun cz => ?_)
    refine zS_aload_n (zdec eX0_become 57 rfl) rfl rfl ?_
    refine zS_getref (i := 26) (zdec eX0_become 58 rfl) kF_X0_17 ⟨by decide, rfl⟩ rfl rfl rfl rfl rfl ?_
    refine zS_iload_n (zdec eX0_become 59 rfl) rfl ?_
    refine zS_aaload1 (i := 1) (zdec eX0_become 60 rfl) (Or.inr (Or.inl rfl)) ⟨by decide, rfl⟩ rfl rfl rfl (by omega) (by omega) ?_
    refine zS_iconst (zdec eX0_become 61 rfl) rfl ?_
    refine zS_aload_n (zdec eX0_become 62 rfl) rfl rfl ?_
    refine zS_getref (i := 31) (zdec eX0_become 63 rfl) kF_X0_17 ⟨by decide, rfl⟩ rfl rfl rfl rfl rfl ?_
    refine zS_iload_n (zdec eX0_become 64 rfl) rfl ?_
    refine zS_aaload1 (i := 3) (zdec eX0_become 65 rfl) (Or.inr (Or.inl rfl)) ⟨by decide, rfl⟩ rfl rfl rfl (by omega) (by omega) ?_
    refine zS_iconst (zdec eX0_become 66 rfl) rfl ?_
    refine zS_bipush (zdec eX0_become 67 rfl) rfl rfl ?_
    refine zS_copyI (zdec eX0_become 68 rfl) kM_X0_63 rfl (by omega) (zrow_18 a1 (by omega)) (zrow_36 a1 (by omega)) (by decide) (by decide) (by decide) (by decide) (by decide) ?_
    refine zS_iinc (zdec eX0_become 69 rfl) rfl rfl ⟨by omega, by omega⟩ ?_
    refine zS_goto (tgt := 104) (zdec eX0_become 70 rfl) rfl ?_
    refine ih (e + 1) _ (by omega) (by omega) (fun j j0 j1 => by rw [zcpy_k (by omega)]; exact i1 j j0 j1) (fun j j0 j1 => by rw [zcpy_k (by omega)]; exact i2 j j0 j1) (fun k w k0 k1 w0 w1 => ?_) (fun k j hn => by rw [zcpy_k (by omega)]; exact i4 k j hn)
    by_cases u : k = e
    · subst u
      show (if 36 + k = 36 + k ∧ 0 ≤ w ∧ w < 0 + 7 then _ else _) = _
      rw [if_pos ⟨rfl, w0, by omega⟩, i4 _ _ (by omega), show (0 : Int) + (w - 0) = w by omega]
    · rw [zcpy_k (by omega)]; exact i3 k w k0 (by omega) w0 w1
theorem c_become_33_15 {d : Nat} {h : zH} {D : Dk} (hd : 1 ≤ d) (RD : DC h 15 D) : zMV d mX0_become [zA 33, zA 15] h (fun h' => DC h' 33 D ∧ Fr (fun k _ => 33 ≤ k ∧ k ≤ 43) h h') := by
  have K : zS mX0_become (zr d) 104 [zA 33, zA 15, zI 0] [] TT (zcpy (zset (zset (zset (zset (zset (zset (zset (zset (zset (zset (zset h 33 0 (h 15 0)) 33 1 (h 15 1)) 33 2 (h 15 2)) 33 3 (h 15 3)) 33 4 (h 15 4)) 33 5 (h 15 5)) 33 6 (h 15 6)) 33 7 (h 15 7)) 33 8 (h 15 8)) 33 9 (h 15 9)) 33 10 (h 15 10)) 16 0 34 0 4) (zAnV (fun h' => DC h' 33 D ∧ Fr (fun k _ => 33 ≤ k ∧ k ≤ 43) h h')) := by
    refine L_become_33_15 hd RD 5 0 _ (by omega) (by omega) (fun j j0 j1 => ?_) (fun j j0 j1 => ?_) (fun k w k0 k1 => by omega) (fun k j hn => ?_)
    · rw [zcpy_k (by decide)]
      rcases (show j = 0 ∨ j = 1 ∨ j = 2 ∨ j = 3 ∨ j = 4 ∨ j = 5 ∨ j = 6 ∨ j = 7 ∨ j = 8 ∨ j = 9 ∨ j = 10 by omega) with rfl | rfl | rfl | rfl | rfl | rfl | rfl | rfl | rfl | rfl | rfl <;> rfl
    · show (if (34 : Int) = 34 ∧ 0 ≤ j ∧ j < 0 + 4 then _ else _) = _
      rw [if_pos ⟨rfl, j0, by omega⟩, show (0 : Int) + (j - 0) = j by omega]
      exact congrFun (zset_k (by decide)) _ |>.trans (rfl)
    · rw [zcpy_k (by omega)]
      exact ((((((((((((Fr.rf.set (by omega)).set (by omega)).set (by omega)).set (by omega)).set (by omega)).set (by omega)).set (by omega)).set (by omega)).set (by omega)).set (by omega)).set (by omega)) : Fr (fun k _ => 33 ≤ k ∧ k ≤ 43) h _) k j hn
  refine zmet rfl rfl rfl ?_
  refine zS_aload_n (zdec eX0_become 0 rfl) rfl rfl ?_
  refine zS_aload_n (zdec eX0_become 1 rfl) rfl rfl ?_
  refine zS_getfieldE (x := 0) (v := (h 15 0)) (zdec eX0_become 2 rfl) kF_X0_29 ⟨by decide, rfl⟩ rfl rfl rfl rfl ?_
  refine zS_putfield (x := 0) (zdec eX0_become 3 rfl) kF_X0_29 (Or.inl kf0_0) ⟨by decide, rfl⟩ rfl rfl rfl (Or.inl (fun q => by cases q)) ?_
  refine zS_aload_n (zdec eX0_become 4 rfl) rfl rfl ?_
  refine zS_aload_n (zdec eX0_become 5 rfl) rfl rfl ?_
  refine zS_getfieldE (x := 1) (v := (h 15 1)) (zdec eX0_become 6 rfl) kF_X0_33 ⟨by decide, rfl⟩ rfl rfl rfl (congrFun (zset_k (by decide)) _) ?_
  refine zS_putfield (x := 1) (zdec eX0_become 7 rfl) kF_X0_33 (Or.inl kf0_1) ⟨by decide, rfl⟩ rfl rfl rfl (Or.inl (fun q => by cases q)) ?_
  refine zS_aload_n (zdec eX0_become 8 rfl) rfl rfl ?_
  refine zS_aload_n (zdec eX0_become 9 rfl) rfl rfl ?_
  refine zS_getfieldE (x := 2) (v := (h 15 2)) (zdec eX0_become 10 rfl) kF_X0_36 ⟨by decide, rfl⟩ rfl rfl rfl ((congrFun (zset_k (by decide)) _).trans (congrFun (zset_k (by decide)) _)) ?_
  refine zS_putfield (x := 2) (zdec eX0_become 11 rfl) kF_X0_36 (Or.inl kf0_2) ⟨by decide, rfl⟩ rfl rfl rfl (Or.inl (fun q => by cases q)) ?_
  refine zS_aload_n (zdec eX0_become 12 rfl) rfl rfl ?_
  refine zS_aload_n (zdec eX0_become 13 rfl) rfl rfl ?_
  refine zS_getfieldE (x := 3) (v := (h 15 3)) (zdec eX0_become 14 rfl) kF_X0_39 ⟨by decide, rfl⟩ rfl rfl rfl ((congrFun (zset_k (by decide)) _).trans ((congrFun (zset_k (by decide)) _).trans (congrFun (zset_k (by decide)) _))) ?_
  refine zS_putfield (x := 3) (zdec eX0_become 15 rfl) kF_X0_39 (Or.inl kf0_3) ⟨by decide, rfl⟩ rfl rfl rfl (Or.inl (fun q => by cases q)) ?_
  refine zS_aload_n (zdec eX0_become 16 rfl) rfl rfl ?_
  refine zS_aload_n (zdec eX0_become 17 rfl) rfl rfl ?_
  refine zS_getfieldE (x := 4) (v := (h 15 4)) (zdec eX0_become 18 rfl) kF_X0_42 ⟨by decide, rfl⟩ rfl rfl rfl ((congrFun (zset_k (by decide)) _).trans ((congrFun (zset_k (by decide)) _).trans ((congrFun (zset_k (by decide)) _).trans (congrFun (zset_k (by decide)) _)))) ?_
  refine zS_putfield (x := 4) (zdec eX0_become 19 rfl) kF_X0_42 (Or.inl kf0_4) ⟨by decide, rfl⟩ rfl rfl rfl (Or.inl (fun q => by cases q)) ?_
  refine zS_aload_n (zdec eX0_become 20 rfl) rfl rfl ?_
  refine zS_aload_n (zdec eX0_become 21 rfl) rfl rfl ?_
  refine zS_getfieldE (x := 5) (v := (h 15 5)) (zdec eX0_become 22 rfl) kF_X0_45 ⟨by decide, rfl⟩ rfl rfl rfl ((congrFun (zset_k (by decide)) _).trans ((congrFun (zset_k (by decide)) _).trans ((congrFun (zset_k (by decide)) _).trans ((congrFun (zset_k (by decide)) _).trans (congrFun (zset_k (by decide)) _))))) ?_
  refine zS_putfield (x := 5) (zdec eX0_become 23 rfl) kF_X0_45 (Or.inl kf0_5) ⟨by decide, rfl⟩ rfl rfl rfl (Or.inl (fun q => by cases q)) ?_
  refine zS_aload_n (zdec eX0_become 24 rfl) rfl rfl ?_
  refine zS_aload_n (zdec eX0_become 25 rfl) rfl rfl ?_
  refine zS_getfieldE (x := 6) (v := (h 15 6)) (zdec eX0_become 26 rfl) kF_X0_48 ⟨by decide, rfl⟩ rfl rfl rfl ((congrFun (zset_k (by decide)) _).trans ((congrFun (zset_k (by decide)) _).trans ((congrFun (zset_k (by decide)) _).trans ((congrFun (zset_k (by decide)) _).trans ((congrFun (zset_k (by decide)) _).trans (congrFun (zset_k (by decide)) _)))))) ?_
  refine zS_putfield (x := 6) (zdec eX0_become 27 rfl) kF_X0_48 (Or.inl kf0_6) ⟨by decide, rfl⟩ rfl rfl rfl (Or.inl (fun q => by cases q)) ?_
  refine zS_aload_n (zdec eX0_become 28 rfl) rfl rfl ?_
  refine zS_aload_n (zdec eX0_become 29 rfl) rfl rfl ?_
  refine zS_getfieldE (x := 7) (v := (h 15 7)) (zdec eX0_become 30 rfl) kF_X0_51 ⟨by decide, rfl⟩ rfl rfl rfl ((congrFun (zset_k (by decide)) _).trans ((congrFun (zset_k (by decide)) _).trans ((congrFun (zset_k (by decide)) _).trans ((congrFun (zset_k (by decide)) _).trans ((congrFun (zset_k (by decide)) _).trans ((congrFun (zset_k (by decide)) _).trans (congrFun (zset_k (by decide)) _))))))) ?_
  refine zS_putfield (x := 7) (zdec eX0_become 31 rfl) kF_X0_51 (Or.inl kf0_7) ⟨by decide, rfl⟩ rfl rfl rfl (Or.inl (fun q => by cases q)) ?_
  refine zS_aload_n (zdec eX0_become 32 rfl) rfl rfl ?_
  refine zS_aload_n (zdec eX0_become 33 rfl) rfl rfl ?_
  refine zS_getfieldE (x := 8) (v := (h 15 8)) (zdec eX0_become 34 rfl) kF_X0_54 ⟨by decide, rfl⟩ rfl rfl rfl ((congrFun (zset_k (by decide)) _).trans ((congrFun (zset_k (by decide)) _).trans ((congrFun (zset_k (by decide)) _).trans ((congrFun (zset_k (by decide)) _).trans ((congrFun (zset_k (by decide)) _).trans ((congrFun (zset_k (by decide)) _).trans ((congrFun (zset_k (by decide)) _).trans (congrFun (zset_k (by decide)) _)))))))) ?_
  refine zS_putfield (x := 8) (zdec eX0_become 35 rfl) kF_X0_54 (Or.inl kf0_8) ⟨by decide, rfl⟩ rfl rfl rfl (Or.inl (fun q => by cases q)) ?_
  refine zS_aload_n (zdec eX0_become 36 rfl) rfl rfl ?_
  refine zS_aload_n (zdec eX0_become 37 rfl) rfl rfl ?_
  refine zS_getfieldE (x := 9) (v := (h 15 9)) (zdec eX0_become 38 rfl) kF_X0_57 ⟨by decide, rfl⟩ rfl rfl rfl ((congrFun (zset_k (by decide)) _).trans ((congrFun (zset_k (by decide)) _).trans ((congrFun (zset_k (by decide)) _).trans ((congrFun (zset_k (by decide)) _).trans ((congrFun (zset_k (by decide)) _).trans ((congrFun (zset_k (by decide)) _).trans ((congrFun (zset_k (by decide)) _).trans ((congrFun (zset_k (by decide)) _).trans (congrFun (zset_k (by decide)) _))))))))) ?_
  refine zS_putfield (x := 9) (zdec eX0_become 39 rfl) kF_X0_57 (Or.inl kf0_9) ⟨by decide, rfl⟩ rfl rfl rfl (Or.inl (fun q => by cases q)) ?_
  refine zS_aload_n (zdec eX0_become 40 rfl) rfl rfl ?_
  refine zS_aload_n (zdec eX0_become 41 rfl) rfl rfl ?_
  refine zS_getfieldE (x := 10) (v := (h 15 10)) (zdec eX0_become 42 rfl) kF_X0_60 ⟨by decide, rfl⟩ rfl rfl rfl ((congrFun (zset_k (by decide)) _).trans ((congrFun (zset_k (by decide)) _).trans ((congrFun (zset_k (by decide)) _).trans ((congrFun (zset_k (by decide)) _).trans ((congrFun (zset_k (by decide)) _).trans ((congrFun (zset_k (by decide)) _).trans ((congrFun (zset_k (by decide)) _).trans ((congrFun (zset_k (by decide)) _).trans ((congrFun (zset_k (by decide)) _).trans (congrFun (zset_k (by decide)) _)))))))))) ?_
  refine zS_putfield (x := 10) (zdec eX0_become 43 rfl) kF_X0_60 (Or.inl kf0_10) ⟨by decide, rfl⟩ rfl rfl rfl (Or.inl (fun q => by cases q)) ?_
  refine zS_aload_n (zdec eX0_become 44 rfl) rfl rfl ?_
  refine zS_getref (i := 25) (zdec eX0_become 45 rfl) kF_X0_9 ⟨by decide, rfl⟩ rfl rfl rfl rfl rfl ?_
  refine zS_iconst (zdec eX0_become 46 rfl) rfl ?_
  refine zS_aload_n (zdec eX0_become 47 rfl) rfl rfl ?_
  refine zS_getref (i := 30) (zdec eX0_become 48 rfl) kF_X0_9 ⟨by decide, rfl⟩ rfl rfl rfl rfl rfl ?_
  refine zS_iconst (zdec eX0_become 49 rfl) rfl ?_
  refine zS_iconst (zdec eX0_become 50 rfl) rfl ?_
  refine zS_copyI (zdec eX0_become 51 rfl) kM_X0_63 rfl (by omega) ⟨by decide, rfl⟩ ⟨by decide, rfl⟩ (by decide) (by decide) (by decide) (by decide) (by decide) ?_
  refine zS_iconst (zdec eX0_become 52 rfl) rfl ?_
  refine zS_istore_n (zdec eX0_become 53 rfl) rfl ?_
  exact K
theorem L_become_44_15 {d : Nat} {h : zH} {D : Dk} (hd : 1 ≤ d) (RD : DC h 15 D) : ∀ (n : Nat) (e : Int) (h1 : zH), 0 ≤ e → e + n = 5 → (∀ j, 0 ≤ j → j ≤ 10 → h1 44 j = h 15 j) → (∀ j, 0 ≤ j → j < 4 → h1 45 j = h 16 j) → (∀ k w, 0 ≤ k → k < e → 0 ≤ w → w < 7 → h1 (47 + k) w = h (18 + k) w) → Fr (fun k _ => 44 ≤ k ∧ k ≤ 54) h h1 → zS mX0_become (zr d) 104 [zA 44, zA 15, zI e] [] TT h1 (zAnV (fun h' => DC h' 44 D ∧ Fr (fun k _ => 44 ≤ k ∧ k ≤ 54) h h')) := by
  intro n
  induction n with
  | zero =>
    intro e h1 a1 a2 i1 i2 i3 i4
    refine zS_iload_n (zdec eX0_become 54 rfl) rfl ?_
    refine zS_iconst (zdec eX0_become 55 rfl) rfl ?_
    refine zS_icmp_ge (tgt := 134) (zdec eX0_become 56 rfl) rfl (fun cz => ?_) (fun cz => absurd (by omega) cz)
    refine zS_aload_n (zdec eX0_become 71 rfl) rfl rfl ?_
    refine zS_getref (i := 27) (zdec eX0_become 72 rfl) kF_X0_20 ⟨by decide, rfl⟩ rfl rfl rfl rfl rfl ?_
    refine zS_iconst (zdec eX0_become 73 rfl) rfl ?_
    refine zS_aload_n (zdec eX0_become 74 rfl) rfl rfl ?_
    refine zS_getref (i := 37) (zdec eX0_become 75 rfl) kF_X0_20 ⟨by decide, rfl⟩ rfl rfl rfl rfl rfl ?_
    refine zS_iconst (zdec eX0_become 76 rfl) rfl ?_
    refine zS_bipush (zdec eX0_become 77 rfl) rfl rfl ?_
    refine zS_copyI (zdec eX0_become 78 rfl) kM_X0_63 rfl (by omega) ⟨by decide, rfl⟩ ⟨by decide, rfl⟩ (by decide) (by decide) (by decide) (by decide) (by decide) ?_
    refine zS_aload_n (zdec eX0_become 79 rfl) rfl rfl ?_
    refine zS_getref (i := 28) (zdec eX0_become 80 rfl) kF_X0_23 ⟨by decide, rfl⟩ rfl rfl rfl rfl rfl ?_
    refine zS_iconst (zdec eX0_become 81 rfl) rfl ?_
    refine zS_aload_n (zdec eX0_become 82 rfl) rfl rfl ?_
    refine zS_getref (i := 38) (zdec eX0_become 83 rfl) kF_X0_23 ⟨by decide, rfl⟩ rfl rfl rfl rfl rfl ?_
    refine zS_iconst (zdec eX0_become 84 rfl) rfl ?_
    refine zS_bipush (zdec eX0_become 85 rfl) rfl rfl ?_
    refine zS_copyI (zdec eX0_become 86 rfl) kM_X0_63 rfl (by omega) ⟨by decide, rfl⟩ ⟨by decide, rfl⟩ (by decide) (by decide) (by decide) (by decide) (by decide) ?_
    refine zS_aload_n (zdec eX0_become 87 rfl) rfl rfl ?_
    refine zS_getref (i := 29) (zdec eX0_become 88 rfl) kF_X0_26 ⟨by decide, rfl⟩ rfl rfl rfl rfl rfl ?_
    refine zS_iconst (zdec eX0_become 89 rfl) rfl ?_
    refine zS_aload_n (zdec eX0_become 90 rfl) rfl rfl ?_
    refine zS_getref (i := 39) (zdec eX0_become 91 rfl) kF_X0_26 ⟨by decide, rfl⟩ rfl rfl rfl rfl rfl ?_
    refine zS_iconst (zdec eX0_become 92 rfl) rfl ?_
    refine zS_bipush (zdec eX0_become 93 rfl) rfl rfl ?_
    refine zS_copyI (zdec eX0_become 94 rfl) kM_X0_63 rfl (by omega) ⟨by decide, rfl⟩ ⟨by decide, rfl⟩ (by decide) (by decide) (by decide) (by decide) (by decide) ?_
    have g : ∀ k j, k < 52 → (zcpy (zcpy (zcpy h1 23 0 52 0 6) 24 0 53 0 6) 25 0 54 0 20) k j = h1 k j := fun k j z => by rw [zcpy_k (by omega), zcpy_k (by omega), zcpy_k (by omega)]
    have f8 : ∀ i, 0 ≤ i → i < 6 → (zcpy (zcpy (zcpy h1 23 0 52 0 6) 24 0 53 0 6) 25 0 54 0 20) 52 i = h 23 i := fun i i0 i1 => by
        rw [zcpy_k (by decide), zcpy_k (by decide)]
        show (if (52 : Int) = 52 ∧ 0 ≤ i ∧ i < 0 + 6 then _ else _) = _
        rw [if_pos ⟨rfl, i0, by omega⟩, i4 _ _ (by omega), show (0 : Int) + (i - 0) = i by omega]
    have f9 : ∀ i, 0 ≤ i → i < 6 → (zcpy (zcpy (zcpy h1 23 0 52 0 6) 24 0 53 0 6) 25 0 54 0 20) 53 i = h 24 i := fun i i0 i1 => by
        rw [zcpy_k (by decide)]
        show (if (53 : Int) = 53 ∧ 0 ≤ i ∧ i < 0 + 6 then _ else _) = _
        rw [if_pos ⟨rfl, i0, by omega⟩, zcpy_k (by decide), i4 _ _ (by omega), show (0 : Int) + (i - 0) = i by omega]
    have f10 : ∀ i, 0 ≤ i → i < 20 → (zcpy (zcpy (zcpy h1 23 0 52 0 6) 24 0 53 0 6) 25 0 54 0 20) 54 i = h 25 i := fun i i0 i1 => by
        show (if (54 : Int) = 54 ∧ 0 ≤ i ∧ i < 0 + 20 then _ else _) = _
        rw [if_pos ⟨rfl, i0, by omega⟩, zcpy_k (by decide), zcpy_k (by decide), i4 _ _ (by omega), show (0 : Int) + (i - 0) = i by omega]
    exact zlMV (zdec eX0_become 95 rfl) rfl ⟨⟨fun j j0 j1 => (g _ _ (by omega)).trans ((i1 j j0 j1).trans (RD.1 j j0 j1)), fun s s0 s1 s2 => (g _ _ (by omega)).trans ((i2 s s0 s1).trans (RD.2.1 s s0 s1 s2)), fun k w k0 k1 k2 w0 w1 => (g _ _ (by omega)).trans ((i3 k w k0 (by omega) w0 w1).trans (RD.2.2.1 k w k0 k1 k2 w0 w1)), fun i i0 i1 i2 => ⟨(f8 i i0 i1).trans (RD.2.2.2.1 i i0 i1 i2).1, (f9 i i0 i1).trans (RD.2.2.2.1 i i0 i1 i2).2⟩, fun i i0 i1 i2 => (f10 i i0 i1).trans (RD.2.2.2.2 i i0 i1 i2)⟩, fun k j hn => by rw [zcpy_k (by omega), zcpy_k (by omega), zcpy_k (by omega)]; exact i4 k j hn⟩
  | succ n ih =>
    intro e h1 a1 a2 i1 i2 i3 i4
    refine zS_iload_n (zdec eX0_become 54 rfl) rfl ?_
    refine zS_iconst (zdec eX0_become 55 rfl) rfl ?_
    refine zS_icmp_ge (tgt := 134) (zdec eX0_become 56 rfl) rfl (fun cz => absurd cz (by omega)) (fun cz => ?_)
    refine zS_aload_n (zdec eX0_become 57 rfl) rfl rfl ?_
    refine zS_getref (i := 26) (zdec eX0_become 58 rfl) kF_X0_17 ⟨by decide, rfl⟩ rfl rfl rfl rfl rfl ?_
    refine zS_iload_n (zdec eX0_become 59 rfl) rfl ?_
    refine zS_aaload1 (i := 1) (zdec eX0_become 60 rfl) (Or.inr (Or.inl rfl)) ⟨by decide, rfl⟩ rfl rfl rfl (by omega) (by omega) ?_
    refine zS_iconst (zdec eX0_become 61 rfl) rfl ?_
    refine zS_aload_n (zdec eX0_become 62 rfl) rfl rfl ?_
    refine zS_getref (i := 36) (zdec eX0_become 63 rfl) kF_X0_17 ⟨by decide, rfl⟩ rfl rfl rfl rfl rfl ?_
    refine zS_iload_n (zdec eX0_become 64 rfl) rfl ?_
    refine zS_aaload1 (i := 4) (zdec eX0_become 65 rfl) (Or.inr (Or.inl rfl)) ⟨by decide, rfl⟩ rfl rfl rfl (by omega) (by omega) ?_
    refine zS_iconst (zdec eX0_become 66 rfl) rfl ?_
    refine zS_bipush (zdec eX0_become 67 rfl) rfl rfl ?_
    refine zS_copyI (zdec eX0_become 68 rfl) kM_X0_63 rfl (by omega) (zrow_18 a1 (by omega)) (zrow_47 a1 (by omega)) (by decide) (by decide) (by decide) (by decide) (by decide) ?_
    refine zS_iinc (zdec eX0_become 69 rfl) rfl rfl ⟨by omega, by omega⟩ ?_
    refine zS_goto (tgt := 104) (zdec eX0_become 70 rfl) rfl ?_
    refine ih (e + 1) _ (by omega) (by omega) (fun j j0 j1 => by rw [zcpy_k (by omega)]; exact i1 j j0 j1) (fun j j0 j1 => by rw [zcpy_k (by omega)]; exact i2 j j0 j1) (fun k w k0 k1 w0 w1 => ?_) (fun k j hn => by rw [zcpy_k (by omega)]; exact i4 k j hn)
    by_cases u : k = e
    · subst u
      show (if 47 + k = 47 + k ∧ 0 ≤ w ∧ w < 0 + 7 then _ else _) = _
      rw [if_pos ⟨rfl, w0, by omega⟩, i4 _ _ (by omega), show (0 : Int) + (w - 0) = w by omega]
    · rw [zcpy_k (by omega)]; exact i3 k w k0 (by omega) w0 w1
theorem c_become_44_15 {d : Nat} {h : zH} {D : Dk} (hd : 1 ≤ d) (RD : DC h 15 D) : zMV d mX0_become [zA 44, zA 15] h (fun h' => DC h' 44 D ∧ Fr (fun k _ => 44 ≤ k ∧ k ≤ 54) h h') := by
  have K : zS mX0_become (zr d) 104 [zA 44, zA 15, zI 0] [] TT (zcpy (zset (zset (zset (zset (zset (zset (zset (zset (zset (zset (zset h 44 0 (h 15 0)) 44 1 (h 15 1)) 44 2 (h 15 2)) 44 3 (h 15 3)) 44 4 (h 15 4)) 44 5 (h 15 5)) 44 6 (h 15 6)) 44 7 (h 15 7)) 44 8 (h 15 8)) 44 9 (h 15 9)) 44 10 (h 15 10)) 16 0 45 0 4) (zAnV (fun h' => DC h' 44 D ∧ Fr (fun k _ => 44 ≤ k ∧ k ≤ 54) h h')) := by
    refine L_become_44_15 hd RD 5 0 _ (by omega) (by omega) (fun j j0 j1 => ?_) (fun j j0 j1 => ?_) (fun k w k0 k1 => by omega) (fun k j hn => ?_)
    · rw [zcpy_k (by decide)]
      rcases (show j = 0 ∨ j = 1 ∨ j = 2 ∨ j = 3 ∨ j = 4 ∨ j = 5 ∨ j = 6 ∨ j = 7 ∨ j = 8 ∨ j = 9 ∨ j = 10 by omega) with rfl | rfl | rfl | rfl | rfl | rfl | rfl | rfl | rfl | rfl | rfl <;> rfl
    · show (if (45 : Int) = 45 ∧ 0 ≤ j ∧ j < 0 + 4 then _ else _) = _
      rw [if_pos ⟨rfl, j0, by omega⟩, show (0 : Int) + (j - 0) = j by omega]
      exact congrFun (zset_k (by decide)) _ |>.trans (rfl)
    · rw [zcpy_k (by omega)]
      exact ((((((((((((Fr.rf.set (by omega)).set (by omega)).set (by omega)).set (by omega)).set (by omega)).set (by omega)).set (by omega)).set (by omega)).set (by omega)).set (by omega)).set (by omega)) : Fr (fun k _ => 44 ≤ k ∧ k ≤ 54) h _) k j hn
  refine zmet rfl rfl rfl ?_
  refine zS_aload_n (zdec eX0_become 0 rfl) rfl rfl ?_
  refine zS_aload_n (zdec eX0_become 1 rfl) rfl rfl ?_
  refine zS_getfieldE (x := 0) (v := (h 15 0)) (zdec eX0_become 2 rfl) kF_X0_29 ⟨by decide, rfl⟩ rfl rfl rfl rfl ?_
  refine zS_putfield (x := 0) (zdec eX0_become 3 rfl) kF_X0_29 (Or.inl kf0_0) ⟨by decide, rfl⟩ rfl rfl rfl (Or.inl (fun q => by cases q)) ?_
  refine zS_aload_n (zdec eX0_become 4 rfl) rfl rfl ?_
  refine zS_aload_n (zdec eX0_become 5 rfl) rfl rfl ?_
  refine zS_getfieldE (x := 1) (v := (h 15 1)) (zdec eX0_become 6 rfl) kF_X0_33 ⟨by decide, rfl⟩ rfl rfl rfl (congrFun (zset_k (by decide)) _) ?_
  refine zS_putfield (x := 1) (zdec eX0_become 7 rfl) kF_X0_33 (Or.inl kf0_1) ⟨by decide, rfl⟩ rfl rfl rfl (Or.inl (fun q => by cases q)) ?_
  refine zS_aload_n (zdec eX0_become 8 rfl) rfl rfl ?_
  refine zS_aload_n (zdec eX0_become 9 rfl) rfl rfl ?_
  refine zS_getfieldE (x := 2) (v := (h 15 2)) (zdec eX0_become 10 rfl) kF_X0_36 ⟨by decide, rfl⟩ rfl rfl rfl ((congrFun (zset_k (by decide)) _).trans (congrFun (zset_k (by decide)) _)) ?_
  refine zS_putfield (x := 2) (zdec eX0_become 11 rfl) kF_X0_36 (Or.inl kf0_2) ⟨by decide, rfl⟩ rfl rfl rfl (Or.inl (fun q => by cases q)) ?_
  refine zS_aload_n (zdec eX0_become 12 rfl) rfl rfl ?_
  refine zS_aload_n (zdec eX0_become 13 rfl) rfl rfl ?_
  refine zS_getfieldE (x := 3) (v := (h 15 3)) (zdec eX0_become 14 rfl) kF_X0_39 ⟨by decide, rfl⟩ rfl rfl rfl ((congrFun (zset_k (by decide)) _).trans ((congrFun (zset_k (by decide)) _).trans (congrFun (zset_k (by decide)) _))) ?_
  refine zS_putfield (x := 3) (zdec eX0_become 15 rfl) kF_X0_39 (Or.inl kf0_3) ⟨by decide, rfl⟩ rfl rfl rfl (Or.inl (fun q => by cases q)) ?_
  refine zS_aload_n (zdec eX0_become 16 rfl) rfl rfl ?_
  refine zS_aload_n (zdec eX0_become 17 rfl) rfl rfl ?_
  refine zS_getfieldE (x := 4) (v := (h 15 4)) (zdec eX0_become 18 rfl) kF_X0_42 ⟨by decide, rfl⟩ rfl rfl rfl ((congrFun (zset_k (by decide)) _).trans ((congrFun (zset_k (by decide)) _).trans ((congrFun (zset_k (by decide)) _).trans (congrFun (zset_k (by decide)) _)))) ?_
  refine zS_putfield (x := 4) (zdec eX0_become 19 rfl) kF_X0_42 (Or.inl kf0_4) ⟨by decide, rfl⟩ rfl rfl rfl (Or.inl (fun q => by cases q)) ?_
  refine zS_aload_n (zdec eX0_become 20 rfl) rfl rfl ?_
  refine zS_aload_n (zdec eX0_become 21 rfl) rfl rfl ?_
  refine zS_getfieldE (x := 5) (v := (h 15 5)) (zdec eX0_become 22 rfl) kF_X0_45 ⟨by decide, rfl⟩ rfl rfl rfl ((congrFun (zset_k (by decide)) _).trans ((congrFun (zset_k (by decide)) _).trans ((congrFun (zset_k (by decide)) _).trans ((congrFun (zset_k (by decide)) _).trans (congrFun (zset_k (by decide)) _))))) ?_
  refine zS_putfield (x := 5) (zdec eX0_become 23 rfl) kF_X0_45 (Or.inl kf0_5) ⟨by decide, rfl⟩ rfl rfl rfl (Or.inl (fun q => by cases q)) ?_
  refine zS_aload_n (zdec eX0_become 24 rfl) rfl rfl ?_
  refine zS_aload_n (zdec eX0_become 25 rfl) rfl rfl ?_
  refine zS_getfieldE (x := 6) (v := (h 15 6)) (zdec eX0_become 26 rfl) kF_X0_48 ⟨by decide, rfl⟩ rfl rfl rfl ((congrFun (zset_k (by decide)) _).trans ((congrFun (zset_k (by decide)) _).trans ((congrFun (zset_k (by decide)) _).trans ((congrFun (zset_k (by decide)) _).trans ((congrFun (zset_k (by decide)) _).trans (congrFun (zset_k (by decide)) _)))))) ?_
  refine zS_putfield (x := 6) (zdec eX0_become 27 rfl) kF_X0_48 (Or.inl kf0_6) ⟨by decide, rfl⟩ rfl rfl rfl (Or.inl (fun q => by cases q)) ?_
  refine zS_aload_n (zdec eX0_become 28 rfl) rfl rfl ?_
  refine zS_aload_n (zdec eX0_become 29 rfl) rfl rfl ?_
  refine zS_getfieldE (x := 7) (v := (h 15 7)) (zdec eX0_become 30 rfl) kF_X0_51 ⟨by decide, rfl⟩ rfl rfl rfl ((congrFun (zset_k (by decide)) _).trans ((congrFun (zset_k (by decide)) _).trans ((congrFun (zset_k (by decide)) _).trans ((congrFun (zset_k (by decide)) _).trans ((congrFun (zset_k (by decide)) _).trans ((congrFun (zset_k (by decide)) _).trans (congrFun (zset_k (by decide)) _))))))) ?_
  refine zS_putfield (x := 7) (zdec eX0_become 31 rfl) kF_X0_51 (Or.inl kf0_7) ⟨by decide, rfl⟩ rfl rfl rfl (Or.inl (fun q => by cases q)) ?_
  refine zS_aload_n (zdec eX0_become 32 rfl) rfl rfl ?_
  refine zS_aload_n (zdec eX0_become 33 rfl) rfl rfl ?_
  refine zS_getfieldE (x := 8) (v := (h 15 8)) (zdec eX0_become 34 rfl) kF_X0_54 ⟨by decide, rfl⟩ rfl rfl rfl ((congrFun (zset_k (by decide)) _).trans ((congrFun (zset_k (by decide)) _).trans ((congrFun (zset_k (by decide)) _).trans ((congrFun (zset_k (by decide)) _).trans ((congrFun (zset_k (by decide)) _).trans ((congrFun (zset_k (by decide)) _).trans ((congrFun (zset_k (by decide)) _).trans (congrFun (zset_k (by decide)) _)))))))) ?_
  refine zS_putfield (x := 8) (zdec eX0_become 35 rfl) kF_X0_54 (Or.inl kf0_8) ⟨by decide, rfl⟩ rfl rfl rfl (Or.inl (fun q => by cases q)) ?_
  refine zS_aload_n (zdec eX0_become 36 rfl) rfl rfl ?_
  refine zS_aload_n (zdec eX0_become 37 rfl) rfl rfl ?_
  refine zS_getfieldE (x := 9) (v := (h 15 9)) (zdec eX0_become 38 rfl) kF_X0_57 ⟨by decide, rfl⟩ rfl rfl rfl ((congrFun (zset_k (by decide)) _).trans ((congrFun (zset_k (by decide)) _).trans ((congrFun (zset_k (by decide)) _).trans ((congrFun (zset_k (by decide)) _).trans ((congrFun (zset_k (by decide)) _).trans ((congrFun (zset_k (by decide)) _).trans ((congrFun (zset_k (by decide)) _).trans ((congrFun (zset_k (by decide)) _).trans (congrFun (zset_k (by decide)) _))))))))) ?_
  refine zS_putfield (x := 9) (zdec eX0_become 39 rfl) kF_X0_57 (Or.inl kf0_9) ⟨by decide, rfl⟩ rfl rfl rfl (Or.inl (fun q => by cases q)) ?_
  refine zS_aload_n (zdec eX0_become 40 rfl) rfl rfl ?_
  refine zS_aload_n (zdec eX0_become 41 rfl) rfl rfl ?_
  refine zS_getfieldE (x := 10) (v := (h 15 10)) (zdec eX0_become 42 rfl) kF_X0_60 ⟨by decide, rfl⟩ rfl rfl rfl ((congrFun (zset_k (by decide)) _).trans ((congrFun (zset_k (by decide)) _).trans ((congrFun (zset_k (by decide)) _).trans ((congrFun (zset_k (by decide)) _).trans ((congrFun (zset_k (by decide)) _).trans ((congrFun (zset_k (by decide)) _).trans ((congrFun (zset_k (by decide)) _).trans ((congrFun (zset_k (by decide)) _).trans ((congrFun (zset_k (by decide)) _).trans (congrFun (zset_k (by decide)) _)))))))))) ?_
  refine zS_putfield (x := 10) (zdec eX0_become 43 rfl) kF_X0_60 (Or.inl kf0_10) ⟨by decide, rfl⟩ rfl rfl rfl (Or.inl (fun q => by cases q)) ?_
  refine zS_aload_n (zdec eX0_become 44 rfl) rfl rfl ?_
  refine zS_getref (i := 25) (zdec eX0_become 45 rfl) kF_X0_9 ⟨by decide, rfl⟩ rfl rfl rfl rfl rfl ?_
  refine zS_iconst (zdec eX0_become 46 rfl) rfl ?_
  refine zS_aload_n (zdec eX0_become 47 rfl) rfl rfl ?_
  refine zS_getref (i := 35) (zdec eX0_become 48 rfl) kF_X0_9 ⟨by decide, rfl⟩ rfl rfl rfl rfl rfl ?_
  refine zS_iconst (zdec eX0_become 49 rfl) rfl ?_
  refine zS_iconst (zdec eX0_become 50 rfl) rfl ?_
  refine zS_copyI (zdec eX0_become 51 rfl) kM_X0_63 rfl (by omega) ⟨by decide, rfl⟩ ⟨by decide, rfl⟩ (by decide) (by decide) (by decide) (by decide) (by decide) ?_
  refine zS_iconst (zdec eX0_become 52 rfl) rfl ?_
  refine zS_istore_n (zdec eX0_become 53 rfl) rfl ?_
  exact K
theorem L_become_55_15 {d : Nat} {h : zH} {D : Dk} (hd : 1 ≤ d) (RD : DC h 15 D) : ∀ (n : Nat) (e : Int) (h1 : zH), 0 ≤ e → e + n = 5 → (∀ j, 0 ≤ j → j ≤ 10 → h1 55 j = h 15 j) → (∀ j, 0 ≤ j → j < 4 → h1 56 j = h 16 j) → (∀ k w, 0 ≤ k → k < e → 0 ≤ w → w < 7 → h1 (58 + k) w = h (18 + k) w) → Fr (fun k _ => 55 ≤ k ∧ k ≤ 65) h h1 → zS mX0_become (zr d) 104 [zA 55, zA 15, zI e] [] TT h1 (zAnV (fun h' => DC h' 55 D ∧ Fr (fun k _ => 55 ≤ k ∧ k ≤ 65) h h')) := by
  intro n
  induction n with
  | zero =>
    intro e h1 a1 a2 i1 i2 i3 i4
    refine zS_iload_n (zdec eX0_become 54 rfl) rfl ?_
    refine zS_iconst (zdec eX0_become 55 rfl) rfl ?_
    refine zS_icmp_ge (tgt := 134) (zdec eX0_become 56 rfl) rfl (fun cz => ?_) (fun cz => absurd (by omega) cz)
    refine zS_aload_n (zdec eX0_become 71 rfl) rfl rfl ?_
    refine zS_getref (i := 27) (zdec eX0_become 72 rfl) kF_X0_20 ⟨by decide, rfl⟩ rfl rfl rfl rfl rfl ?_
    refine zS_iconst (zdec eX0_become 73 rfl) rfl ?_
    refine zS_aload_n (zdec eX0_become 74 rfl) rfl rfl ?_
    refine zS_getref (i := 42) (zdec eX0_become 75 rfl) kF_X0_20 ⟨by decide, rfl⟩ rfl rfl rfl rfl rfl ?_
    refine zS_iconst (zdec eX0_become 76 rfl) rfl ?_
    refine zS_bipush (zdec eX0_become 77 rfl) rfl rfl ?_
    refine zS_copyI (zdec eX0_become 78 rfl) kM_X0_63 rfl (by omega) ⟨by decide, rfl⟩ ⟨by decide, rfl⟩ (by decide) (by decide) (by decide) (by decide) (by decide) ?_
    refine zS_aload_n (zdec eX0_become 79 rfl) rfl rfl ?_
    refine zS_getref (i := 28) (zdec eX0_become 80 rfl) kF_X0_23 ⟨by decide, rfl⟩ rfl rfl rfl rfl rfl ?_
    refine zS_iconst (zdec eX0_become 81 rfl) rfl ?_
    refine zS_aload_n (zdec eX0_become 82 rfl) rfl rfl ?_
    refine zS_getref (i := 43) (zdec eX0_become 83 rfl) kF_X0_23 ⟨by decide, rfl⟩ rfl rfl rfl rfl rfl ?_
    refine zS_iconst (zdec eX0_become 84 rfl) rfl ?_
    refine zS_bipush (zdec eX0_become 85 rfl) rfl rfl ?_
    refine zS_copyI (zdec eX0_become 86 rfl) kM_X0_63 rfl (by omega) ⟨by decide, rfl⟩ ⟨by decide, rfl⟩ (by decide) (by decide) (by decide) (by decide) (by decide) ?_
    refine zS_aload_n (zdec eX0_become 87 rfl) rfl rfl ?_
    refine zS_getref (i := 29) (zdec eX0_become 88 rfl) kF_X0_26 ⟨by decide, rfl⟩ rfl rfl rfl rfl rfl ?_
    refine zS_iconst (zdec eX0_become 89 rfl) rfl ?_
    refine zS_aload_n (zdec eX0_become 90 rfl) rfl rfl ?_
    refine zS_getref (i := 44) (zdec eX0_become 91 rfl) kF_X0_26 ⟨by decide, rfl⟩ rfl rfl rfl rfl rfl ?_
    refine zS_iconst (zdec eX0_become 92 rfl) rfl ?_
    refine zS_bipush (zdec eX0_become 93 rfl) rfl rfl ?_
    refine zS_copyI (zdec eX0_become 94 rfl) kM_X0_63 rfl (by omega) ⟨by decide, rfl⟩ ⟨by decide, rfl⟩ (by decide) (by decide) (by decide) (by decide) (by decide) ?_
    have g : ∀ k j, k < 63 → (zcpy (zcpy (zcpy h1 23 0 63 0 6) 24 0 64 0 6) 25 0 65 0 20) k j = h1 k j := fun k j z => by rw [zcpy_k (by omega), zcpy_k (by omega), zcpy_k (by omega)]
    have f8 : ∀ i, 0 ≤ i → i < 6 → (zcpy (zcpy (zcpy h1 23 0 63 0 6) 24 0 64 0 6) 25 0 65 0 20) 63 i = h 23 i := fun i i0 i1 => by
        rw [zcpy_k (by decide), zcpy_k (by decide)]
        show (if (63 : Int) = 63 ∧ 0 ≤ i ∧ i < 0 + 6 then _ else _) = _
        rw [if_pos ⟨rfl, i0, by omega⟩, i4 _ _ (by omega), show (0 : Int) + (i - 0) = i by omega]
    have f9 : ∀ i, 0 ≤ i → i < 6 → (zcpy (zcpy (zcpy h1 23 0 63 0 6) 24 0 64 0 6) 25 0 65 0 20) 64 i = h 24 i := fun i i0 i1 => by
        rw [zcpy_k (by decide)]
        show (if (64 : Int) = 64 ∧ 0 ≤ i ∧ i < 0 + 6 then _ else _) = _
        rw [if_pos ⟨rfl, i0, by omega⟩, zcpy_k (by decide), i4 _ _ (by omega), show (0 : Int) + (i - 0) = i by omega]
    have f10 : ∀ i, 0 ≤ i → i < 20 → (zcpy (zcpy (zcpy h1 23 0 63 0 6) 24 0 64 0 6) 25 0 65 0 20) 65 i = h 25 i := fun i i0 i1 => by
        show (if (65 : Int) = 65 ∧ 0 ≤ i ∧ i < 0 + 20 then _ else _) = _
        rw [if_pos ⟨rfl, i0, by omega⟩, zcpy_k (by decide), zcpy_k (by decide), i4 _ _ (by omega), show (0 : Int) + (i - 0) = i by omega]
    exact zlMV (zdec eX0_become 95 rfl) rfl ⟨⟨fun j j0 j1 => (g _ _ (by omega)).trans ((i1 j j0 j1).trans (RD.1 j j0 j1)), fun s s0 s1 s2 => (g _ _ (by omega)).trans ((i2 s s0 s1).trans (RD.2.1 s s0 s1 s2)), fun k w k0 k1 k2 w0 w1 => (g _ _ (by omega)).trans ((i3 k w k0 (by omega) w0 w1).trans (RD.2.2.1 k w k0 k1 k2 w0 w1)), fun i i0 i1 i2 => ⟨(f8 i i0 i1).trans (RD.2.2.2.1 i i0 i1 i2).1, (f9 i i0 i1).trans (RD.2.2.2.1 i i0 i1 i2).2⟩, fun i i0 i1 i2 => (f10 i i0 i1).trans (RD.2.2.2.2 i i0 i1 i2)⟩, fun k j hn => by rw [zcpy_k (by omega), zcpy_k (by omega), zcpy_k (by omega)]; exact i4 k j hn⟩
  | succ n ih =>
    intro e h1 a1 a2 i1 i2 i3 i4
    refine zS_iload_n (zdec eX0_become 54 rfl) rfl ?_
    refine zS_iconst (zdec eX0_become 55 rfl) rfl ?_
    refine zS_icmp_ge (tgt := 134) (zdec eX0_become 56 rfl) rfl (fun cz => absurd cz (by omega)) (fun cz => ?_)
    refine zS_aload_n (zdec eX0_become 57 rfl) rfl rfl ?_
    refine zS_getref (i := 26) (zdec eX0_become 58 rfl) kF_X0_17 ⟨by decide, rfl⟩ rfl rfl rfl rfl rfl ?_
    refine zS_iload_n (zdec eX0_become 59 rfl) rfl ?_
    refine zS_aaload1 (i := 1) (zdec eX0_become 60 rfl) (Or.inr (Or.inl rfl)) ⟨by decide, rfl⟩ rfl rfl rfl (by omega) (by omega) ?_
    refine zS_iconst (zdec eX0_become 61 rfl) rfl ?_
    refine zS_aload_n (zdec eX0_become 62 rfl) rfl rfl ?_
    refine zS_getref (i := 41) (zdec eX0_become 63 rfl) kF_X0_17 ⟨by decide, rfl⟩ rfl rfl rfl rfl rfl ?_
    refine zS_iload_n (zdec eX0_become 64 rfl) rfl ?_
    refine zS_aaload1 (i := 5) (zdec eX0_become 65 rfl) (Or.inr (Or.inl rfl)) ⟨by decide, rfl⟩ rfl rfl rfl (by omega) (by omega) ?_
    refine zS_iconst (zdec eX0_become 66 rfl) rfl ?_
    refine zS_bipush (zdec eX0_become 67 rfl) rfl rfl ?_
    refine zS_copyI (zdec eX0_become 68 rfl) kM_X0_63 rfl (by omega) (zrow_18 a1 (by omega)) (zrow_58 a1 (by omega)) (by decide) (by decide) (by decide) (by decide) (by decide) ?_
    refine zS_iinc (zdec eX0_become 69 rfl) rfl rfl ⟨by omega, by omega⟩ ?_
    refine zS_goto (tgt := 104) (zdec eX0_become 70 rfl) rfl ?_
    refine ih (e + 1) _ (by omega) (by omega) (fun j j0 j1 => by rw [zcpy_k (by omega)]; exact i1 j j0 j1) (fun j j0 j1 => by rw [zcpy_k (by omega)]; exact i2 j j0 j1) (fun k w k0 k1 w0 w1 => ?_) (fun k j hn => by rw [zcpy_k (by omega)]; exact i4 k j hn)
    by_cases u : k = e
    · subst u
      show (if 58 + k = 58 + k ∧ 0 ≤ w ∧ w < 0 + 7 then _ else _) = _
      rw [if_pos ⟨rfl, w0, by omega⟩, i4 _ _ (by omega), show (0 : Int) + (w - 0) = w by omega]
    · rw [zcpy_k (by omega)]; exact i3 k w k0 (by omega) w0 w1
theorem c_become_55_15 {d : Nat} {h : zH} {D : Dk} (hd : 1 ≤ d) (RD : DC h 15 D) : zMV d mX0_become [zA 55, zA 15] h (fun h' => DC h' 55 D ∧ Fr (fun k _ => 55 ≤ k ∧ k ≤ 65) h h') := by
  have K : zS mX0_become (zr d) 104 [zA 55, zA 15, zI 0] [] TT (zcpy (zset (zset (zset (zset (zset (zset (zset (zset (zset (zset (zset h 55 0 (h 15 0)) 55 1 (h 15 1)) 55 2 (h 15 2)) 55 3 (h 15 3)) 55 4 (h 15 4)) 55 5 (h 15 5)) 55 6 (h 15 6)) 55 7 (h 15 7)) 55 8 (h 15 8)) 55 9 (h 15 9)) 55 10 (h 15 10)) 16 0 56 0 4) (zAnV (fun h' => DC h' 55 D ∧ Fr (fun k _ => 55 ≤ k ∧ k ≤ 65) h h')) := by
    refine L_become_55_15 hd RD 5 0 _ (by omega) (by omega) (fun j j0 j1 => ?_) (fun j j0 j1 => ?_) (fun k w k0 k1 => by omega) (fun k j hn => ?_)
    · rw [zcpy_k (by decide)]
      rcases (show j = 0 ∨ j = 1 ∨ j = 2 ∨ j = 3 ∨ j = 4 ∨ j = 5 ∨ j = 6 ∨ j = 7 ∨ j = 8 ∨ j = 9 ∨ j = 10 by omega) with rfl | rfl | rfl | rfl | rfl | rfl | rfl | rfl | rfl | rfl | rfl <;> rfl
    · show (if (56 : Int) = 56 ∧ 0 ≤ j ∧ j < 0 + 4 then _ else _) = _
      rw [if_pos ⟨rfl, j0, by omega⟩, show (0 : Int) + (j - 0) = j by omega]
      exact congrFun (zset_k (by decide)) _ |>.trans (rfl)
    · rw [zcpy_k (by omega)]
      exact ((((((((((((Fr.rf.set (by omega)).set (by omega)).set (by omega)).set (by omega)).set (by omega)).set (by omega)).set (by omega)).set (by omega)).set (by omega)).set (by omega)).set (by omega)) : Fr (fun k _ => 55 ≤ k ∧ k ≤ 65) h _) k j hn
  refine zmet rfl rfl rfl ?_
  refine zS_aload_n (zdec eX0_become 0 rfl) rfl rfl ?_
  refine zS_aload_n (zdec eX0_become 1 rfl) rfl rfl ?_
  refine zS_getfieldE (x := 0) (v := (h 15 0)) (zdec eX0_become 2 rfl) kF_X0_29 ⟨by decide, rfl⟩ rfl rfl rfl rfl ?_
  refine zS_putfield (x := 0) (zdec eX0_become 3 rfl) kF_X0_29 (Or.inl kf0_0) ⟨by decide, rfl⟩ rfl rfl rfl (Or.inl (fun q => by cases q)) ?_
  refine zS_aload_n (zdec eX0_become 4 rfl) rfl rfl ?_
  refine zS_aload_n (zdec eX0_become 5 rfl) rfl rfl ?_
  refine zS_getfieldE (x := 1) (v := (h 15 1)) (zdec eX0_become 6 rfl) kF_X0_33 ⟨by decide, rfl⟩ rfl rfl rfl (congrFun (zset_k (by decide)) _) ?_
  refine zS_putfield (x := 1) (zdec eX0_become 7 rfl) kF_X0_33 (Or.inl kf0_1) ⟨by decide, rfl⟩ rfl rfl rfl (Or.inl (fun q => by cases q)) ?_
  refine zS_aload_n (zdec eX0_become 8 rfl) rfl rfl ?_
  refine zS_aload_n (zdec eX0_become 9 rfl) rfl rfl ?_
  refine zS_getfieldE (x := 2) (v := (h 15 2)) (zdec eX0_become 10 rfl) kF_X0_36 ⟨by decide, rfl⟩ rfl rfl rfl ((congrFun (zset_k (by decide)) _).trans (congrFun (zset_k (by decide)) _)) ?_
  refine zS_putfield (x := 2) (zdec eX0_become 11 rfl) kF_X0_36 (Or.inl kf0_2) ⟨by decide, rfl⟩ rfl rfl rfl (Or.inl (fun q => by cases q)) ?_
  refine zS_aload_n (zdec eX0_become 12 rfl) rfl rfl ?_
  refine zS_aload_n (zdec eX0_become 13 rfl) rfl rfl ?_
  refine zS_getfieldE (x := 3) (v := (h 15 3)) (zdec eX0_become 14 rfl) kF_X0_39 ⟨by decide, rfl⟩ rfl rfl rfl ((congrFun (zset_k (by decide)) _).trans ((congrFun (zset_k (by decide)) _).trans (congrFun (zset_k (by decide)) _))) ?_
  refine zS_putfield (x := 3) (zdec eX0_become 15 rfl) kF_X0_39 (Or.inl kf0_3) ⟨by decide, rfl⟩ rfl rfl rfl (Or.inl (fun q => by cases q)) ?_
  refine zS_aload_n (zdec eX0_become 16 rfl) rfl rfl ?_
  refine zS_aload_n (zdec eX0_become 17 rfl) rfl rfl ?_
  refine zS_getfieldE (x := 4) (v := (h 15 4)) (zdec eX0_become 18 rfl) kF_X0_42 ⟨by decide, rfl⟩ rfl rfl rfl ((congrFun (zset_k (by decide)) _).trans ((congrFun (zset_k (by decide)) _).trans ((congrFun (zset_k (by decide)) _).trans (congrFun (zset_k (by decide)) _)))) ?_
  refine zS_putfield (x := 4) (zdec eX0_become 19 rfl) kF_X0_42 (Or.inl kf0_4) ⟨by decide, rfl⟩ rfl rfl rfl (Or.inl (fun q => by cases q)) ?_
  refine zS_aload_n (zdec eX0_become 20 rfl) rfl rfl ?_
  refine zS_aload_n (zdec eX0_become 21 rfl) rfl rfl ?_
  refine zS_getfieldE (x := 5) (v := (h 15 5)) (zdec eX0_become 22 rfl) kF_X0_45 ⟨by decide, rfl⟩ rfl rfl rfl ((congrFun (zset_k (by decide)) _).trans ((congrFun (zset_k (by decide)) _).trans ((congrFun (zset_k (by decide)) _).trans ((congrFun (zset_k (by decide)) _).trans (congrFun (zset_k (by decide)) _))))) ?_
  refine zS_putfield (x := 5) (zdec eX0_become 23 rfl) kF_X0_45 (Or.inl kf0_5) ⟨by decide, rfl⟩ rfl rfl rfl (Or.inl (fun q => by cases q)) ?_
  refine zS_aload_n (zdec eX0_become 24 rfl) rfl rfl ?_
  refine zS_aload_n (zdec eX0_become 25 rfl) rfl rfl ?_
  refine zS_getfieldE (x := 6) (v := (h 15 6)) (zdec eX0_become 26 rfl) kF_X0_48 ⟨by decide, rfl⟩ rfl rfl rfl ((congrFun (zset_k (by decide)) _).trans ((congrFun (zset_k (by decide)) _).trans ((congrFun (zset_k (by decide)) _).trans ((congrFun (zset_k (by decide)) _).trans ((congrFun (zset_k (by decide)) _).trans (congrFun (zset_k (by decide)) _)))))) ?_
  refine zS_putfield (x := 6) (zdec eX0_become 27 rfl) kF_X0_48 (Or.inl kf0_6) ⟨by decide, rfl⟩ rfl rfl rfl (Or.inl (fun q => by cases q)) ?_
  refine zS_aload_n (zdec eX0_become 28 rfl) rfl rfl ?_
  refine zS_aload_n (zdec eX0_become 29 rfl) rfl rfl ?_
  refine zS_getfieldE (x := 7) (v := (h 15 7)) (zdec eX0_become 30 rfl) kF_X0_51 ⟨by decide, rfl⟩ rfl rfl rfl ((congrFun (zset_k (by decide)) _).trans ((congrFun (zset_k (by decide)) _).trans ((congrFun (zset_k (by decide)) _).trans ((congrFun (zset_k (by decide)) _).trans ((congrFun (zset_k (by decide)) _).trans ((congrFun (zset_k (by decide)) _).trans (congrFun (zset_k (by decide)) _))))))) ?_
  refine zS_putfield (x := 7) (zdec eX0_become 31 rfl) kF_X0_51 (Or.inl kf0_7) ⟨by decide, rfl⟩ rfl rfl rfl (Or.inl (fun q => by cases q)) ?_
  refine zS_aload_n (zdec eX0_become 32 rfl) rfl rfl ?_
  refine zS_aload_n (zdec eX0_become 33 rfl) rfl rfl ?_
  refine zS_getfieldE (x := 8) (v := (h 15 8)) (zdec eX0_become 34 rfl) kF_X0_54 ⟨by decide, rfl⟩ rfl rfl rfl ((congrFun (zset_k (by decide)) _).trans ((congrFun (zset_k (by decide)) _).trans ((congrFun (zset_k (by decide)) _).trans ((congrFun (zset_k (by decide)) _).trans ((congrFun (zset_k (by decide)) _).trans ((congrFun (zset_k (by decide)) _).trans ((congrFun (zset_k (by decide)) _).trans (congrFun (zset_k (by decide)) _)))))))) ?_
  refine zS_putfield (x := 8) (zdec eX0_become 35 rfl) kF_X0_54 (Or.inl kf0_8) ⟨by decide, rfl⟩ rfl rfl rfl (Or.inl (fun q => by cases q)) ?_
  refine zS_aload_n (zdec eX0_become 36 rfl) rfl rfl ?_
  refine zS_aload_n (zdec eX0_become 37 rfl) rfl rfl ?_
  refine zS_getfieldE (x := 9) (v := (h 15 9)) (zdec eX0_become 38 rfl) kF_X0_57 ⟨by decide, rfl⟩ rfl rfl rfl ((congrFun (zset_k (by decide)) _).trans ((congrFun (zset_k (by decide)) _).trans ((congrFun (zset_k (by decide)) _).trans ((congrFun (zset_k (by decide)) _).trans ((congrFun (zset_k (by decide)) _).trans ((congrFun (zset_k (by decide)) _).trans ((congrFun (zset_k (by decide)) _).trans ((congrFun (zset_k (by decide)) _).trans (congrFun (zset_k (by decide)) _))))))))) ?_
  refine zS_putfield (x := 9) (zdec eX0_become 39 rfl) kF_X0_57 (Or.inl kf0_9) ⟨by decide, rfl⟩ rfl rfl rfl (Or.inl (fun q => by cases q)) ?_
  refine zS_aload_n (zdec eX0_become 40 rfl) rfl rfl ?_
  refine zS_aload_n (zdec eX0_become 41 rfl) rfl rfl ?_
  refine zS_getfieldE (x := 10) (v := (h 15 10)) (zdec eX0_become 42 rfl) kF_X0_60 ⟨by decide, rfl⟩ rfl rfl rfl ((congrFun (zset_k (by decide)) _).trans ((congrFun (zset_k (by decide)) _).trans ((congrFun (zset_k (by decide)) _).trans ((congrFun (zset_k (by decide)) _).trans ((congrFun (zset_k (by decide)) _).trans ((congrFun (zset_k (by decide)) _).trans ((congrFun (zset_k (by decide)) _).trans ((congrFun (zset_k (by decide)) _).trans ((congrFun (zset_k (by decide)) _).trans (congrFun (zset_k (by decide)) _)))))))))) ?_
  refine zS_putfield (x := 10) (zdec eX0_become 43 rfl) kF_X0_60 (Or.inl kf0_10) ⟨by decide, rfl⟩ rfl rfl rfl (Or.inl (fun q => by cases q)) ?_
  refine zS_aload_n (zdec eX0_become 44 rfl) rfl rfl ?_
  refine zS_getref (i := 25) (zdec eX0_become 45 rfl) kF_X0_9 ⟨by decide, rfl⟩ rfl rfl rfl rfl rfl ?_
  refine zS_iconst (zdec eX0_become 46 rfl) rfl ?_
  refine zS_aload_n (zdec eX0_become 47 rfl) rfl rfl ?_
  refine zS_getref (i := 40) (zdec eX0_become 48 rfl) kF_X0_9 ⟨by decide, rfl⟩ rfl rfl rfl rfl rfl ?_
  refine zS_iconst (zdec eX0_become 49 rfl) rfl ?_
  refine zS_iconst (zdec eX0_become 50 rfl) rfl ?_
  refine zS_copyI (zdec eX0_become 51 rfl) kM_X0_63 rfl (by omega) ⟨by decide, rfl⟩ ⟨by decide, rfl⟩ (by decide) (by decide) (by decide) (by decide) (by decide) ?_
  refine zS_iconst (zdec eX0_become 52 rfl) rfl ?_
  refine zS_istore_n (zdec eX0_become 53 rfl) rfl ?_
  exact K

theorem L_ord2 {d : Nat} {h : zH} {p : Pb} {e : Int} (hd : 2 ≤ d) (V : PV p) (R : WC h p) (e0 : 0 ≤ e) (e1 : e < pNb p) (K : ∀ h2 : zH, OrdC h2 (insP p e (ordI p e)) → Fr (fun k j => k = 29 ∨ (k = 14 ∧ j = 11)) h h2 → zS mX8_putInOrder (zr d) 7 [zA 14, zI (e + 1), zN] [] TT h2 (zAnV (fun h' => OrdC h' (ordP p) ∧ Fr (fun k j => k = 29 ∨ (k = 14 ∧ j = 11)) h h'))) : ∀ (n : Nat) (t : Int) (h1 : zH), t = n → t ≤ ((ordI p e).length : Int) → h1 14 11 = ((ordI p e).length : Int) → (∀ i : Nat, (i : Int) < t → h1 29 i = (ordI p e).getD i 0) → (∀ i : Nat, t ≤ i → i < (ordI p e).length → h1 29 ((i : Int) + 1) = (ordI p e).getD i 0) → (∀ i : Nat, t ≤ i → i < (ordI p e).length → ahP p e ((ordI p e).getD i 0) = true) → Fr (fun k j => k = 29 ∨ (k = 14 ∧ j = 11)) h h1 → zS mX8_putInOrder (zr d) 31 [zA 14, zI e, zI t] [] TT h1 (zAnV (fun h' => OrdC h' (ordP p) ∧ Fr (fun k j => k = 29 ∨ (k = 14 ∧ j = 11)) h h')) := by
  intro n
  induction n with
  | zero =>
    intro t h1 a1 a2 i0 i1 i2 i3 i5
    have R : WC h1 p := R.fr V i5 (fun k j z => by unfold wcP; omega)
    have nb := V.nb
    have ln := ordI_len (p := p) e0
    have srt : (ordI p e).Pairwise (ltP p) := ordN_sorted V (by omega)
    have mem : ∀ a ∈ ordI p e, bl p a := fun a ha => by have := (ordI_mem e0).mp ha; exact ⟨this.1, by omega⟩
    refine zS_iload_n (zdec eX8_putInOrder 17 rfl) rfl ?_
    refine zS_if_le (tgt := 71) (zdec eX8_putInOrder 18 rfl) rfl (fun cz => ?_) (fun cz => absurd (by omega) cz)
    refine zS_aload_n (zdec eX8_putInOrder 41 rfl) rfl rfl ?_
    refine zS_getref (i := 22) (zdec eX8_putInOrder 42 rfl) kF_X8_28 ⟨by decide, rfl⟩ rfl rfl rfl rfl rfl ?_
    refine zS_iload_n (zdec eX8_putInOrder 43 rfl) rfl ?_
    refine zS_iload_n (zdec eX8_putInOrder 44 rfl) rfl ?_
    refine zS_iastore (zdec eX8_putInOrder 45 rfl) ⟨by decide, rfl⟩ (by omega) (by omega) ?_
    refine zS_aload_n (zdec eX8_putInOrder 46 rfl) rfl rfl ?_
    refine zS_dup (zdec eX8_putInOrder 47 rfl) (fun q => by cases q) ?_
    refine zS_getfieldE (x := 11) (v := ((ordI p e).length : Int)) (zdec eX8_putInOrder 48 rfl) kF_X8_95 ⟨by decide, rfl⟩ rfl rfl rfl ((congrFun (zset_k (by decide)) _).trans i0) ?_
    refine zS_iconst (zdec eX8_putInOrder 49 rfl) rfl ?_
    refine zS_iadd (zdec eX8_putInOrder 50 rfl) ⟨by omega, by omega⟩ ?_
    refine zS_putfield (x := 11) (zdec eX8_putInOrder 51 rfl) kF_X8_95 (Or.inl kf8_11) ⟨by decide, rfl⟩ rfl rfl rfl (Or.inl (fun q => by cases q)) ?_
    refine zS_iinc (zdec eX8_putInOrder 52 rfl) rfl rfl ⟨by omega, by omega⟩ ?_
    refine zS_goto (tgt := 7) (zdec eX8_putInOrder 53 rfl) rfl ?_
    refine zS_forget (i := 2) ?_
    have oi := ord_ins (h1 := h1) (t := t.toNat) V ⟨e0, e1⟩ srt mem (by omega) (fun i hi => i1 i (by omega)) (fun i ha hi => i2 i (by omega) hi) (fun i ha hi => i3 i (by omega) hi) (Or.inl (by omega))
    rw [Int.toNat_of_nonneg (show 0 ≤ t by omega)] at oi
    exact K _ oi ((i5.set (Or.inl rfl)).set (Or.inr ⟨rfl, rfl⟩))
  | succ n ih =>
    intro t h1 a1 a2 i0 i1 i2 i3 i5
    have R : WC h1 p := R.fr V i5 (fun k j z => by unfold wcP; omega)
    have nb := V.nb
    have ln := ordI_len (p := p) e0
    have srt : (ordI p e).Pairwise (ltP p) := ordN_sorted V (by omega)
    have mem : ∀ a ∈ ordI p e, bl p a := fun a ha => by have := (ordI_mem e0).mp ha; exact ⟨this.1, by omega⟩
    have hm := getD_mem (l := ordI p e) (i := (t - 1).toNat) (by omega)
    have hr := (ordI_mem e0).mp hm
    have hy0 := i1 (t - 1).toNat (by omega)
    rw [Int.toNat_of_nonneg (show 0 ≤ t - 1 by omega)] at hy0
    obtain ⟨y, hyd⟩ : ∃ y, (ordI p e).getD (t - 1).toNat 0 = y := ⟨_, rfl⟩
    rw [hyd] at hr
    have hy : h1 29 (t - 1) = y := hy0.trans hyd
    refine zS_iload_n (zdec eX8_putInOrder 17 rfl) rfl ?_
    refine zS_if_le (tgt := 71) (zdec eX8_putInOrder 18 rfl) rfl (fun cz => absurd cz (by omega)) (fun cz => ?_)
    refine zS_aload_n (zdec eX8_putInOrder 19 rfl) rfl rfl ?_
    refine zS_iload_n (zdec eX8_putInOrder 20 rfl) rfl ?_
    refine zS_aload_n (zdec eX8_putInOrder 21 rfl) rfl rfl ?_
    refine zS_getref (i := 22) (zdec eX8_putInOrder 22 rfl) kF_X8_28 ⟨by decide, rfl⟩ rfl rfl rfl rfl rfl ?_
    refine zS_iload_n (zdec eX8_putInOrder 23 rfl) rfl ?_
    refine zS_iconst (zdec eX8_putInOrder 24 rfl) rfl ?_
    refine zS_isub (zdec eX8_putInOrder 25 rfl) ⟨by omega, by omega⟩ ?_
    refine zS_ialoadE (v := y) (zdec eX8_putInOrder 26 rfl) ⟨by decide, rfl⟩ (by omega) (by omega) hy ?_
    refine zvI (M' := mX8_isAhead) (As := [zI e, zI y]) (st := []) (zdec eX8_putInOrder 27 rfl) kM_X8_109 kV_X8_isAhead ⟨by decide, rfl⟩ rfl rfl rfl rfl rfl (by omega) (c_isAhead (by omega) V R (by omega) (by omega) (by omega) (by omega)) ?_
    refine zS_if_eq (tgt := 71) (zdec eX8_putInOrder 28 rfl) rfl (fun c1 => ?_) (fun c1 => ?_)
    · refine zS_aload_n (zdec eX8_putInOrder 41 rfl) rfl rfl ?_
      refine zS_getref (i := 22) (zdec eX8_putInOrder 42 rfl) kF_X8_28 ⟨by decide, rfl⟩ rfl rfl rfl rfl rfl ?_
      refine zS_iload_n (zdec eX8_putInOrder 43 rfl) rfl ?_
      refine zS_iload_n (zdec eX8_putInOrder 44 rfl) rfl ?_
      refine zS_iastore (zdec eX8_putInOrder 45 rfl) ⟨by decide, rfl⟩ (by omega) (by omega) ?_
      refine zS_aload_n (zdec eX8_putInOrder 46 rfl) rfl rfl ?_
      refine zS_dup (zdec eX8_putInOrder 47 rfl) (fun q => by cases q) ?_
      refine zS_getfieldE (x := 11) (v := ((ordI p e).length : Int)) (zdec eX8_putInOrder 48 rfl) kF_X8_95 ⟨by decide, rfl⟩ rfl rfl rfl ((congrFun (zset_k (by decide)) _).trans i0) ?_
      refine zS_iconst (zdec eX8_putInOrder 49 rfl) rfl ?_
      refine zS_iadd (zdec eX8_putInOrder 50 rfl) ⟨by omega, by omega⟩ ?_
      refine zS_putfield (x := 11) (zdec eX8_putInOrder 51 rfl) kF_X8_95 (Or.inl kf8_11) ⟨by decide, rfl⟩ rfl rfl rfl (Or.inl (fun q => by cases q)) ?_
      refine zS_iinc (zdec eX8_putInOrder 52 rfl) rfl rfl ⟨by omega, by omega⟩ ?_
      refine zS_goto (tgt := 7) (zdec eX8_putInOrder 53 rfl) rfl ?_
      refine zS_forget (i := 2) ?_
      have oi := ord_ins (h1 := h1) (t := t.toNat) V ⟨e0, e1⟩ srt mem (by omega) (fun i hi => i1 i (by omega)) (fun i ha hi => i2 i (by omega) hi) (fun i ha hi => i3 i (by omega) hi) (Or.inr (by rw [show t.toNat - 1 = (t - 1).toNat by omega, hyd]; exact b2i_0.mp c1))
      rw [Int.toNat_of_nonneg (show 0 ≤ t by omega)] at oi
      exact K _ oi ((i5.set (Or.inl rfl)).set (Or.inr ⟨rfl, rfl⟩))
    · refine zS_aload_n (zdec eX8_putInOrder 29 rfl) rfl rfl ?_
      refine zS_getref (i := 22) (zdec eX8_putInOrder 30 rfl) kF_X8_28 ⟨by decide, rfl⟩ rfl rfl rfl rfl rfl ?_
      refine zS_iload_n (zdec eX8_putInOrder 31 rfl) rfl ?_
      refine zS_aload_n (zdec eX8_putInOrder 32 rfl) rfl rfl ?_
      refine zS_getref (i := 22) (zdec eX8_putInOrder 33 rfl) kF_X8_28 ⟨by decide, rfl⟩ rfl rfl rfl rfl rfl ?_
      refine zS_iload_n (zdec eX8_putInOrder 34 rfl) rfl ?_
      refine zS_iconst (zdec eX8_putInOrder 35 rfl) rfl ?_
      refine zS_isub (zdec eX8_putInOrder 36 rfl) ⟨by omega, by omega⟩ ?_
      refine zS_ialoadE (v := y) (zdec eX8_putInOrder 37 rfl) ⟨by decide, rfl⟩ (by omega) (by omega) hy ?_
      refine zS_iastore (zdec eX8_putInOrder 38 rfl) ⟨by decide, rfl⟩ (by omega) (by omega) ?_
      refine zS_iinc (zdec eX8_putInOrder 39 rfl) rfl rfl ⟨by omega, by omega⟩ ?_
      refine zS_goto (tgt := 31) (zdec eX8_putInOrder 40 rfl) rfl ?_
      exact ih (t + -1) _ (by omega) (by omega) (by rw [zset_k (by decide)]; exact i0) (fun i hi => by rw [zset_j (by omega)]; exact i1 i (by omega)) (fun i ha hi => by
          by_cases w : (i : Int) + 1 = t
          · rw [w, zset_s, ← hyd, show (t - 1).toNat = i by omega]
          · rw [zset_j w]; exact i2 i (by omega) hi) (fun i ha hi => by
          by_cases w : (i : Int) + 1 = t
          · have := b2i_n.mp c1; rw [← hyd, show (t - 1).toNat = i by omega] at this; exact this
          · exact i3 i (by omega) hi) (i5.set (Or.inl rfl))
theorem L_ord1 {d : Nat} {h : zH} {p : Pb} (hd : 2 ≤ d) (V : PV p) (R : WC h p) : ∀ (n : Nat) (e : Int) (h1 : zH), 0 ≤ e → e + n = pNb p → OrdC h1 (ordI p e) → Fr (fun k j => k = 29 ∨ (k = 14 ∧ j = 11)) h h1 → zS mX8_putInOrder (zr d) 7 [zA 14, zI e, zN] [] TT h1 (zAnV (fun h' => OrdC h' (ordP p) ∧ Fr (fun k j => k = 29 ∨ (k = 14 ∧ j = 11)) h h')) := by
  intro n
  induction n with
  | zero =>
    intro e h1 a1 a2 i1 i2
    have R0 := R
    have R : WC h1 p := R.fr V i2 (fun k j z => by unfold wcP; omega)
    have nb := V.nb
    refine zS_iload_n (zdec eX8_putInOrder 5 rfl) rfl ?_
    refine zS_aload_n (zdec eX8_putInOrder 6 rfl) rfl rfl ?_
    refine zS_getref (i := 18) (zdec eX8_putInOrder 7 rfl) kF_X8_12 ⟨by decide, rfl⟩ rfl rfl rfl rfl rfl ?_
    refine zS_getfieldE (x := 8) (v := (pNb p)) (zdec eX8_putInOrder 8 rfl) kF_X8_37 ⟨by decide, rfl⟩ rfl rfl rfl R.nb ?_
    refine zS_icmp_ge (tgt := 94) (zdec eX8_putInOrder 9 rfl) rfl (fun cz => ?_) (fun cz => absurd (by omega) cz)
    exact zlMV (zdec eX8_putInOrder 54 rfl) rfl ⟨by rw [show e = pNb p by omega] at i1; exact i1, i2⟩
  | succ n ih =>
    intro e h1 a1 a2 i1 i2
    have R0 := R
    have R : WC h1 p := R.fr V i2 (fun k j z => by unfold wcP; omega)
    have nb := V.nb
    refine zS_iload_n (zdec eX8_putInOrder 5 rfl) rfl ?_
    refine zS_aload_n (zdec eX8_putInOrder 6 rfl) rfl rfl ?_
    refine zS_getref (i := 18) (zdec eX8_putInOrder 7 rfl) kF_X8_12 ⟨by decide, rfl⟩ rfl rfl rfl rfl rfl ?_
    refine zS_getfieldE (x := 8) (v := (pNb p)) (zdec eX8_putInOrder 8 rfl) kF_X8_37 ⟨by decide, rfl⟩ rfl rfl rfl R.nb ?_
    refine zS_icmp_ge (tgt := 94) (zdec eX8_putInOrder 9 rfl) rfl (fun cz => absurd cz (by omega)) (fun cz => ?_)
    refine zS_aload_n (zdec eX8_putInOrder 10 rfl) rfl rfl ?_
    refine zS_iload_n (zdec eX8_putInOrder 11 rfl) rfl ?_
    refine zvI (M' := mX8_isIn) (As := [zI e]) (st := []) (zdec eX8_putInOrder 12 rfl) kM_X8_105 kV_X8_isIn ⟨by decide, rfl⟩ rfl rfl rfl rfl rfl (by omega) (c_isIn V R (by omega) (by omega)) ?_
    refine zS_if_eq (tgt := 88) (zdec eX8_putInOrder 13 rfl) rfl (fun c1 => ?_) (fun c1 => ?_)
    · refine zS_iinc (zdec eX8_putInOrder 52 rfl) rfl rfl ⟨by omega, by omega⟩ ?_
      refine zS_goto (tgt := 7) (zdec eX8_putInOrder 53 rfl) rfl ?_
      exact ih (e + 1) h1 (by omega) (by omega) (by rw [ordI_s (by omega), b2i_0.mp c1]; exact i1) i2
    · refine zS_aload_n (zdec eX8_putInOrder 14 rfl) rfl rfl ?_
      refine zS_getfieldE (x := 11) (v := ((ordI p e).length : Int)) (zdec eX8_putInOrder 15 rfl) kF_X8_95 ⟨by decide, rfl⟩ rfl rfl rfl i1.1 ?_
      refine zS_istore_n (zdec eX8_putInOrder 16 rfl) rfl ?_
      exact L_ord2 hd V R0 (by omega) (by omega) (fun h2 o2 f2 => ih (e + 1) h2 (by omega) (by omega) (by rw [ordI_s (by omega), b2i_n.mp c1]; exact o2) f2) (ordI p e).length ((ordI p e).length : Int) h1 rfl (Int.le_refl _) i1.1 (fun i hi => i1.2 i (by omega)) (fun i ha hi => by omega) (fun i ha hi => by omega) i2
theorem c_putInOrder {d : Nat} {h : zH} {p : Pb} (hd : 2 ≤ d) (V : PV p) (R : WC h p) : zMV d mX8_putInOrder [zA 14] h (fun h' => OrdC h' (ordP p) ∧ Fr (fun k j => k = 29 ∨ (k = 14 ∧ j = 11)) h h') := by
  have nb := V.nb
  refine zmet rfl rfl rfl ?_
  refine zS_aload_n (zdec eX8_putInOrder 0 rfl) rfl rfl ?_
  refine zS_iconst (zdec eX8_putInOrder 1 rfl) rfl ?_
  refine zS_putfield (x := 11) (zdec eX8_putInOrder 2 rfl) kF_X8_95 (Or.inl kf8_11) ⟨by decide, rfl⟩ rfl rfl rfl (Or.inl (fun q => by cases q)) ?_
  refine zS_iconst (zdec eX8_putInOrder 3 rfl) rfl ?_
  refine zS_istore_n (zdec eX8_putInOrder 4 rfl) rfl ?_
  exact L_ord1 hd V R (pNb p).toNat 0 _ (by omega) (by omega) ⟨zset_s _ _ _ _, fun i hi => absurd hi (Nat.not_lt_zero i)⟩ (Fr.rf.set (Or.inr ⟨rfl, rfl⟩))

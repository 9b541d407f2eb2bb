theorem an1 : ∀ (k : Fin 32) (x : Fin 5), zAnd (zShr (k.val : Int) (x.val : Int)) 1 = 0 ∨ zAnd (zShr (k.val : Int) (x.val : Int)) 1 = 1 := by decide +kernel
theorem and01 {k x : Int} (k0 : 0 ≤ k) (k1 : k < 32) (x0 : 0 ≤ x) (x1 : x < 5) : zAnd (zShr k x) 1 = 0 ∨ zAnd (zShr k x) 1 = 1 := by
  obtain ⟨k, rfl⟩ := fin_of (n := 32) k0 k1
  obtain ⟨x, rfl⟩ := fin_of (n := 5) x0 x1
  exact an1 k x
theorem L_share {d : Nat} {h : zH} {D : Dk} {x : Int} (hd : 7 ≤ d) (VD : DV D) (hd0 : 0 < D 0 0) (RD : DC h 15 D) (x0 : 0 ≤ x) (x1 : x < D 0 8) : ∀ (n : Nat) (e : Int) (h1 : zH), 0 ≤ e → e + n = zShl 1 (D 0 8) → Fr sQ h h1 → h1 103 0 = sumI (shT D x) e → h1 103 1 = zfa (D 0 8) → zS mX6_reckon (zr d) 25 [zA 103, zA 14, zI x, zI (D 0 8), zI e, zN, zN] [] TT h1 (zAnV (fun h' => h' 103 0 = shA D x ∧ h' 103 1 = zfa (D 0 8) ∧ Fr sQ h h')) := by
  intro n
  induction n with
  | zero =>
    intro e h1 a1 a2 i1 i2 i3
    have RD1 : DC h1 15 D := RD.fr i1 (fun k j z => by omega)
    refine zS_iload (zdec eX6_reckon 14 rfl) rfl ?_
    refine zS_aload_n (zdec eX6_reckon 15 rfl) rfl rfl ?_
    refine zvI (M' := mX8_allBills) (As := []) (st := [zI e]) (zdec eX6_reckon 16 rfl) kM_X6_51 kV_X8_allBills ⟨by decide, rfl⟩ rfl rfl rfl rfl rfl (by omega) (c_allBills VD RD1) ?_
    refine zS_icmp_gt (tgt := 106) (zdec eX6_reckon 17 rfl) rfl (fun cz => ?_) (fun cz => absurd (by omega) cz)
    exact zlMV (zdec eX6_reckon 61 rfl) rfl ⟨by rw [i2, show e = zShl 1 (D 0 8) by omega]; rfl, i3, i1⟩
  | succ n ih =>
    intro e h1 a1 a2 i1 i2 i3
    have RD1 : DC h1 15 D := RD.fr i1 (fun k j z => by omega)
    have nb := VD.nb
    have a5 := allB5 nb.1 nb.2
    have sb := shAB VD hd0 x0 x1 a1 (show e ≤ zShl 1 (D 0 8) by omega)
    have a01 := and01 a1 (show e < 32 by omega) x0 (show x < 5 by omega)
    have bf : bitB e x = false ↔ zAnd (zShr e x) 1 = 0 := by rw [bitB_f]; omega
    refine zS_iload (zdec eX6_reckon 14 rfl) rfl ?_
    refine zS_aload_n (zdec eX6_reckon 15 rfl) rfl rfl ?_
    refine zvI (M' := mX8_allBills) (As := []) (st := [zI e]) (zdec eX6_reckon 16 rfl) kM_X6_51 kV_X8_allBills ⟨by decide, rfl⟩ rfl rfl rfl rfl rfl (by omega) (c_allBills VD RD1) ?_
    refine zS_icmp_gt (tgt := 106) (zdec eX6_reckon 17 rfl) rfl (fun cz => absurd cz (by omega)) (fun cz => ?_)
    refine zS_iload (zdec eX6_reckon 18 rfl) rfl ?_
    refine zS_iload_n (zdec eX6_reckon 19 rfl) rfl ?_
    refine zS_ishr (zdec eX6_reckon 20 rfl) ?_
    refine zS_iconst (zdec eX6_reckon 21 rfl) rfl ?_
    refine zS_iand (zdec eX6_reckon 22 rfl) ?_
    refine zS_if_ne (tgt := 100) (zdec eX6_reckon 23 rfl) rfl (fun c1 => ?_) (fun c1 => ?_)
    · refine zS_iinc (zdec eX6_reckon 59 rfl) rfl rfl ⟨by omega, by omega⟩ ?_
      refine zS_goto (tgt := 25) (zdec eX6_reckon 60 rfl) rfl ?_
      exact ih (e + 1) h1 (by omega) (by omega) i1 (by rw [sumI_s _ a1, i2]; unfold shT; rw [if_pos (by rcases Bool.eq_false_or_eq_true (bitB e x) with z | z; exact z; exact absurd (bf.mp z) c1)]; omega) i3
    · have cl := cnt_le nb.2 x0 x1 a1 (show e < zShl 1 (D 0 8) by omega) (by omega) (bf.mpr c1)
      have z2 := zf2_b nb.2 cl.1 cl.2
      refine zS_iload (zdec eX6_reckon 24 rfl) rfl ?_
      refine zsI (M' := mJ6_bitCount_0f7a4) (As := [zI e]) (st := []) (zdec eX6_reckon 25 rfl) kM_X6_54 kS_J6_bitCount_0f7a4 rfl rfl rfl (by omega) (c_bitCount (by omega) (by omega)) ?_
      refine zS_istore (zdec eX6_reckon 26 rfl) rfl ?_
      refine zS_getfact (zdec eX6_reckon 27 rfl) kFS ?_
      refine zS_iload (zdec eX6_reckon 28 rfl) rfl ?_
      refine zS_fact (zdec eX6_reckon 29 rfl) (by omega) (by omega) ?_
      refine zS_getfact (zdec eX6_reckon 30 rfl) kFS ?_
      refine zS_iload_n (zdec eX6_reckon 31 rfl) rfl ?_
      refine zS_iconst (zdec eX6_reckon 32 rfl) rfl ?_
      refine zS_isub (zdec eX6_reckon 33 rfl) ⟨by omega, by omega⟩ ?_
      refine zS_iload (zdec eX6_reckon 34 rfl) rfl ?_
      refine zS_isub (zdec eX6_reckon 35 rfl) ⟨by omega, by omega⟩ ?_
      refine zS_fact (zdec eX6_reckon 36 rfl) (by omega) (by omega) ?_
      refine zS_imul (zdec eX6_reckon 37 rfl) ⟨by omega, by omega⟩ ?_
      refine zS_istore (zdec eX6_reckon 38 rfl) rfl ?_
      refine zS_aload_n (zdec eX6_reckon 39 rfl) rfl rfl ?_
      refine zS_dup (zdec eX6_reckon 40 rfl) (fun q => by cases q) ?_
      refine zS_getfieldE (x := 0) (v := (sumI (shT D x) e)) (zdec eX6_reckon 41 rfl) kF_X6_40 ⟨by decide, rfl⟩ rfl rfl rfl i2 ?_
      refine zS_iload (zdec eX6_reckon 42 rfl) rfl ?_
      refine zS_aload_n (zdec eX6_reckon 43 rfl) rfl rfl ?_
      refine zS_aload_n (zdec eX6_reckon 44 rfl) rfl rfl ?_
      refine zS_iload (zdec eX6_reckon 45 rfl) rfl ?_
      refine zS_iconst (zdec eX6_reckon 46 rfl) rfl ?_
      refine zS_iload_n (zdec eX6_reckon 47 rfl) rfl ?_
      refine zS_ishl (zdec eX6_reckon 48 rfl) ?_
      refine zS_ior (zdec eX6_reckon 49 rfl) ?_
      refine zvMI (M' := mX6_worthOf) (As := [zA 14, zI (zOr e (zShl 1 x))]) (st := [zI ((zfa (cnt5 e)) * (zfa (((D 0 8) - 1) - (cnt5 e)))), zI (sumI (shT D x) e), zA 103]) (zdec eX6_reckon 50 rfl) kM_X6_60 kV_X6_worthOf ⟨by decide, rfl⟩ rfl rfl rfl rfl rfl (by omega) (c_worthOf (by omega) VD hd0 RD1) (fun x3 h3 ⟨hx3, g3⟩ => ?_)
      have f3 : Fr sQ h h3 := i1.tr g3 (fun k j z => z) (fun k j z => by omega)
      have RD3 : DC h3 15 D := RD.fr f3 (fun k j z => by omega)
      have wb3 := worB VD hd0 (zOr e (zShl 1 x))
      have w3 : ∀ j, h3 103 j = h1 103 j := fun j => g3 103 j (by omega)
      refine zS_aload_n (zdec eX6_reckon 51 rfl) rfl rfl ?_
      refine zS_aload_n (zdec eX6_reckon 52 rfl) rfl rfl ?_
      refine zS_iload (zdec eX6_reckon 53 rfl) rfl ?_
      refine zvMI (M' := mX6_worthOf) (As := [zA 14, zI e]) (st := [zI x3, zI ((zfa (cnt5 e)) * (zfa (((D 0 8) - 1) - (cnt5 e)))), zI (sumI (shT D x) e), zA 103]) (zdec eX6_reckon 54 rfl) kM_X6_60 kV_X6_worthOf ⟨by decide, rfl⟩ rfl rfl rfl rfl rfl (by omega) (c_worthOf (by omega) VD hd0 RD3) (fun x4 h4 ⟨hx4, g4⟩ => ?_)
      have f4 : Fr sQ h h4 := f3.tr g4 (fun k j z => z) (fun k j z => by omega)
      have RD4 : DC h4 15 D := RD.fr f4 (fun k j z => by omega)
      have wb4 := worB VD hd0 e
      have w4 : ∀ j, h4 103 j = h3 103 j := fun j => g4 103 j (by omega)
      refine zS_isub (zdec eX6_reckon 55 rfl) ⟨by omega, by omega⟩ ?_
      have wm := mulAB (B := 40000) z2.1 z2.2 (show -40000 ≤ x3 - x4 by omega) (by omega)
      refine zS_imul (zdec eX6_reckon 56 rfl) ⟨by omega, by omega⟩ ?_
      refine zS_iadd (zdec eX6_reckon 57 rfl) ⟨by omega, by omega⟩ ?_
      refine zS_putfield (x := 0) (zdec eX6_reckon 58 rfl) kF_X6_40 (Or.inl kf6_0) ⟨by decide, rfl⟩ rfl rfl rfl (Or.inl (fun q => by cases q)) ?_
      refine zS_iinc (zdec eX6_reckon 59 rfl) rfl rfl ⟨by omega, by omega⟩ ?_
      refine zS_goto (tgt := 25) (zdec eX6_reckon 60 rfl) rfl ?_
      refine zS_forget (i := 5) ?_
      refine zS_forget (i := 6) ?_
      exact ih (e + 1) _ (by omega) (by omega) (f4.set (by omega)) (by rw [zset_s, sumI_s _ a1, hx3, hx4]; unfold shT; rw [if_neg (by rw [bf.mpr c1]; decide)]) (by rw [zset_j (by decide), w4, w3]; exact i3)
theorem c_share {d : Nat} {h : zH} {D : Dk} {x : Int} (hd : 7 ≤ d) (VD : DV D) (hd0 : 0 < D 0 0) (RD : DC h 15 D) (x0 : 0 ≤ x) (x1 : x < D 0 8) : zMV d mX6_reckon [zA 103, zA 14, zI x] h (fun h' => h' 103 0 = shA D x ∧ h' 103 1 = zfa (D 0 8) ∧ Fr sQ h h') := by
  have nb := VD.nb
  have ar := all_rng (k := D 0 8) nb.1 (by omega)
  refine zmet rfl rfl rfl ?_
  refine zS_aload_n (zdec eX6_reckon 0 rfl) rfl rfl ?_
  refine zS_getref (i := 18) (zdec eX6_reckon 1 rfl) kF_X6_19 ⟨by decide, rfl⟩ rfl rfl rfl rfl rfl ?_
  refine zS_getfieldE (x := 8) (v := (D 0 8)) (zdec eX6_reckon 2 rfl) kF_X6_23 ⟨by decide, rfl⟩ rfl rfl rfl (RD.s (by decide) (by decide)) ?_
  refine zS_istore_n (zdec eX6_reckon 3 rfl) rfl ?_
  refine zS_aload_n (zdec eX6_reckon 4 rfl) rfl rfl ?_
  refine zS_iconst (zdec eX6_reckon 5 rfl) rfl ?_
  refine zS_putfield (x := 0) (zdec eX6_reckon 6 rfl) kF_X6_40 (Or.inl kf6_0) ⟨by decide, rfl⟩ rfl rfl rfl (Or.inl (fun q => by cases q)) ?_
  refine zS_aload_n (zdec eX6_reckon 7 rfl) rfl rfl ?_
  refine zS_getfact (zdec eX6_reckon 8 rfl) kFS ?_
  refine zS_iload_n (zdec eX6_reckon 9 rfl) rfl ?_
  refine zS_fact (zdec eX6_reckon 10 rfl) (by omega) (by omega) ?_
  refine zS_putfield (x := 1) (zdec eX6_reckon 11 rfl) kF_X6_48 (Or.inl kf6_1) ⟨by decide, rfl⟩ rfl rfl rfl (Or.inl (fun q => by cases q)) ?_
  refine zS_iconst (zdec eX6_reckon 12 rfl) rfl ?_
  refine zS_istore (zdec eX6_reckon 13 rfl) rfl ?_
  exact L_share hd VD hd0 RD x0 x1 (zShl 1 (D 0 8)).toNat 0 _ (by omega) (by omega) ((Fr.rf.set (by omega)).set (by omega)) (by rw [zset_j (by decide), zset_s]; rfl) (zset_s _ _ _ _)
noncomputable def a_share (D : Dk) (x y : Int) : Int := if (0 ≤ x ∧ x < D 0 8) ∧ (y = 0 ∨ y = 1) then zL2I (partP (shA D x) (zfa (D 0 8)) y) else -1000000
theorem p_share {d : Nat} {h : zH} {D : Dk} {x y : Int} (hd : 20 ≤ d) (VD : DV D) (RD : DC h 15 D) : zMI d mX9_share [zA 0, zI x, zI y] h (fun r h' => r = a_share D x y ∧ Fr sQ h h') := by
  obtain ⟨p, hp⟩ : ∃ p, pb0 D = p := ⟨_, rfl⟩
  obtain ⟨q, hq⟩ : ∃ q, planP p = q := ⟨_, rfl⟩
  have pd : pDays p = D 0 1 := by rw [← hp]; rfl
  have pn : pNb p = D 0 8 := by rw [← hp]; rfl
  have dy := VD.days
  have nb := VD.nb
  have ns := VD.ns
  have nl := VD.nl
  have na := VD.na
  have vfl := VD.fl
  have vfe := VD.fee
  refine zmet rfl rfl rfl ?_
  refine zS_aload_n (zdec eX9_share 0 rfl) rfl rfl ?_
  refine zS_iload_n (zdec eX9_share 1 rfl) rfl ?_
  refine zvI (M' := mX9_isBill) (As := [zI x]) (st := []) (zdec eX9_share 2 rfl) kM_X9_116 kV_X9_isBill ⟨by decide, rfl⟩ rfl rfl rfl rfl rfl (by omega) (c_isBill RD) ?_
  refine zS_if_eq (tgt := 15) (zdec eX9_share 3 rfl) rfl (fun c1 => ?_) (fun c1 => ?_)
  · have z1 := d2i_0.mp c1
    refine zS_ldc_w (zdec eX9_share 7 rfl) kc_X9_317 rfl ?_
    exact zlMI (zdec eX9_share 8 rfl) rfl ⟨by unfold a_share; rw [if_neg (by omega)], Fr.rf⟩
  · have z1 := d2i_n.mp c1
    refine zS_iload_n (zdec eX9_share 4 rfl) rfl ?_
    refine zsI (M' := mX9_isPart) (As := [zI y]) (st := []) (zdec eX9_share 5 rfl) kM_X9_151 kS_X9_isPart rfl rfl rfl (by omega) (c_isPart) ?_
    refine zS_if_ne (tgt := 19) (zdec eX9_share 6 rfl) rfl (fun c2 => ?_) (fun c2 => ?_)
    · have z2 := d2i_n.mp c2
      refine zS_aload_n (zdec eX9_share 9 rfl) rfl rfl ?_
      refine zS_getref (i := 8) (zdec eX9_share 10 rfl) kF_X9_63 ⟨by decide, rfl⟩ rfl rfl rfl rfl rfl ?_
      refine zS_aload_n (zdec eX9_share 11 rfl) rfl rfl ?_
      refine zS_getref (i := 1) (zdec eX9_share 12 rfl) kF_X9_19 ⟨by decide, rfl⟩ rfl rfl rfl rfl rfl ?_
      refine zS_iload_n (zdec eX9_share 13 rfl) rfl ?_
      have hd0 : 0 < D 0 0 := by first | omega | exact VD.bill (show 0 ≤ x by omega) (show x < D 0 8 by omega) | exact VD.day (show 0 ≤ x by omega) (show x < D 0 1 by omega) | exact VD.sup (show 0 ≤ x by omega) (show x < D 0 7 by omega)
      refine zvMV (M' := mX6_reckon) (As := [zA 14, zI x]) (st := []) (zdec eX9_share 14 rfl) kM_X9_318 kV_X6_reckon ⟨by decide, rfl⟩ rfl rfl rfl rfl rfl (by omega) (c_share (by omega) VD hd0 RD (by omega) (by omega)) (fun h5 ⟨s5, t5, f5⟩ => ?_)
      refine zS_aload_n (zdec eX9_share 15 rfl) rfl rfl ?_
      refine zS_getref (i := 8) (zdec eX9_share 16 rfl) kF_X9_63 ⟨by decide, rfl⟩ rfl rfl rfl rfl rfl ?_
      refine zS_getfieldE (x := 0) (v := (shA D x)) (zdec eX9_share 17 rfl) kF_X9_322 ⟨by decide, rfl⟩ rfl rfl rfl s5 ?_
      refine zS_i2l (zdec eX9_share 18 rfl) ?_
      refine zS_aload_n (zdec eX9_share 19 rfl) rfl rfl ?_
      refine zS_getref (i := 8) (zdec eX9_share 20 rfl) kF_X9_63 ⟨by decide, rfl⟩ rfl rfl rfl rfl rfl ?_
      refine zS_getfieldE (x := 1) (v := (zfa (D 0 8))) (zdec eX9_share 21 rfl) kF_X9_325 ⟨by decide, rfl⟩ rfl rfl rfl t5 ?_
      refine zS_i2l (zdec eX9_share 22 rfl) ?_
      refine zS_iload_n (zdec eX9_share 23 rfl) rfl ?_
      have zb := zfa_b (n := D 0 8) (by omega) (by omega)
      have all_ := all_rng (k := D 0 8) (by omega) (by omega)
      have sb := shAB VD hd0 (show 0 ≤ x by omega) (show x < D 0 8 by omega) (k := zShl 1 (D 0 8)) (by omega) (by omega)
      have sd : shA D x = sumI (shT D x) (zShl 1 (D 0 8)) := rfl
      refine zsJ (M' := mX9_partOf) (As := [zJ (shA D x), zJ (zfa (D 0 8)), zI y]) (st := []) (zdec eX9_share 24 rfl) kM_X9_160 kS_X9_partOf rfl rfl rfl (by omega) (c_partOf (by omega) (by omega) (by omega) (by omega) (by omega)) ?_
      refine zS_l2i (zdec eX9_share 25 rfl) ?_
      exact zlMI (zdec eX9_share 26 rfl) rfl ⟨by unfold a_share; rw [if_pos (by omega)], f5⟩
    · have z2 := d2i_0.mp c2
      refine zS_ldc_w (zdec eX9_share 7 rfl) kc_X9_317 rfl ?_
      exact zlMI (zdec eX9_share 8 rfl) rfl ⟨by unfold a_share; rw [if_neg (by omega)], Fr.rf⟩

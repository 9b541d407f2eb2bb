theorem L_odds {d : Nat} {h : zH} {D : Dk} {x : Int} (hd : 7 ≤ d) (VD : DV D) (hd0 : 0 < D 0 0) (RD : DC h 15 D) (hx : x = -1 ∨ (0 ≤ x ∧ x < D 0 8)) : ∀ (n : Nat) (e : Int) (h1 : zH), 0 ≤ e → e + n = zShl 1 (D 0 9) → Fr sQ h h1 → h1 107 0 = sumI (odT D x) e → h1 107 1 = pwI (D 0 9) → zS mX2_reckon (zr d) 43 [zA 107, zA 14, zI x, zI e] [] TT h1 (zAnV (fun h' => h' 107 0 = odA D x ∧ h' 107 1 = pwI (D 0 9) ∧ Fr sQ h h')) := by
  intro n
  induction n with
  | zero =>
    intro e h1 a1 a2 i1 i2 i3
    have RD1 : DC h1 15 D := RD.fr i1 (fun k j z => by omega)
    refine zS_iload_n (zdec eX2_reckon 23 rfl) rfl ?_
    refine zS_iconst (zdec eX2_reckon 24 rfl) rfl ?_
    refine zS_aload_n (zdec eX2_reckon 25 rfl) rfl rfl ?_
    refine zS_getref (i := 18) (zdec eX2_reckon 26 rfl) kF_X2_18 ⟨by decide, rfl⟩ rfl rfl rfl rfl rfl ?_
    refine zS_getfieldE (x := 9) (v := (D 0 9)) (zdec eX2_reckon 27 rfl) kF_X2_24 ⟨by decide, rfl⟩ rfl rfl rfl (RD1.s (by decide) (by decide)) ?_
    refine zS_ishl (zdec eX2_reckon 28 rfl) ?_
    refine zS_icmp_ge (tgt := 99) (zdec eX2_reckon 29 rfl) rfl (fun cz => ?_) (fun cz => absurd (by omega) cz)
    exact zlMV (zdec eX2_reckon 53 rfl) rfl ⟨by rw [i2, show e = zShl 1 (D 0 9) by omega]; rfl, i3, i1⟩
  | succ n ih =>
    intro e h1 a1 a2 i1 i2 i3
    have RD1 : DC h1 15 D := RD.fr i1 (fun k j z => by omega)
    have nl := VD.nl
    have ar := all_rng (k := D 0 9) nl.1 nl.2
    have tb := odTB VD hd0 x e
    have sb := odAB VD hd0 x a1 (show e ≤ 64 by omega)
    have td : odT D x e = weI D e (D 0 9) * vaL D x e := rfl
    refine zS_iload_n (zdec eX2_reckon 23 rfl) rfl ?_
    refine zS_iconst (zdec eX2_reckon 24 rfl) rfl ?_
    refine zS_aload_n (zdec eX2_reckon 25 rfl) rfl rfl ?_
    refine zS_getref (i := 18) (zdec eX2_reckon 26 rfl) kF_X2_18 ⟨by decide, rfl⟩ rfl rfl rfl rfl rfl ?_
    refine zS_getfieldE (x := 9) (v := (D 0 9)) (zdec eX2_reckon 27 rfl) kF_X2_24 ⟨by decide, rfl⟩ rfl rfl rfl (RD1.s (by decide) (by decide)) ?_
    refine zS_ishl (zdec eX2_reckon 28 rfl) ?_
    refine zS_icmp_ge (tgt := 99) (zdec eX2_reckon 29 rfl) rfl (fun cz => absurd cz (by omega)) (fun cz => ?_)
    refine zS_aload_n (zdec eX2_reckon 30 rfl) rfl rfl ?_
    refine zvMV (M' := mX8_asTold) (As := []) (st := []) (zdec eX2_reckon 31 rfl) kM_X2_32 kV_X8_asTold ⟨by decide, rfl⟩ rfl rfl rfl rfl rfl (by omega) (c_asTold (by omega) hd0 VD RD1) (fun h2 ⟨R, cl2, g2⟩ => ?_)
    have V := pb0_V VD hd0
    have R := R.cm' (v := e) (f := bitB e) V (fun _ _ _ => rfl)
    have V := V.set' 2 (bitB e)
    refine zS_aload_n (zdec eX2_reckon 32 rfl) rfl rfl ?_
    refine zS_iload_n (zdec eX2_reckon 33 rfl) rfl ?_
    refine zS_putfield (x := 6) (zdec eX2_reckon 34 rfl) kF_X2_35 (Or.inl kf8_6) ⟨by decide, rfl⟩ rfl rfl rfl (Or.inl (fun q => by cases q)) ?_
    refine zS_aload_n (zdec eX2_reckon 35 rfl) rfl rfl ?_
    refine zvMV (M' := mX8_planByLaw) (As := []) (st := []) (zdec eX2_reckon 36 rfl) kM_X2_38 kV_X8_planByLaw ⟨by decide, rfl⟩ rfl rfl rfl rfl rfl (by omega) (c_planByLaw (by omega) V R) (fun h3 ⟨S3, O3, m3, f3⟩ => ?_)
    have W3 := R.fr V f3 (fun k j z => by unfold wcP; omega)
    have L3 : Ln h3 (chX D e) := ⟨W3, S3, O3, m3⟩
    have g3 : Fr sBy h1 h3 := (g2.tr (Fr.rf.set (by omega) : Fr sBy h2 (zset h2 14 6 e)) (S'' := sBy) (fun k j z => by omega) (fun k j z => z)).tr f3 (fun k j z => z) (fun k j z => by omega)
    have gg : Fr sQ h h3 := i1.tr g3 (fun k j z => z) (fun k j z => by omega)
    have RD3 : DC h3 15 D := RD.fr gg (fun k j z => by omega)
    have w3 : ∀ j, h3 107 j = h1 107 j := fun j => g3 107 j (by omega)
    refine zS_aload_n (zdec eX2_reckon 37 rfl) rfl rfl ?_
    refine zS_dup (zdec eX2_reckon 38 rfl) (fun q => by cases q) ?_
    refine zS_getfieldE (x := 0) (v := (sumI (odT D x) e)) (zdec eX2_reckon 39 rfl) kF_X2_9 ⟨by decide, rfl⟩ rfl rfl rfl ((w3 0).trans i2) ?_
    refine zS_aload_n (zdec eX2_reckon 40 rfl) rfl rfl ?_
    refine zS_getref (i := 18) (zdec eX2_reckon 41 rfl) kF_X2_18 ⟨by decide, rfl⟩ rfl rfl rfl rfl rfl ?_
    refine zS_iload_n (zdec eX2_reckon 42 rfl) rfl ?_
    refine zsJ (M' := mX2_weight) (As := [zA 15, zI e]) (st := [zJ (sumI (odT D x) e), zA 107]) (zdec eX2_reckon 43 rfl) kM_X2_41 kS_X2_weight rfl rfl rfl (by omega) (c_weight VD RD3) ?_
    refine zS_aload_n (zdec eX2_reckon 44 rfl) rfl rfl ?_
    refine zS_iload_n (zdec eX2_reckon 45 rfl) rfl ?_
    refine zsI (M' := mX2_valueOf) (As := [zA 14, zI x]) (st := [zJ (weI D e (D 0 9)), zJ (sumI (odT D x) e), zA 107]) (zdec eX2_reckon 46 rfl) kM_X2_45 kS_X2_valueOf rfl rfl rfl (by omega) (c_valueOf (by omega) V L3 hx) ?_
    refine zS_i2l (zdec eX2_reckon 47 rfl) ?_
    refine zS_lmul (zdec eX2_reckon 48 rfl) ⟨by omega, by omega⟩ ?_
    refine zS_ladd (zdec eX2_reckon 49 rfl) ⟨by omega, by omega⟩ ?_
    refine zS_putfield (x := 0) (zdec eX2_reckon 50 rfl) kF_X2_9 (Or.inl kf2_0) ⟨by decide, rfl⟩ rfl rfl rfl (Or.inl (fun q => by cases q)) ?_
    refine zS_iinc (zdec eX2_reckon 51 rfl) rfl rfl ⟨by omega, by omega⟩ ?_
    refine zS_goto (tgt := 43) (zdec eX2_reckon 52 rfl) rfl ?_
    exact ih (e + 1) _ (by omega) (by omega) (gg.set (by omega)) (by rw [zset_s, sumI_s _ a1]; rfl) (by rw [zset_j (by decide), w3]; exact i3)
theorem L_odds0 {d : Nat} {h : zH} {D : Dk} {x : Int} (hd : 7 ≤ d) (VD : DV D) (hd0 : 0 < D 0 0) (RD : DC h 15 D) (hx : x = -1 ∨ (0 ≤ x ∧ x < D 0 8)) : ∀ (n : Nat) (e : Int) (h1 : zH), 0 ≤ e → e + n = D 0 9 → Fr sQ h h1 → h1 107 0 = 0 → h1 107 1 = pwI e → zS mX2_reckon (zr d) 12 [zA 107, zA 14, zI x, zI e] [] TT h1 (zAnV (fun h' => h' 107 0 = odA D x ∧ h' 107 1 = pwI (D 0 9) ∧ Fr sQ h h')) := by
  intro n
  induction n with
  | zero =>
    intro e h1 a1 a2 i1 i2 i3
    have RD1 : DC h1 15 D := RD.fr i1 (fun k j z => by omega)
    have nl := VD.nl
    have ar := all_rng (k := D 0 9) nl.1 nl.2
    refine zS_iload_n (zdec eX2_reckon 8 rfl) rfl ?_
    refine zS_aload_n (zdec eX2_reckon 9 rfl) rfl rfl ?_
    refine zS_getref (i := 18) (zdec eX2_reckon 10 rfl) kF_X2_18 ⟨by decide, rfl⟩ rfl rfl rfl rfl rfl ?_
    refine zS_getfieldE (x := 9) (v := (D 0 9)) (zdec eX2_reckon 11 rfl) kF_X2_24 ⟨by decide, rfl⟩ rfl rfl rfl (RD1.s (by decide) (by decide)) ?_
    refine zS_icmp_ge (tgt := 41) (zdec eX2_reckon 12 rfl) rfl (fun cz => ?_) (fun cz => absurd (by omega) cz)
    refine zS_iconst (zdec eX2_reckon 21 rfl) rfl ?_
    refine zS_istore_n (zdec eX2_reckon 22 rfl) rfl ?_
    exact L_odds hd VD hd0 RD hx (zShl 1 (D 0 9)).toNat 0 _ (by omega) (by omega) i1 i2 (by rw [i3, show e = D 0 9 by omega])
  | succ n ih =>
    intro e h1 a1 a2 i1 i2 i3
    have RD1 : DC h1 15 D := RD.fr i1 (fun k j z => by omega)
    have nl := VD.nl
    have ar := all_rng (k := D 0 9) nl.1 nl.2
    have pb := pwB a1 (show e ≤ 6 by omega)
    refine zS_iload_n (zdec eX2_reckon 8 rfl) rfl ?_
    refine zS_aload_n (zdec eX2_reckon 9 rfl) rfl rfl ?_
    refine zS_getref (i := 18) (zdec eX2_reckon 10 rfl) kF_X2_18 ⟨by decide, rfl⟩ rfl rfl rfl rfl rfl ?_
    refine zS_getfieldE (x := 9) (v := (D 0 9)) (zdec eX2_reckon 11 rfl) kF_X2_24 ⟨by decide, rfl⟩ rfl rfl rfl (RD1.s (by decide) (by decide)) ?_
    refine zS_icmp_ge (tgt := 41) (zdec eX2_reckon 12 rfl) rfl (fun cz => absurd cz (by omega)) (fun cz => ?_)
    refine zS_aload_n (zdec eX2_reckon 13 rfl) rfl rfl ?_
    refine zS_dup (zdec eX2_reckon 14 rfl) (fun q => by cases q) ?_
    refine zS_getfieldE (x := 1) (v := (pwI e)) (zdec eX2_reckon 15 rfl) kF_X2_15 ⟨by decide, rfl⟩ rfl rfl rfl i3 ?_
    refine zS_ldc2_w (zdec eX2_reckon 16 rfl) kj_X2_30 rfl ?_
    refine zS_lmul (zdec eX2_reckon 17 rfl) ⟨by omega, by omega⟩ ?_
    refine zS_putfield (x := 1) (zdec eX2_reckon 18 rfl) kF_X2_15 (Or.inl kf2_1) ⟨by decide, rfl⟩ rfl rfl rfl (Or.inl (fun q => by cases q)) ?_
    refine zS_iinc (zdec eX2_reckon 19 rfl) rfl rfl ⟨by omega, by omega⟩ ?_
    refine zS_goto (tgt := 12) (zdec eX2_reckon 20 rfl) rfl ?_
    exact ih (e + 1) _ (by omega) (by omega) (i1.set (by omega)) (by rw [zset_j (by decide)]; exact i2) (by rw [zset_s, pwI_s a1])
theorem c_odds {d : Nat} {h : zH} {D : Dk} {x : Int} (hd : 7 ≤ d) (VD : DV D) (hd0 : 0 < D 0 0) (RD : DC h 15 D) (hx : x = -1 ∨ (0 ≤ x ∧ x < D 0 8)) : zMV d mX2_reckon [zA 107, zA 14, zI x] h (fun h' => h' 107 0 = odA D x ∧ h' 107 1 = pwI (D 0 9) ∧ Fr sQ h h') := by
  have nl := VD.nl
  refine zmet rfl rfl rfl ?_
  refine zS_aload_n (zdec eX2_reckon 0 rfl) rfl rfl ?_
  refine zS_lconst (zdec eX2_reckon 1 rfl) ?_
  refine zS_putfield (x := 0) (zdec eX2_reckon 2 rfl) kF_X2_9 (Or.inl kf2_0) ⟨by decide, rfl⟩ rfl rfl rfl (Or.inl (fun q => by cases q)) ?_
  refine zS_aload_n (zdec eX2_reckon 3 rfl) rfl rfl ?_
  refine zS_lconst (zdec eX2_reckon 4 rfl) ?_
  refine zS_putfield (x := 1) (zdec eX2_reckon 5 rfl) kF_X2_15 (Or.inl kf2_1) ⟨by decide, rfl⟩ rfl rfl rfl (Or.inl (fun q => by cases q)) ?_
  refine zS_iconst (zdec eX2_reckon 6 rfl) rfl ?_
  refine zS_istore_n (zdec eX2_reckon 7 rfl) rfl ?_
  exact L_odds0 hd VD hd0 RD hx (D 0 9).toNat 0 _ (by omega) (by omega) ((Fr.rf.set (by omega)).set (by omega)) (by rw [zset_j (by decide), zset_s]; rfl) (zset_s _ _ _ _)
theorem odA_b {D : Dk} (VD : DV D) (hd0 : 0 < D 0 0) (x : Int) : 0 ≤ odA D x ∧ odA D x ≤ 1280000000000 := by
  have nl := VD.nl
  have ar := all_rng (k := D 0 9) nl.1 nl.2
  exact odAB VD hd0 x (by omega) (by omega)
noncomputable def a_chance (D : Dk) (x y : Int) : Int := if (0 ≤ x ∧ x < D 0 8) ∧ (y = 0 ∨ y = 1) then zL2I (partP (odA D x) (pwI (D 0 9)) y) else -2
theorem p_chance {d : Nat} {h : zH} {D : Dk} {x y : Int} (hd : 20 ≤ d) (VD : DV D) (RD : DC h 15 D) : zMI d mX9_chance [zA 0, zI x, zI y] h (fun r h' => r = a_chance D x y ∧ Fr sQ h h') := by
  obtain ⟨p, hp⟩ : ∃ p, pb0 D = p := ⟨_, rfl⟩
  obtain ⟨q, hq⟩ : ∃ q, planP p = q := ⟨_, rfl⟩
  have pd : pDays p = D 0 1 := by rw [← hp]; rfl
  have pn : pNb p = D 0 8 := by rw [← hp]; rfl
  have dy := VD.days
  have nb := VD.nb
  have ns := VD.ns
  have nl := VD.nl
  have na := VD.na
  have vfl := VD.fl
  have vfe := VD.fee
  refine zmet rfl rfl rfl ?_
  refine zS_aload_n (zdec eX9_chance 0 rfl) rfl rfl ?_
  refine zS_iload_n (zdec eX9_chance 1 rfl) rfl ?_
  refine zvI (M' := mX9_isBill) (As := [zI x]) (st := []) (zdec eX9_chance 2 rfl) kM_X9_116 kV_X9_isBill ⟨by decide, rfl⟩ rfl rfl rfl rfl rfl (by omega) (c_isBill RD) ?_
  refine zS_if_eq (tgt := 15) (zdec eX9_chance 3 rfl) rfl (fun c1 => ?_) (fun c1 => ?_)
  · have z1 := d2i_0.mp c1
    refine zS_bipush (zdec eX9_chance 7 rfl) rfl rfl ?_
    exact zlMI (zdec eX9_chance 8 rfl) rfl ⟨by unfold a_chance; rw [if_neg (by omega)], Fr.rf⟩
  · have z1 := d2i_n.mp c1
    refine zS_iload_n (zdec eX9_chance 4 rfl) rfl ?_
    refine zsI (M' := mX9_isPart) (As := [zI y]) (st := []) (zdec eX9_chance 5 rfl) kM_X9_151 kS_X9_isPart rfl rfl rfl (by omega) (c_isPart) ?_
    refine zS_if_ne (tgt := 18) (zdec eX9_chance 6 rfl) rfl (fun c2 => ?_) (fun c2 => ?_)
    · have z2 := d2i_n.mp c2
      refine zS_aload_n (zdec eX9_chance 9 rfl) rfl rfl ?_
      refine zS_getref (i := 10) (zdec eX9_chance 10 rfl) kF_X9_77 ⟨by decide, rfl⟩ rfl rfl rfl rfl rfl ?_
      refine zS_aload_n (zdec eX9_chance 11 rfl) rfl rfl ?_
      refine zS_getref (i := 1) (zdec eX9_chance 12 rfl) kF_X9_19 ⟨by decide, rfl⟩ rfl rfl rfl rfl rfl ?_
      refine zS_iload_n (zdec eX9_chance 13 rfl) rfl ?_
      have hd0 : 0 < D 0 0 := by first | omega | exact VD.bill (show 0 ≤ x by omega) (show x < D 0 8 by omega) | exact VD.day (show 0 ≤ x by omega) (show x < D 0 1 by omega) | exact VD.sup (show 0 ≤ x by omega) (show x < D 0 7 by omega)
      refine zvMV (M' := mX2_reckon) (As := [zA 14, zI x]) (st := []) (zdec eX9_chance 14 rfl) kM_X9_346 kV_X2_reckon ⟨by decide, rfl⟩ rfl rfl rfl rfl rfl (by omega) (c_odds (by omega) VD hd0 RD (by omega)) (fun h5 ⟨s5, t5, f5⟩ => ?_)
      refine zS_aload_n (zdec eX9_chance 15 rfl) rfl rfl ?_
      refine zS_getref (i := 10) (zdec eX9_chance 16 rfl) kF_X9_77 ⟨by decide, rfl⟩ rfl rfl rfl rfl rfl ?_
      refine zS_getfieldE (x := 0) (v := (odA D x)) (zdec eX9_chance 17 rfl) kF_X9_347 ⟨by decide, rfl⟩ rfl rfl rfl s5 ?_
      refine zS_aload_n (zdec eX9_chance 18 rfl) rfl rfl ?_
      refine zS_getref (i := 10) (zdec eX9_chance 19 rfl) kF_X9_77 ⟨by decide, rfl⟩ rfl rfl rfl rfl rfl ?_
      refine zS_getfieldE (x := 1) (v := (pwI (D 0 9))) (zdec eX9_chance 20 rfl) kF_X9_350 ⟨by decide, rfl⟩ rfl rfl rfl t5 ?_
      refine zS_iload_n (zdec eX9_chance 21 rfl) rfl ?_
      have pb := pwB nl.1 nl.2
      have ob := odA_b VD hd0 x
      refine zsJ (M' := mX9_partOf) (As := [zJ (odA D x), zJ (pwI (D 0 9)), zI y]) (st := []) (zdec eX9_chance 22 rfl) kM_X9_160 kS_X9_partOf rfl rfl rfl (by omega) (c_partOf (by omega) (by omega) (by omega) (by omega) (by omega)) ?_
      refine zS_l2i (zdec eX9_chance 23 rfl) ?_
      exact zlMI (zdec eX9_chance 24 rfl) rfl ⟨by unfold a_chance; rw [if_pos (by omega)], f5⟩
    · have z2 := d2i_0.mp c2
      refine zS_bipush (zdec eX9_chance 7 rfl) rfl rfl ?_
      exact zlMI (zdec eX9_chance 8 rfl) rfl ⟨by unfold a_chance; rw [if_neg (by omega)], Fr.rf⟩
noncomputable def a_mean (D : Dk) (y : Int) : Int := if 0 < D 0 0 ∧ (y = 0 ∨ y = 1) then partP (odA D (-1)) (pwI (D 0 9)) y else -2
theorem p_mean {d : Nat} {h : zH} {D : Dk} {y : Int} (hd : 20 ≤ d) (VD : DV D) (RD : DC h 15 D) : zMJ d mX9_mean [zA 0, zI y] h (fun r h' => r = a_mean D y ∧ Fr sQ h h') := by
  obtain ⟨p, hp⟩ : ∃ p, pb0 D = p := ⟨_, rfl⟩
  obtain ⟨q, hq⟩ : ∃ q, planP p = q := ⟨_, rfl⟩
  have pd : pDays p = D 0 1 := by rw [← hp]; rfl
  have pn : pNb p = D 0 8 := by rw [← hp]; rfl
  have dy := VD.days
  have nb := VD.nb
  have ns := VD.ns
  have nl := VD.nl
  have na := VD.na
  have vfl := VD.fl
  have vfe := VD.fee
  refine zmet rfl rfl rfl ?_
  refine zS_aload_n (zdec eX9_mean 0 rfl) rfl rfl ?_
  refine zvI (M' := mX9_isThere) (As := []) (st := []) (zdec eX9_mean 1 rfl) kM_X9_143 kV_X9_isThere ⟨by decide, rfl⟩ rfl rfl rfl rfl rfl (by omega) (c_isThere RD) ?_
  refine zS_if_eq (tgt := 14) (zdec eX9_mean 2 rfl) rfl (fun c1 => ?_) (fun c1 => ?_)
  · have z1 := d2i_0.mp c1
    refine zS_ldc2_w (zdec eX9_mean 6 rfl) kj_X9_352 rfl ?_
    exact zlMJ (zdec eX9_mean 7 rfl) rfl ⟨by unfold a_mean; rw [if_neg (by omega)], Fr.rf⟩
  · have z1 := d2i_n.mp c1
    refine zS_iload_n (zdec eX9_mean 3 rfl) rfl ?_
    refine zsI (M' := mX9_isPart) (As := [zI y]) (st := []) (zdec eX9_mean 4 rfl) kM_X9_151 kS_X9_isPart rfl rfl rfl (by omega) (c_isPart) ?_
    refine zS_if_ne (tgt := 18) (zdec eX9_mean 5 rfl) rfl (fun c2 => ?_) (fun c2 => ?_)
    · have z2 := d2i_n.mp c2
      refine zS_aload_n (zdec eX9_mean 8 rfl) rfl rfl ?_
      refine zS_getref (i := 10) (zdec eX9_mean 9 rfl) kF_X9_77 ⟨by decide, rfl⟩ rfl rfl rfl rfl rfl ?_
      refine zS_aload_n (zdec eX9_mean 10 rfl) rfl rfl ?_
      refine zS_getref (i := 1) (zdec eX9_mean 11 rfl) kF_X9_19 ⟨by decide, rfl⟩ rfl rfl rfl rfl rfl ?_
      refine zS_iconst (zdec eX9_mean 12 rfl) rfl ?_
      have hd0 : 0 < D 0 0 := by first | omega
      refine zvMV (M' := mX2_reckon) (As := [zA 14, zI (-1)]) (st := []) (zdec eX9_mean 13 rfl) kM_X9_346 kV_X2_reckon ⟨by decide, rfl⟩ rfl rfl rfl rfl rfl (by omega) (c_odds (by omega) VD hd0 RD (by omega)) (fun h5 ⟨s5, t5, f5⟩ => ?_)
      refine zS_aload_n (zdec eX9_mean 14 rfl) rfl rfl ?_
      refine zS_getref (i := 10) (zdec eX9_mean 15 rfl) kF_X9_77 ⟨by decide, rfl⟩ rfl rfl rfl rfl rfl ?_
      refine zS_getfieldE (x := 0) (v := (odA D (-1))) (zdec eX9_mean 16 rfl) kF_X9_347 ⟨by decide, rfl⟩ rfl rfl rfl s5 ?_
      refine zS_aload_n (zdec eX9_mean 17 rfl) rfl rfl ?_
      refine zS_getref (i := 10) (zdec eX9_mean 18 rfl) kF_X9_77 ⟨by decide, rfl⟩ rfl rfl rfl rfl rfl ?_
      refine zS_getfieldE (x := 1) (v := (pwI (D 0 9))) (zdec eX9_mean 19 rfl) kF_X9_350 ⟨by decide, rfl⟩ rfl rfl rfl t5 ?_
      refine zS_iload_n (zdec eX9_mean 20 rfl) rfl ?_
      have pb := pwB nl.1 nl.2
      have ob := odA_b VD hd0 (-1)
      refine zsJ (M' := mX9_partOf) (As := [zJ (odA D (-1)), zJ (pwI (D 0 9)), zI y]) (st := []) (zdec eX9_mean 21 rfl) kM_X9_160 kS_X9_partOf rfl rfl rfl (by omega) (c_partOf (by omega) (by omega) (by omega) (by omega) (by omega)) ?_
      exact zlMJ (zdec eX9_mean 22 rfl) rfl ⟨by unfold a_mean; rw [if_pos (by omega)], f5⟩
    · have z2 := d2i_0.mp c2
      refine zS_ldc2_w (zdec eX9_mean 6 rfl) kj_X9_352 rfl ?_
      exact zlMJ (zdec eX9_mean 7 rfl) rfl ⟨by unfold a_mean; rw [if_neg (by omega)], Fr.rf⟩

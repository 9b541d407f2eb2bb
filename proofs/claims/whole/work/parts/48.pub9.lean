theorem L_floor {d : Nat} {h : zH} {D : Dk} (hd : 19 ≤ d) (VD : DV D) (hd0 : 0 < D 0 0) (RD : DC h 15 D) : ∀ (n : Nat) (e u : Int) (h1 : zH), 0 ≤ e → e + n = 5001 → e ≤ u → Fr sQ h h1 → fsI (fun n => decide (totL (wS (pb0 D) 3 (5000 - n)) ≤ totL (pb0 D))) (min u (5000 - D 0 5)) = -1 → zS mX9_floor (zr d) 24 [zA 0, zI (totL (pb0 D)), zI (5000 - u), zI e] [] TT h1 (zAnI (fun r h' => r = (if fsI (fun n => decide (totL (wS (pb0 D) 3 (5000 - n)) ≤ totL (pb0 D))) (5000 - D 0 5) = -1 then D 0 5 else 5000 - fsI (fun n => decide (totL (wS (pb0 D) 3 (5000 - n)) ≤ totL (pb0 D))) (5000 - D 0 5)) ∧ Fr sQ h h')) := by
  intro n
  induction n with
  | zero =>
    intro e u h1 a1 a2 a3 i1 i2
    have RD1 : DC h1 15 D := RD.fr i1 (fun k j z => by omega)
    have vf := VD.fl
    refine zS_iload_n (zdec eX9_floor 13 rfl) rfl ?_
    refine zS_sipush (zdec eX9_floor 14 rfl) rfl rfl ?_
    refine zS_icmp_gt (tgt := 97) (zdec eX9_floor 15 rfl) rfl (fun cz => ?_) (fun cz => absurd (by omega) cz)
    refine zS_aload_n (zdec eX9_floor 48 rfl) rfl rfl ?_
    refine zS_getref (i := 2) (zdec eX9_floor 49 rfl) kF_X9_27 ⟨by decide, rfl⟩ rfl rfl rfl rfl rfl ?_
    refine zS_getfieldE (x := 5) (v := (D 0 5)) (zdec eX9_floor 50 rfl) kF_X9_193 ⟨by decide, rfl⟩ rfl rfl rfl (RD1.s (by decide) (by decide)) ?_
    rw [show min u (5000 - D 0 5) = 5000 - D 0 5 by omega] at i2
    exact zlMI (zdec eX9_floor 51 rfl) rfl ⟨by rw [i2, if_pos rfl], i1⟩
  | succ n ih =>
    intro e u h1 a1 a2 a3 i1 i2
    have RD1 : DC h1 15 D := RD.fr i1 (fun k j z => by omega)
    have vf := VD.fl
    refine zS_iload_n (zdec eX9_floor 13 rfl) rfl ?_
    refine zS_sipush (zdec eX9_floor 14 rfl) rfl rfl ?_
    refine zS_icmp_gt (tgt := 97) (zdec eX9_floor 15 rfl) rfl (fun cz => absurd cz (by omega)) (fun cz => ?_)
    refine zS_iload_n (zdec eX9_floor 16 rfl) rfl ?_
    refine zS_aload_n (zdec eX9_floor 17 rfl) rfl rfl ?_
    refine zS_getref (i := 2) (zdec eX9_floor 18 rfl) kF_X9_27 ⟨by decide, rfl⟩ rfl rfl rfl rfl rfl ?_
    refine zS_getfieldE (x := 5) (v := (D 0 5)) (zdec eX9_floor 19 rfl) kF_X9_193 ⟨by decide, rfl⟩ rfl rfl rfl (RD1.s (by decide) (by decide)) ?_
    refine zS_icmp_le (tgt := 97) (zdec eX9_floor 20 rfl) rfl (fun c1 => ?_) (fun c1 => ?_)
    · refine zS_aload_n (zdec eX9_floor 48 rfl) rfl rfl ?_
      refine zS_getref (i := 2) (zdec eX9_floor 49 rfl) kF_X9_27 ⟨by decide, rfl⟩ rfl rfl rfl rfl rfl ?_
      refine zS_getfieldE (x := 5) (v := (D 0 5)) (zdec eX9_floor 50 rfl) kF_X9_193 ⟨by decide, rfl⟩ rfl rfl rfl (RD1.s (by decide) (by decide)) ?_
      rw [show min u (5000 - D 0 5) = 5000 - D 0 5 by omega] at i2
      exact zlMI (zdec eX9_floor 51 rfl) rfl ⟨by rw [i2, if_pos rfl], i1⟩
    · refine zS_aload_n (zdec eX9_floor 21 rfl) rfl rfl ?_
      refine zS_getref (i := 1) (zdec eX9_floor 22 rfl) kF_X9_19 ⟨by decide, rfl⟩ rfl rfl rfl rfl rfl ?_
      refine zvMV (M' := mX8_asTold) (As := []) (st := []) (zdec eX9_floor 23 rfl) kM_X9_130 kV_X8_asTold ⟨by decide, rfl⟩ rfl rfl rfl rfl rfl (by omega) (c_asTold (by omega) hd0 VD RD1) (fun h2 ⟨R, cl2, g2⟩ => ?_)
      have V0 := pb0_V VD hd0
      have R := R.fl' V0 (5000 - u)
      have V := V0.fl' (v := (5000 - u)) (by omega) (by omega)
      refine zS_aload_n (zdec eX9_floor 24 rfl) rfl rfl ?_
      refine zS_getref (i := 1) (zdec eX9_floor 25 rfl) kF_X9_19 ⟨by decide, rfl⟩ rfl rfl rfl rfl rfl ?_
      refine zS_iload_n (zdec eX9_floor 26 rfl) rfl ?_
      refine zS_putfield (x := 3) (zdec eX9_floor 27 rfl) kF_X9_277 (Or.inl kf8_3) ⟨by decide, rfl⟩ rfl rfl rfl (Or.inl (fun q => by cases q)) ?_
      refine zS_aload_n (zdec eX9_floor 28 rfl) rfl rfl ?_
      refine zS_getref (i := 1) (zdec eX9_floor 29 rfl) kF_X9_19 ⟨by decide, rfl⟩ rfl rfl rfl rfl rfl ?_
      refine zvMV (M' := mX8_planByLaw) (As := []) (st := []) (zdec eX9_floor 30 rfl) kM_X9_271 kV_X8_planByLaw ⟨by decide, rfl⟩ rfl rfl rfl rfl rfl (by omega) (c_planByLaw (by omega) V R) (fun h3 ⟨S3, O3, m3, f3⟩ => ?_)
      have W3 := R.fr V f3 (fun k j z => by unfold wcP; omega)
      have g3 : Fr sQ h h3 := ((i1.tr g2 (S'' := sQ) (fun k j z => z) (fun k j z => by omega)).tr (Fr.rf.set (by omega) : Fr sQ h2 (zset h2 14 3 (5000 - u))) (fun k j z => z) (fun k j z => z)).tr f3 (fun k j z => z) (fun k j z => by omega)
      have mb := missB V
      refine zS_aload_n (zdec eX9_floor 31 rfl) rfl rfl ?_
      refine zS_getref (i := 1) (zdec eX9_floor 32 rfl) kF_X9_19 ⟨by decide, rfl⟩ rfl rfl rfl rfl rfl ?_
      refine zvI (M' := mX8_whole) (As := []) (st := []) (zdec eX9_floor 33 rfl) kM_X9_214 kV_X8_whole ⟨by decide, rfl⟩ rfl rfl rfl rfl rfl (by omega) (c_wholeL (by omega) V ⟨W3, S3, O3, m3⟩) ?_
      refine zS_iload_n (zdec eX9_floor 34 rfl) rfl ?_
      refine zS_icmp_gt (tgt := 77) (zdec eX9_floor 35 rfl) rfl (fun c2 => ?_) (fun c2 => ?_)
      · refine zS_iload_n (zdec eX9_floor 38 rfl) rfl ?_
        refine zS_iconst (zdec eX9_floor 39 rfl) rfl ?_
        refine zS_aload_n (zdec eX9_floor 40 rfl) rfl rfl ?_
        refine zS_getref (i := 1) (zdec eX9_floor 41 rfl) kF_X9_19 ⟨by decide, rfl⟩ rfl rfl rfl rfl rfl ?_
        refine zS_getfieldE (x := 14) (v := (missP (wS (pb0 D) 3 (5000 - u)))) (zdec eX9_floor 42 rfl) kF_X9_274 ⟨by decide, rfl⟩ rfl rfl rfl m3 ?_
        refine zS_max (zdec eX9_floor 43 rfl) kM_X9_278 rfl (by omega) ?_
        refine zS_isub (zdec eX9_floor 44 rfl) ⟨by omega, by omega⟩ ?_
        refine zS_istore_n (zdec eX9_floor 45 rfl) rfl ?_
        refine zS_iinc (zdec eX9_floor 46 rfl) rfl rfl ⟨by omega, by omega⟩ ?_
        refine zS_goto (tgt := 24) (zdec eX9_floor 47 rfl) rfl ?_
        have k := ih (e + 1) (u + max 1 (missP (wS (pb0 D) 3 (5000 - u)))) h3 (by omega) (by omega) (by omega) g3 (fsI_run (a := u) (by omega) (by omega) (by rw [show min u (5000 - D 0 5) = u by omega] at i2; exact i2) (fun n n0 n1 => decide_eq_false (by
            by_cases w : n = u
            · rw [w]; omega
            · have sh := shF (pb0 D) (5000 - u) (5000 - n)
              rw [tot_sh sh V (V0.fl' (v := 5000 - n) (by omega) (by omega)) (by omega) (Or.inr (by omega))]
              omega)))
        rw [show 5000 - (u + max 1 (missP (wS (pb0 D) 3 (5000 - u)))) = 5000 - u - max 1 (missP (wS (pb0 D) 3 (5000 - u))) by omega] at k
        exact k
      · refine zS_iload_n (zdec eX9_floor 36 rfl) rfl ?_
        have hh := fsI_hit (by omega) (show u < 5000 - D 0 5 by omega) (by rw [show min u (5000 - D 0 5) = u by omega] at i2; exact i2) (decide_eq_true (show totL (wS (pb0 D) 3 (5000 - u)) ≤ totL (pb0 D) by omega))
        exact zlMI (zdec eX9_floor 37 rfl) rfl ⟨by rw [hh, if_neg (by omega)], g3⟩
noncomputable def a_floor (D : Dk) : Int := if 0 < D 0 0 then (if fsI (fun n => decide (totL (wS (pb0 D) 3 (5000 - n)) ≤ totL (pb0 D))) (5000 - D 0 5) = -1 then D 0 5 else 5000 - fsI (fun n => decide (totL (wS (pb0 D) 3 (5000 - n)) ≤ totL (pb0 D))) (5000 - D 0 5)) else -2
theorem p_floor {d : Nat} {h : zH} {D : Dk} (hd : 20 ≤ d) (VD : DV D) (RD : DC h 15 D) : zMI d mX9_floor [zA 0] h (fun r h' => r = a_floor D ∧ Fr sQ h h') := by
  obtain ⟨p, hp⟩ : ∃ p, pb0 D = p := ⟨_, rfl⟩
  obtain ⟨q, hq⟩ : ∃ q, planP p = q := ⟨_, rfl⟩
  have pd : pDays p = D 0 1 := by rw [← hp]; rfl
  have pn : pNb p = D 0 8 := by rw [← hp]; rfl
  have dy := VD.days
  have nb := VD.nb
  have ns := VD.ns
  have nl := VD.nl
  have na := VD.na
  have vfl := VD.fl
  have vfe := VD.fee
  refine zmet rfl rfl rfl ?_
  refine zS_aload_n (zdec eX9_floor 0 rfl) rfl rfl ?_
  refine zvI (M' := mX9_isThere) (As := []) (st := []) (zdec eX9_floor 1 rfl) kM_X9_143 kV_X9_isThere ⟨by decide, rfl⟩ rfl rfl rfl rfl rfl (by omega) (c_isThere RD) ?_
  refine zS_if_ne (tgt := 10) (zdec eX9_floor 2 rfl) rfl (fun c1 => ?_) (fun c1 => ?_)
  · have z1 := d2i_n.mp c1
    refine zS_aload_n (zdec eX9_floor 5 rfl) rfl rfl ?_
    have hd0 : 0 < D 0 0 := by first | omega
    refine zvMA (M' := mX9_byLaw) (As := []) (st := []) (zdec eX9_floor 6 rfl) kM_X9_173 kV_X9_byLaw ⟨by decide, rfl⟩ rfl rfl rfl rfl rfl (by omega) (c_byLawP hp hq (by omega) VD hd0 RD) (fun h2 ⟨⟨V, R, S, O⟩, ⟨q0, q1, qi⟩, f2, RD2⟩ => ?_)
    refine zvI (M' := mX8_whole) (As := []) (st := []) (zdec eX9_floor 7 rfl) kM_X9_214 kV_X8_whole ⟨by decide, rfl⟩ rfl rfl rfl rfl rfl (by omega) (c_whole (by omega) V R S q0 q1) ?_
    refine zS_istore_n (zdec eX9_floor 8 rfl) rfl ?_
    refine zS_sipush (zdec eX9_floor 9 rfl) rfl rfl ?_
    refine zS_istore_n (zdec eX9_floor 10 rfl) rfl ?_
    refine zS_iconst (zdec eX9_floor 11 rfl) rfl ?_
    refine zS_istore_n (zdec eX9_floor 12 rfl) rfl ?_
    have k := L_floor (d := d) (by omega) VD hd0 RD 5001 0 0 h2 (by omega) (by omega) (by omega) f2 (by rw [show min 0 (5000 - D 0 5) = 0 by omega]; rfl)
    rw [show (5000 : Int) - 0 = 5000 from rfl] at k
    unfold a_floor
    rw [if_pos hd0]
    have tq : totL (pb0 D) = totalP p q := by unfold totL; rw [hp, hq]
    rw [tq] at k ⊢
    exact k
  · have z1 := d2i_0.mp c1
    refine zS_bipush (zdec eX9_floor 3 rfl) rfl rfl ?_
    exact zlMI (zdec eX9_floor 4 rfl) rfl ⟨by unfold a_floor; (try rw [hp]); (try rw [hq]); first | rw [if_pos (by omega)] | rw [if_neg (by omega)], Fr.rf⟩

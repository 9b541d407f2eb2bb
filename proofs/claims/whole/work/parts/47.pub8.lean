theorem fsI_run {f : Int → Bool} {a k : Int} (h0 : 0 ≤ a) (h1 : a ≤ k) (hn : fsI f a = -1) (hf : ∀ n, a ≤ n → n < k → f n = false) : fsI f k = -1 := by
  have g : ∀ j : Int, 0 ≤ j → a + j ≤ k → fsI f (a + j) = -1 := by
    refine up_ind (fun _ => by rw [Int.add_zero]; exact hn) (fun j hj ih hk => ?_)
    rw [← Int.add_assoc]
    exact fsI_next (by omega) (ih (by omega)) (hf _ (by omega) (by omega))
  have := g (k - a) (by omega) (by omega)
  rw [show a + (k - a) = k by omega] at this
  exact this
theorem missB {p : Pb} (V : PV p) : 0 ≤ missP p ∧ missP p ≤ 300000 := missQ_rng V (fun b hb => bl_pos (((ordP_is V).2 b).mp hb)) ⟨by omega, by omega⟩
theorem opn_sh {p p' : Pb} {δ : Int} (H : Sh p p' δ) (V : PV p) (V' : PV p') (hδ : 0 ≤ δ) (hk : missP p = 0 ∨ δ < missP p) : opnL p' = opnL p := by
  unfold opnL openP
  rw [planP_sh H V V' hδ hk, H.dy, H.nb, show onP p' (planP p) (pDays p) = onP p (planP p) (pDays p) from funext (H.on _ _)]
theorem tot_sh {p p' : Pb} {δ : Int} (H : Sh p p' δ) (V : PV p) (V' : PV p') (hδ : 0 ≤ δ) (hk : missP p = 0 ∨ δ < missP p) : totL p' = totL p := by
  unfold totL totalP feesP costsP
  rw [planP_sh H V V' hδ hk, H.dy, H.nb, H.fe, sumI_congr (fun d _ _ => by rw [H.used]), sumI_congr (f := fun b => if pIn p' b then priceP p' b (planP p b) else 0) (g := fun b => if pIn p b then priceP p b (planP p b) else 0) (fun b _ _ => by rw [H.price]; unfold pIn; rw [H.1])]
theorem shC (p : Pb) (c c' : Int) : Sh (wS p 5 c) (wS p 5 c') (c' - c) := ⟨rfl, fun j h3 h5 => by show (if j = 5 then c' else p.1 j) = (if j = 5 then c else p.1 j); rw [if_neg h5, if_neg h5], by show c' - pFl p = c - pFl p + (c' - c); omega⟩
theorem shF (p : Pb) (c c' : Int) : Sh (wS p 3 c) (wS p 3 c') (c - c') := ⟨rfl, fun j h3 h5 => by show (if j = 3 then c' else p.1 j) = (if j = 3 then c else p.1 j); rw [if_neg h3, if_neg h3], by show pCash p - c' = pCash p - c + (c - c'); omega⟩
theorem L_need {d : Nat} {h : zH} {D : Dk} (hd : 19 ≤ d) (VD : DV D) (hd0 : 0 < D 0 0) (RD : DC h 15 D) : ∀ (n : Nat) (e c : Int) (h1 : zH), 0 ≤ e → e + n = 10000 → e ≤ c → Fr sQ h h1 → fsI (fun n => decide (opnL (wS (pb0 D) 5 n) = 0)) (min c 10000) = -1 → zS mX9_need (zr d) 14 [zA 0, zI c, zI e] [] TT h1 (zAnI (fun r h' => r = fsI (fun n => decide (opnL (wS (pb0 D) 5 n) = 0)) 10000 ∧ Fr sQ h h')) := by
  intro n
  induction n with
  | zero =>
    intro e c h1 a1 a2 a3 i1 i2
    have RD1 : DC h1 15 D := RD.fr i1 (fun k j z => by omega)
    refine zS_iload_n (zdec eX9_need 9 rfl) rfl ?_
    refine zS_sipush (zdec eX9_need 10 rfl) rfl rfl ?_
    refine zS_icmp_gt (tgt := 90) (zdec eX9_need 11 rfl) rfl (fun cz => ?_) (fun cz => absurd (by omega) cz)
    refine zS_iconst (zdec eX9_need 45 rfl) rfl ?_
    exact zlMI (zdec eX9_need 46 rfl) rfl ⟨by rw [show min c 10000 = 10000 by omega] at i2; exact i2.symm, i1⟩
  | succ n ih =>
    intro e c h1 a1 a2 a3 i1 i2
    have RD1 : DC h1 15 D := RD.fr i1 (fun k j z => by omega)
    refine zS_iload_n (zdec eX9_need 9 rfl) rfl ?_
    refine zS_sipush (zdec eX9_need 10 rfl) rfl rfl ?_
    refine zS_icmp_gt (tgt := 90) (zdec eX9_need 11 rfl) rfl (fun cz => absurd cz (by omega)) (fun cz => ?_)
    refine zS_iload_n (zdec eX9_need 12 rfl) rfl ?_
    refine zS_sipush (zdec eX9_need 13 rfl) rfl rfl ?_
    refine zS_icmp_gt (tgt := 90) (zdec eX9_need 14 rfl) rfl (fun c1 => ?_) (fun c1 => ?_)
    · refine zS_iconst (zdec eX9_need 45 rfl) rfl ?_
      exact zlMI (zdec eX9_need 46 rfl) rfl ⟨by rw [show min c 10000 = 10000 by omega] at i2; exact i2.symm, i1⟩
    · refine zS_aload_n (zdec eX9_need 15 rfl) rfl rfl ?_
      refine zS_getref (i := 1) (zdec eX9_need 16 rfl) kF_X9_19 ⟨by decide, rfl⟩ rfl rfl rfl rfl rfl ?_
      refine zvMV (M' := mX8_asTold) (As := []) (st := []) (zdec eX9_need 17 rfl) kM_X9_130 kV_X8_asTold ⟨by decide, rfl⟩ rfl rfl rfl rfl rfl (by omega) (c_asTold (by omega) hd0 VD RD1) (fun h2 ⟨R, cl2, g2⟩ => ?_)
      have V0 := pb0_V VD hd0
      have R := R.cash' V0 c
      have V := V0.cash' (v := c) (by omega) (by omega)
      refine zS_aload_n (zdec eX9_need 18 rfl) rfl rfl ?_
      refine zS_getref (i := 1) (zdec eX9_need 19 rfl) kF_X9_19 ⟨by decide, rfl⟩ rfl rfl rfl rfl rfl ?_
      refine zS_iload_n (zdec eX9_need 20 rfl) rfl ?_
      refine zS_putfield (x := 2) (zdec eX9_need 21 rfl) kF_X9_268 (Or.inl kf8_2) ⟨by decide, rfl⟩ rfl rfl rfl (Or.inl (fun q => by cases q)) ?_
      refine zS_aload_n (zdec eX9_need 22 rfl) rfl rfl ?_
      refine zS_getref (i := 1) (zdec eX9_need 23 rfl) kF_X9_19 ⟨by decide, rfl⟩ rfl rfl rfl rfl rfl ?_
      refine zvMV (M' := mX8_planByLaw) (As := []) (st := []) (zdec eX9_need 24 rfl) kM_X9_271 kV_X8_planByLaw ⟨by decide, rfl⟩ rfl rfl rfl rfl rfl (by omega) (c_planByLaw (by omega) V R) (fun h3 ⟨S3, O3, m3, f3⟩ => ?_)
      have W3 := R.fr V f3 (fun k j z => by unfold wcP; omega)
      have g3 : Fr sQ h h3 := ((i1.tr g2 (S'' := sQ) (fun k j z => z) (fun k j z => by omega)).tr (Fr.rf.set (by omega) : Fr sQ h2 (zset h2 14 2 c)) (fun k j z => z) (fun k j z => z)).tr f3 (fun k j z => z) (fun k j z => by omega)
      have mb := missB V
      refine zS_aload_n (zdec eX9_need 25 rfl) rfl rfl ?_
      refine zS_getref (i := 1) (zdec eX9_need 26 rfl) kF_X9_19 ⟨by decide, rfl⟩ rfl rfl rfl rfl rfl ?_
      refine zvI (M' := mX8_unpaid) (As := []) (st := []) (zdec eX9_need 27 rfl) kM_X9_199 kV_X8_unpaid ⟨by decide, rfl⟩ rfl rfl rfl rfl rfl (by omega) (c_unpaidL (by omega) V ⟨W3, S3, O3, m3⟩) ?_
      refine zS_if_ne (tgt := 62) (zdec eX9_need 28 rfl) rfl (fun c2 => ?_) (fun c2 => ?_)
      · refine zS_aload_n (zdec eX9_need 31 rfl) rfl rfl ?_
        refine zS_getref (i := 1) (zdec eX9_need 32 rfl) kF_X9_19 ⟨by decide, rfl⟩ rfl rfl rfl rfl rfl ?_
        refine zS_getfieldE (x := 14) (v := (missP (wS (pb0 D) 5 c))) (zdec eX9_need 33 rfl) kF_X9_274 ⟨by decide, rfl⟩ rfl rfl rfl m3 ?_
        refine zS_if_ne (tgt := 74) (zdec eX9_need 34 rfl) rfl (fun c3 => ?_) (fun c3 => ?_)
        · refine zS_iload_n (zdec eX9_need 37 rfl) rfl ?_
          refine zS_aload_n (zdec eX9_need 38 rfl) rfl rfl ?_
          refine zS_getref (i := 1) (zdec eX9_need 39 rfl) kF_X9_19 ⟨by decide, rfl⟩ rfl rfl rfl rfl rfl ?_
          refine zS_getfieldE (x := 14) (v := (missP (wS (pb0 D) 5 c))) (zdec eX9_need 40 rfl) kF_X9_274 ⟨by decide, rfl⟩ rfl rfl rfl m3 ?_
          refine zS_iadd (zdec eX9_need 41 rfl) ⟨by omega, by omega⟩ ?_
          refine zS_istore_n (zdec eX9_need 42 rfl) rfl ?_
          refine zS_iinc (zdec eX9_need 43 rfl) rfl rfl ⟨by omega, by omega⟩ ?_
          refine zS_goto (tgt := 14) (zdec eX9_need 44 rfl) rfl ?_
          exact ih (e + 1) (c + missP (wS (pb0 D) 5 c)) h3 (by omega) (by omega) (by omega) g3 (fsI_run (a := c) (by omega) (by omega) (by rw [show min c 10000 = c by omega] at i2; exact i2) (fun n n0 n1 => decide_eq_false (by rw [opn_sh (shC (pb0 D) c n) V (V0.cash' (v := n) (by omega) (by omega)) (by omega) (Or.inr (by omega))]; assumption)))
        · refine zS_iconst (zdec eX9_need 35 rfl) rfl ?_
          exact zlMI (zdec eX9_need 36 rfl) rfl ⟨(fsI_run (a := c) (k := 10000) (by omega) (by omega) (by rw [show min c 10000 = c by omega] at i2; exact i2) (fun n n0 n1 => decide_eq_false (by rw [opn_sh (shC (pb0 D) c n) V (V0.cash' (v := n) (by omega) (by omega)) (by omega) (Or.inl c3)]; exact c2))).symm, g3⟩
      · refine zS_iload_n (zdec eX9_need 29 rfl) rfl ?_
        exact zlMI (zdec eX9_need 30 rfl) rfl ⟨(fsI_hit (by omega) (show c < 10000 by omega) (by rw [show min c 10000 = c by omega] at i2; exact i2) (decide_eq_true (by omega))).symm, g3⟩
noncomputable def a_need (D : Dk) : Int := if 0 < D 0 0 then fsI (fun n => decide (opnL (wS (pb0 D) 5 n) = 0)) 10000 else -2
theorem p_need {d : Nat} {h : zH} {D : Dk} (hd : 20 ≤ d) (VD : DV D) (RD : DC h 15 D) : zMI d mX9_need [zA 0] h (fun r h' => r = a_need D ∧ Fr sQ h h') := by
  obtain ⟨p, hp⟩ : ∃ p, pb0 D = p := ⟨_, rfl⟩
  obtain ⟨q, hq⟩ : ∃ q, planP p = q := ⟨_, rfl⟩
  have pd : pDays p = D 0 1 := by rw [← hp]; rfl
  have pn : pNb p = D 0 8 := by rw [← hp]; rfl
  have dy := VD.days
  have nb := VD.nb
  have ns := VD.ns
  have nl := VD.nl
  have na := VD.na
  have vfl := VD.fl
  have vfe := VD.fee
  refine zmet rfl rfl rfl ?_
  refine zS_aload_n (zdec eX9_need 0 rfl) rfl rfl ?_
  refine zvI (M' := mX9_isThere) (As := []) (st := []) (zdec eX9_need 1 rfl) kM_X9_143 kV_X9_isThere ⟨by decide, rfl⟩ rfl rfl rfl rfl rfl (by omega) (c_isThere RD) ?_
  refine zS_if_ne (tgt := 10) (zdec eX9_need 2 rfl) rfl (fun c1 => ?_) (fun c1 => ?_)
  · have z1 := d2i_n.mp c1
    refine zS_iconst (zdec eX9_need 5 rfl) rfl ?_
    refine zS_istore_n (zdec eX9_need 6 rfl) rfl ?_
    refine zS_iconst (zdec eX9_need 7 rfl) rfl ?_
    refine zS_istore_n (zdec eX9_need 8 rfl) rfl ?_
    have hd0 : 0 < D 0 0 := by omega
    have k := L_need (d := d) (by omega) VD hd0 RD 10000 0 0 h (by omega) (by omega) (by omega) Fr.rf rfl
    unfold a_need
    rw [if_pos hd0]
    exact k
  · have z1 := d2i_0.mp c1
    refine zS_bipush (zdec eX9_need 3 rfl) rfl rfl ?_
    exact zlMI (zdec eX9_need 4 rfl) rfl ⟨by unfold a_need; (try rw [hp]); (try rw [hq]); first | rw [if_pos (by omega)] | rw [if_neg (by omega)], Fr.rf⟩

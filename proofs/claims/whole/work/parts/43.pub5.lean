theorem totB {p : Pb} (V : PV p) {q : Int → Int} (hq : ∀ c, 0 ≤ q c ∧ q c ≤ pDays p) : 0 ≤ totalP p q ∧ totalP p q ≤ 20000 := by
  have nb := V.nb
  have dy := V.days
  have f := feesB V q (k := pDays p) (by omega) (by omega)
  have c := costsB V (q := q) (fun b => by have := hq b; omega) (k := pNb p) nb.1 (by omega)
  unfold totalP feesP costsP
  omega
theorem stI_rng {p : Pb} (V : PV p) {fb fd L : Int} (hL : 0 ≤ L) : ∀ k : Int, 0 ≤ k → (0 ≤ (stI p fb fd L k).1 ∧ (stI p fb fd L k).1 ≤ L) ∧ ((stI p fb fd L k).2 = -1 ∨ (0 ≤ (stI p fb fd L k).2 ∧ (stI p fb fd L k).2 < k ∧ (stI p fb fd L k).1 ≤ 20000 ∧ (stI p fb fd L k).1 < L ∧ (stI p fb fd L k).1 = totN p (stI p fb fd L k).2)) := by
  refine up_ind ⟨⟨hL, Int.le_refl L⟩, Or.inl rfl⟩ (fun j hj ih => ?_)
  rw [stI_s hj]
  have tb := totB V (q := preP p (pNb p) j) (preP_rng V _ _)
  split
  · rename_i z
    rw [Bool.and_eq_true, decide_eq_true_eq] at z
    have z2 := z.2
    unfold totN at z2 ⊢
    refine ⟨?_, Or.inr ⟨?_, ?_, ?_, ?_, rfl⟩⟩ <;> simp only <;> omega
  · refine ⟨ih.1, ?_⟩
    rcases ih.2 with z | z
    · exact Or.inl z
    · exact Or.inr ⟨z.1, by omega, z.2.2⟩
theorem stI_none {p : Pb} {fb fd L : Int} : ∀ k : Int, 0 ≤ k → (stI p fb fd L k).2 = -1 → (stI p fb fd L k).1 = L ∧ ∀ n, 0 ≤ n → n < k → okN p fb fd n = true → L ≤ totN p n := by
  refine up_ind (fun _ => ⟨rfl, fun n a b => by omega⟩) (fun j hj ih h => ?_)
  rw [stI_s hj] at h ⊢
  split at h
  · have : j = -1 := h
    omega
  · rename_i z
    rw [if_neg z]
    obtain ⟨i1, i2⟩ := ih h
    refine ⟨i1, fun n n0 n1 ok => ?_⟩
    by_cases e : n = j
    · subst e
      rw [ok, Bool.true_and, decide_eq_true_eq, i1] at z
      omega
    · exact i2 n n0 (by omega) ok
theorem pre_last {p : Pb} (V : PV p) : ∀ n : Nat, preN p n (bwN p n - 1) = fun _ => pDays p := by
  have dy := V.days
  intro n
  induction n with
  | zero => rfl
  | succ n ih =>
    have e : bwN p (n + 1) - 1 = (bwN p n - 1) * (pDays p + 1) + pDays p := by
      show bwN p n * (pDays p + 1) - 1 = _
      rw [Int.sub_mul]
      omega
    have h := divmod (B := pDays p + 1) (m := bwN p n - 1) (d := pDays p) (by omega) (by omega) (by omega)
    show updI (preN p n ((bwN p (n + 1) - 1) / (pDays p + 1))) (n : Int) ((bwN p (n + 1) - 1) % (pDays p + 1)) = _
    rw [e, h.1, h.2, ih]
    funext c
    unfold updI
    split <;> rfl
theorem stA_rng {p : Pb} (V : PV p) {fb fd L : Int} (hL : 0 ≤ L) : 0 ≤ (stA p fb fd L).1 ∧ (stA p fb fd L).1 ≤ L := (stI_rng V hL _ (by have := bw_pos V (pNb p).toNat; omega)).1
theorem stA_found {p : Pb} (V : PV p) {L : Int} (hL : 20000 < L) : 0 ≤ (stA p (-1) (-1) L).2 ∧ (stA p (-1) (-1) L).1 ≤ 20000 := by
  have bp := bw_pos V (pNb p).toNat
  rcases (stI_rng V (fb := -1) (fd := -1) (L := L) (by omega) _ (show 0 ≤ bwN p (pNb p).toNat by omega)).2 with z | z
  · exfalso
    have h := (stI_none _ (by omega) z).2 (bwN p (pNb p).toNat - 1) (by omega) (by omega) (by
      unfold okN
      rw [show preP p (pNb p) (bwN p (pNb p).toNat - 1) = fun _ => pDays p from pre_last V _, law_none]
      rfl)
    have tb := totB V (q := preP p (pNb p) (bwN p (pNb p).toNat - 1)) (preP_rng V _ _)
    unfold totN at h
    omega
  · exact ⟨z.1, z.2.2.1⟩
theorem pb0_in (D : Dk) (c : Int) : pIn (pb0 D) c = true := rfl
theorem c_leastOfAll {d : Nat} {h : zH} {D : Dk} {p : Pb} (hp : pb0 D = p) (hd : 17 ≤ d) (VD : DV D) (hd0 : 0 < D 0 0) (RD : DC h 15 D) : zMI d mX9_leastOfAll [zA 0] h (fun r h' => r = (stA p (-1) (-1) 2147483647).1 ∧ (PV p ∧ SeS h' p (stA p (-1) (-1) 2147483647)) ∧ Fr sQ h h' ∧ DC h' 15 D) := by
  have pn : pNb p = D 0 8 := by rw [← hp]; rfl
  have nb := VD.nb
  have hin : ∀ c, 0 ≤ c → c < pNb p → pIn p c = true := fun c _ _ => by rw [← hp]; rfl
  refine zmet rfl rfl rfl ?_
  refine zS_aload_n (zdec eX9_leastOfAll 0 rfl) rfl rfl ?_
  refine zS_getref (i := 1) (zdec eX9_leastOfAll 1 rfl) kF_X9_19 ⟨by decide, rfl⟩ rfl rfl rfl rfl rfl ?_
  refine zvMV (M' := mX8_asTold) (As := []) (st := []) (zdec eX9_leastOfAll 2 rfl) kM_X9_130 kV_X8_asTold ⟨by decide, rfl⟩ rfl rfl rfl rfl rfl (by omega) (c_asTold (by omega) hd0 VD RD) (fun h2 ⟨R, cl2, g2⟩ => ?_)
  have V := pb0_V VD hd0
  rw [hp] at R V
  have f2 : Fr sQ h h2 := g2.mono (fun k j z => by omega)
  have RD2 : DC h2 15 D := RD.fr g2 (fun k j z => by omega)
  refine zS_aload_n (zdec eX9_leastOfAll 3 rfl) rfl rfl ?_
  refine zS_getref (i := 6) (zdec eX9_leastOfAll 4 rfl) kF_X9_49 ⟨by decide, rfl⟩ rfl rfl rfl rfl rfl ?_
  refine zS_aload_n (zdec eX9_leastOfAll 5 rfl) rfl rfl ?_
  refine zS_getref (i := 1) (zdec eX9_leastOfAll 6 rfl) kF_X9_19 ⟨by decide, rfl⟩ rfl rfl rfl rfl rfl ?_
  refine zS_iconst (zdec eX9_leastOfAll 7 rfl) rfl ?_
  refine zS_iconst (zdec eX9_leastOfAll 8 rfl) rfl ?_
  refine zS_ldc_w (zdec eX9_leastOfAll 9 rfl) kc_X9_257 rfl ?_
  refine zvMI (M' := mX4_least) (As := [zA 14, zI (-1), zI (-1), zI 2147483647]) (st := []) (zdec eX9_leastOfAll 10 rfl) kM_X9_258 kV_X4_least ⟨by decide, rfl⟩ rfl rfl rfl rfl rfl (by omega) (c_least (fb := -1) (fd := -1) (L := 2147483647) (by omega) V hin R (by omega) (by omega)) (fun x5 h5 ⟨hx5, S5, g5⟩ => ?_)
  have f5 : Fr sQ h h5 := f2.tr g5 (fun k j z => z) (fun k j z => by omega)
  have RD5 : DC h5 15 D := RD.fr f5 (fun k j z => by omega)
  exact zlMI (zdec eX9_leastOfAll 11 rfl) rfl ⟨hx5, ⟨V, S5⟩, f5, RD5⟩
noncomputable def a_best (D : Dk) : Int := if 0 < D 0 0 then (stA (pb0 D) (-1) (-1) 2147483647).1 else -2
theorem p_best {d : Nat} {h : zH} {D : Dk} (hd : 20 ≤ d) (VD : DV D) (RD : DC h 15 D) : zMI d mX9_best [zA 0] h (fun r h' => r = a_best D ∧ Fr sQ h h') := by
  obtain ⟨p, hp⟩ : ∃ p, pb0 D = p := ⟨_, rfl⟩
  obtain ⟨q, hq⟩ : ∃ q, planP p = q := ⟨_, rfl⟩
  have pd : pDays p = D 0 1 := by rw [← hp]; rfl
  have pn : pNb p = D 0 8 := by rw [← hp]; rfl
  have dy := VD.days
  have nb := VD.nb
  have ns := VD.ns
  have nl := VD.nl
  have na := VD.na
  have vfl := VD.fl
  have vfe := VD.fee
  refine zmet rfl rfl rfl ?_
  refine zS_aload_n (zdec eX9_best 0 rfl) rfl rfl ?_
  refine zvI (M' := mX9_isThere) (As := []) (st := []) (zdec eX9_best 1 rfl) kM_X9_143 kV_X9_isThere ⟨by decide, rfl⟩ rfl rfl rfl rfl rfl (by omega) (c_isThere RD) ?_
  refine zS_if_eq (tgt := 14) (zdec eX9_best 2 rfl) rfl (fun c1 => ?_) (fun c1 => ?_)
  · have z1 := d2i_0.mp c1
    refine zS_bipush (zdec eX9_best 6 rfl) rfl rfl ?_
    exact zlMI (zdec eX9_best 7 rfl) rfl ⟨by unfold a_best; rw [if_neg (by omega)], Fr.rf⟩
  · have z1 := d2i_n.mp c1
    refine zS_aload_n (zdec eX9_best 3 rfl) rfl rfl ?_
    have hd0 : 0 < D 0 0 := by first | omega
    refine zvMI (M' := mX9_leastOfAll) (As := []) (st := []) (zdec eX9_best 4 rfl) kM_X9_240 kV_X9_leastOfAll ⟨by decide, rfl⟩ rfl rfl rfl rfl rfl (by omega) (c_leastOfAll hp (by omega) VD hd0 RD) (fun x5 h5 ⟨hx5, ⟨V, S5⟩, g5, RD5⟩ => ?_)
    have f5 : Fr sQ h h5 := g5
    have fo := stA_found V (L := 2147483647) (by omega)
    have sr := stA_rng V (fb := -1) (fd := -1) (L := 2147483647) (by omega)
    refine zS_goto (tgt := 16) (zdec eX9_best 5 rfl) rfl ?_
    exact zlMI (zdec eX9_best 7 rfl) rfl ⟨by unfold a_best; rw [hp, if_pos (by omega)]; exact hx5, f5⟩
noncomputable def a_choice (D : Dk) (x : Int) : Int := if 0 ≤ x ∧ x < D 0 8 then dayC (pb0 D) (preP (pb0 D) (pNb (pb0 D)) (stA (pb0 D) (-1) (-1) 2147483647).2) x else -2
theorem p_choice {d : Nat} {h : zH} {D : Dk} {x : Int} (hd : 20 ≤ d) (VD : DV D) (RD : DC h 15 D) : zMI d mX9_choice [zA 0, zI x] h (fun r h' => r = a_choice D x ∧ Fr sQ h h') := by
  obtain ⟨p, hp⟩ : ∃ p, pb0 D = p := ⟨_, rfl⟩
  obtain ⟨q, hq⟩ : ∃ q, planP p = q := ⟨_, rfl⟩
  have pd : pDays p = D 0 1 := by rw [← hp]; rfl
  have pn : pNb p = D 0 8 := by rw [← hp]; rfl
  have dy := VD.days
  have nb := VD.nb
  have ns := VD.ns
  have nl := VD.nl
  have na := VD.na
  have vfl := VD.fl
  have vfe := VD.fee
  refine zmet rfl rfl rfl ?_
  refine zS_aload_n (zdec eX9_choice 0 rfl) rfl rfl ?_
  refine zS_iload_n (zdec eX9_choice 1 rfl) rfl ?_
  refine zvI (M' := mX9_isBill) (As := [zI x]) (st := []) (zdec eX9_choice 2 rfl) kM_X9_116 kV_X9_isBill ⟨by decide, rfl⟩ rfl rfl rfl rfl rfl (by omega) (c_isBill RD) ?_
  refine zS_if_ne (tgt := 11) (zdec eX9_choice 3 rfl) rfl (fun c1 => ?_) (fun c1 => ?_)
  · have z1 := d2i_n.mp c1
    refine zS_aload_n (zdec eX9_choice 6 rfl) rfl rfl ?_
    have hd0 : 0 < D 0 0 := by first | omega | exact VD.bill (show 0 ≤ x by omega) (show x < D 0 8 by omega) | exact VD.day (show 0 ≤ x by omega) (show x < D 0 1 by omega) | exact VD.sup (show 0 ≤ x by omega) (show x < D 0 7 by omega)
    refine zvMI (M' := mX9_leastOfAll) (As := []) (st := []) (zdec eX9_choice 7 rfl) kM_X9_240 kV_X9_leastOfAll ⟨by decide, rfl⟩ rfl rfl rfl rfl rfl (by omega) (c_leastOfAll hp (by omega) VD hd0 RD) (fun x5 h5 ⟨hx5, ⟨V, S5⟩, g5, RD5⟩ => ?_)
    have f5 : Fr sQ h h5 := g5
    have fo := stA_found V (L := 2147483647) (by omega)
    have sr := stA_rng V (fb := -1) (fd := -1) (L := 2147483647) (by omega)
    refine zS_pop (zdec eX9_choice 8 rfl) (fun q => by cases q) ?_
    refine zS_aload_n (zdec eX9_choice 9 rfl) rfl rfl ?_
    refine zS_getref (i := 6) (zdec eX9_choice 10 rfl) kF_X9_49 ⟨by decide, rfl⟩ rfl rfl rfl rfl rfl ?_
    refine zS_getref (i := 48) (zdec eX9_choice 11 rfl) kF_X9_243 ⟨by decide, rfl⟩ rfl rfl rfl rfl rfl ?_
    refine zS_iload_n (zdec eX9_choice 12 rfl) rfl ?_
    refine zS_ialoadE (v := (preP p (pNb p) (stA p (-1) (-1) 2147483647).2 x)) (zdec eX9_choice 13 rfl) ⟨by decide, rfl⟩ (by omega) (by omega) (S5.2 fo.1 x (by omega) (by omega)) ?_
    refine zS_istore_n (zdec eX9_choice 14 rfl) rfl ?_
    refine zS_iload_n (zdec eX9_choice 15 rfl) rfl ?_
    refine zS_aload_n (zdec eX9_choice 16 rfl) rfl rfl ?_
    refine zS_getref (i := 2) (zdec eX9_choice 17 rfl) kF_X9_27 ⟨by decide, rfl⟩ rfl rfl rfl rfl rfl ?_
    refine zS_getfieldE (x := 1) (v := (D 0 1)) (zdec eX9_choice 18 rfl) kF_X9_127 ⟨by decide, rfl⟩ rfl rfl rfl (RD5.s (by decide) (by decide)) ?_
    refine zS_icmp_ge (tgt := 41) (zdec eX9_choice 19 rfl) rfl (fun c2 => ?_) (fun c2 => ?_)
    · refine zS_iconst (zdec eX9_choice 22 rfl) rfl ?_
      exact zlMI (zdec eX9_choice 23 rfl) rfl ⟨by unfold a_choice; rw [hp, if_pos (by omega)]; unfold dayC; rw [if_neg (by omega)], f5⟩
    · refine zS_iload_n (zdec eX9_choice 20 rfl) rfl ?_
      refine zS_goto (tgt := 42) (zdec eX9_choice 21 rfl) rfl ?_
      exact zlMI (zdec eX9_choice 23 rfl) rfl ⟨by unfold a_choice; rw [hp, if_pos (by omega)]; unfold dayC; rw [if_pos (by omega)], f5⟩
  · have z1 := d2i_0.mp c1
    refine zS_bipush (zdec eX9_choice 4 rfl) rfl rfl ?_
    exact zlMI (zdec eX9_choice 5 rfl) rfl ⟨by unfold a_choice; rw [if_neg (by omega)], Fr.rf⟩
noncomputable def a_waste (D : Dk) : Int := if 0 < D 0 0 then totalP (pb0 D) (planP (pb0 D)) - (stA (pb0 D) (-1) (-1) 2147483647).1 else -2
theorem p_waste {d : Nat} {h : zH} {D : Dk} (hd : 20 ≤ d) (VD : DV D) (RD : DC h 15 D) : zMI d mX9_waste [zA 0] h (fun r h' => r = a_waste D ∧ Fr sQ h h') := by
  obtain ⟨p, hp⟩ : ∃ p, pb0 D = p := ⟨_, rfl⟩
  obtain ⟨q, hq⟩ : ∃ q, planP p = q := ⟨_, rfl⟩
  have pd : pDays p = D 0 1 := by rw [← hp]; rfl
  have pn : pNb p = D 0 8 := by rw [← hp]; rfl
  have dy := VD.days
  have nb := VD.nb
  have ns := VD.ns
  have nl := VD.nl
  have na := VD.na
  have vfl := VD.fl
  have vfe := VD.fee
  refine zmet rfl rfl rfl ?_
  refine zS_aload_n (zdec eX9_waste 0 rfl) rfl rfl ?_
  refine zvI (M' := mX9_isThere) (As := []) (st := []) (zdec eX9_waste 1 rfl) kM_X9_143 kV_X9_isThere ⟨by decide, rfl⟩ rfl rfl rfl rfl rfl (by omega) (c_isThere RD) ?_
  refine zS_if_ne (tgt := 10) (zdec eX9_waste 2 rfl) rfl (fun c1 => ?_) (fun c1 => ?_)
  · have z1 := d2i_n.mp c1
    refine zS_aload_n (zdec eX9_waste 5 rfl) rfl rfl ?_
    have hd0 : 0 < D 0 0 := by first | omega
    refine zvMA (M' := mX9_byLaw) (As := []) (st := []) (zdec eX9_waste 6 rfl) kM_X9_173 kV_X9_byLaw ⟨by decide, rfl⟩ rfl rfl rfl rfl rfl (by omega) (c_byLawP hp hq (by omega) VD hd0 RD) (fun h2 ⟨⟨V, R, S, O⟩, ⟨q0, q1, qi⟩, f2, RD2⟩ => ?_)
    refine zvI (M' := mX8_whole) (As := []) (st := []) (zdec eX9_waste 7 rfl) kM_X9_214 kV_X8_whole ⟨by decide, rfl⟩ rfl rfl rfl rfl rfl (by omega) (c_whole (by omega) V R S q0 q1) ?_
    refine zS_istore_n (zdec eX9_waste 8 rfl) rfl ?_
    refine zS_iload_n (zdec eX9_waste 9 rfl) rfl ?_
    refine zS_aload_n (zdec eX9_waste 10 rfl) rfl rfl ?_
    have tb := totB V (q := q) (fun c => ⟨q0 c, q1 c⟩)
    refine zvMI (M' := mX9_leastOfAll) (As := []) (st := [zI (totalP p q)]) (zdec eX9_waste 11 rfl) kM_X9_240 kV_X9_leastOfAll ⟨by decide, rfl⟩ rfl rfl rfl rfl rfl (by omega) (c_leastOfAll hp (by omega) VD hd0 RD2) (fun x5 h5 ⟨hx5, ⟨V, S5⟩, g5, RD5⟩ => ?_)
    have f5 : Fr sQ h h5 := f2.tr g5 (fun k j z => z) (fun k j z => z)
    have fo := stA_found V (L := 2147483647) (by omega)
    have sr := stA_rng V (fb := -1) (fd := -1) (L := 2147483647) (by omega)
    refine zS_isub (zdec eX9_waste 12 rfl) ⟨by omega, by omega⟩ ?_
    exact zlMI (zdec eX9_waste 13 rfl) rfl ⟨by unfold a_waste; rw [hp, hq, if_pos (by omega), hx5], f5⟩
  · have z1 := d2i_0.mp c1
    refine zS_bipush (zdec eX9_waste 3 rfl) rfl rfl ?_
    exact zlMI (zdec eX9_waste 4 rfl) rfl ⟨by unfold a_waste; rw [if_neg (by omega)], Fr.rf⟩
noncomputable def a_with (D : Dk) (x y : Int) : Int := if (0 ≤ x ∧ x < D 0 8) ∧ 0 ≤ y ∧ y < D 0 1 then (if (stA (pb0 D) x y 2147483647).1 < 2147483647 then (stA (pb0 D) x y 2147483647).1 else -1) else -2
theorem p_with {d : Nat} {h : zH} {D : Dk} {x y : Int} (hd : 20 ≤ d) (VD : DV D) (RD : DC h 15 D) : zMI d mX9_with [zA 0, zI x, zI y] h (fun r h' => r = a_with D x y ∧ Fr sQ h h') := by
  obtain ⟨p, hp⟩ : ∃ p, pb0 D = p := ⟨_, rfl⟩
  obtain ⟨q, hq⟩ : ∃ q, planP p = q := ⟨_, rfl⟩
  have pd : pDays p = D 0 1 := by rw [← hp]; rfl
  have pn : pNb p = D 0 8 := by rw [← hp]; rfl
  have dy := VD.days
  have nb := VD.nb
  have ns := VD.ns
  have nl := VD.nl
  have na := VD.na
  have vfl := VD.fl
  have vfe := VD.fee
  refine zmet rfl rfl rfl ?_
  refine zS_aload_n (zdec eX9_with 0 rfl) rfl rfl ?_
  refine zS_iload_n (zdec eX9_with 1 rfl) rfl ?_
  refine zvI (M' := mX9_isBill) (As := [zI x]) (st := []) (zdec eX9_with 2 rfl) kM_X9_116 kV_X9_isBill ⟨by decide, rfl⟩ rfl rfl rfl rfl rfl (by omega) (c_isBill RD) ?_
  refine zS_if_eq (tgt := 16) (zdec eX9_with 3 rfl) rfl (fun c1 => ?_) (fun c1 => ?_)
  · have z1 := d2i_0.mp c1
    refine zS_bipush (zdec eX9_with 8 rfl) rfl rfl ?_
    exact zlMI (zdec eX9_with 9 rfl) rfl ⟨by unfold a_with; rw [if_neg (by omega)], Fr.rf⟩
  · have z1 := d2i_n.mp c1
    refine zS_aload_n (zdec eX9_with 4 rfl) rfl rfl ?_
    refine zS_iload_n (zdec eX9_with 5 rfl) rfl ?_
    refine zvI (M' := mX9_isDay) (As := [zI y]) (st := []) (zdec eX9_with 6 rfl) kM_X9_137 kV_X9_isDay ⟨by decide, rfl⟩ rfl rfl rfl rfl rfl (by omega) (c_isDay RD) ?_
    refine zS_if_ne (tgt := 19) (zdec eX9_with 7 rfl) rfl (fun c2 => ?_) (fun c2 => ?_)
    · have z2 := d2i_n.mp c2
      refine zS_aload_n (zdec eX9_with 10 rfl) rfl rfl ?_
      refine zS_getref (i := 1) (zdec eX9_with 11 rfl) kF_X9_19 ⟨by decide, rfl⟩ rfl rfl rfl rfl rfl ?_
      have hd0 : 0 < D 0 0 := by first | omega | exact VD.bill (show 0 ≤ x by omega) (show x < D 0 8 by omega) | exact VD.day (show 0 ≤ x by omega) (show x < D 0 1 by omega) | exact VD.sup (show 0 ≤ x by omega) (show x < D 0 7 by omega)
      refine zvMV (M' := mX8_asTold) (As := []) (st := []) (zdec eX9_with 12 rfl) kM_X9_130 kV_X8_asTold ⟨by decide, rfl⟩ rfl rfl rfl rfl rfl (by omega) (c_asTold (by omega) hd0 VD RD) (fun h2 ⟨R, cl2, g2⟩ => ?_)
      have V := pb0_V VD hd0
      rw [hp] at R V
      have f2 : Fr sQ h h2 := g2.mono (fun k j z => by omega)
      have RD2 : DC h2 15 D := RD.fr g2 (fun k j z => by omega)
      refine zS_aload_n (zdec eX9_with 13 rfl) rfl rfl ?_
      refine zS_getref (i := 6) (zdec eX9_with 14 rfl) kF_X9_49 ⟨by decide, rfl⟩ rfl rfl rfl rfl rfl ?_
      refine zS_aload_n (zdec eX9_with 15 rfl) rfl rfl ?_
      refine zS_getref (i := 1) (zdec eX9_with 16 rfl) kF_X9_19 ⟨by decide, rfl⟩ rfl rfl rfl rfl rfl ?_
      refine zS_iload_n (zdec eX9_with 17 rfl) rfl ?_
      refine zS_iload_n (zdec eX9_with 18 rfl) rfl ?_
      refine zS_ldc_w (zdec eX9_with 19 rfl) kc_X9_257 rfl ?_
      have hin : ∀ c, 0 ≤ c → c < pNb p → pIn p c = true := fun c _ _ => by rw [← hp]; rfl
      refine zvMI (M' := mX4_least) (As := [zA 14, zI x, zI y, zI 2147483647]) (st := []) (zdec eX9_with 20 rfl) kM_X9_258 kV_X4_least ⟨by decide, rfl⟩ rfl rfl rfl rfl rfl (by omega) (c_least (fb := x) (fd := y) (L := 2147483647) (by omega) V hin R (by omega) (by omega)) (fun x5 h5 ⟨hx5, S5, g5⟩ => ?_)
      have f5 : Fr sQ h h5 := f2.tr g5 (fun k j z => z) (fun k j z => by omega)
      have RD5 : DC h5 15 D := RD.fr f5 (fun k j z => by omega)
      refine zS_istore_n (zdec eX9_with 21 rfl) rfl ?_
      refine zS_iload_n (zdec eX9_with 22 rfl) rfl ?_
      refine zS_ldc_w (zdec eX9_with 23 rfl) kc_X9_257 rfl ?_
      refine zS_icmp_ge (tgt := 54) (zdec eX9_with 24 rfl) rfl (fun c3 => ?_) (fun c3 => ?_)
      · refine zS_iconst (zdec eX9_with 27 rfl) rfl ?_
        exact zlMI (zdec eX9_with 28 rfl) rfl ⟨by unfold a_with; rw [hp, if_pos (by omega), if_neg (by omega)], f5⟩
      · refine zS_iload_n (zdec eX9_with 25 rfl) rfl ?_
        refine zS_goto (tgt := 55) (zdec eX9_with 26 rfl) rfl ?_
        exact zlMI (zdec eX9_with 28 rfl) rfl ⟨by unfold a_with; rw [hp, if_pos (by omega), if_pos (by omega)]; exact hx5, f5⟩
    · have z2 := d2i_0.mp c2
      refine zS_bipush (zdec eX9_with 8 rfl) rfl rfl ?_
      exact zlMI (zdec eX9_with 9 rfl) rfl ⟨by unfold a_with; rw [if_neg (by omega)], Fr.rf⟩

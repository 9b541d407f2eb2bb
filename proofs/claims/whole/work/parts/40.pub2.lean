def mxN (f : Int → Int) (m : Int) : Nat → Int × Int
  | 0 => (-1, m)
  | n + 1 => if (mxN f m n).2 < f n then ((n : Int), f n) else mxN f m n
def mxI (f : Int → Int) (m k : Int) : Int × Int := mxN f m k.toNat
theorem mxI_0 (f : Int → Int) (m : Int) : mxI f m 0 = (-1, m) := rfl
theorem mxI_s (f : Int → Int) (m : Int) {k : Int} (h : 0 ≤ k) : mxI f m (k + 1) = if (mxI f m k).2 < f k then (k, f k) else mxI f m k := by
  unfold mxI
  rw [show (k + 1).toNat = k.toNat + 1 by omega]
  show (if (mxN f m k.toNat).2 < f (k.toNat : Int) then ((k.toNat : Int), f (k.toNat : Int)) else mxN f m k.toNat) = _
  rw [Int.toNat_of_nonneg h]
theorem L_caught {d : Nat} {h h2 : zH} {D : Dk} {p : Pb} {q : Int → Int} {A : Int} (hd : 19 ≤ d) (VD : DV D) (pd : pDays p = D 0 1) (pn : pNb p = D 0 8) (V : PV p) (R : WC h2 p) (S : PlC h2 p q) (q0 : ∀ b, 0 ≤ q b) (q1 : ∀ b, q b ≤ pDays p) (RD2 : DC h2 15 D) (f2 : Fr sQ h h2) (hA : A = bitsI (fun b => decide (0 < D (3 + b) 2) && decide (q b < pDays p ∧ q b ≤ pBy p b)) (D 0 8)) : ∀ (n : Nat) (e : Int), 0 ≤ e → e + n = D 0 8 → zS mX9_caught (zr d) 19 [zA 0, zI (bitsI (fun b => decide (0 < D (3 + b) 2) && decide (q b < pDays p ∧ q b ≤ pBy p b)) e), zI e] [] TT h2 (zAnI (fun r h' => r = A ∧ Fr sQ h h')) := by
  intro n
  induction n with
  | zero =>
    intro e a1 a2
    have dy := VD.days
    have nb := VD.nb
    have ns := VD.ns
    refine zS_iload_n (zdec eX9_caught 12 rfl) rfl ?_
    refine zS_aload_n (zdec eX9_caught 13 rfl) rfl rfl ?_
    refine zS_getref (i := 2) (zdec eX9_caught 14 rfl) kF_X9_27 ⟨by decide, rfl⟩ rfl rfl rfl rfl rfl ?_
    refine zS_getfieldE (x := 8) (v := (D 0 8)) (zdec eX9_caught 15 rfl) kF_X9_202 ⟨by decide, rfl⟩ rfl rfl rfl (RD2.s (by decide) (by decide)) ?_
    refine zS_icmp_ge (tgt := 67) (zdec eX9_caught 16 rfl) rfl (fun cz => ?_) (fun cz => absurd (by omega) cz)
    refine zS_iload_n (zdec eX9_caught 38 rfl) rfl ?_
    exact zlMI (zdec eX9_caught 39 rfl) rfl ⟨by rw [hA, show e = D 0 8 by omega], f2⟩
  | succ n ih =>
    intro e a1 a2
    have dy := VD.days
    have nb := VD.nb
    have ns := VD.ns
    refine zS_iload_n (zdec eX9_caught 12 rfl) rfl ?_
    refine zS_aload_n (zdec eX9_caught 13 rfl) rfl rfl ?_
    refine zS_getref (i := 2) (zdec eX9_caught 14 rfl) kF_X9_27 ⟨by decide, rfl⟩ rfl rfl rfl rfl rfl ?_
    refine zS_getfieldE (x := 8) (v := (D 0 8)) (zdec eX9_caught 15 rfl) kF_X9_202 ⟨by decide, rfl⟩ rfl rfl rfl (RD2.s (by decide) (by decide)) ?_
    refine zS_icmp_ge (tgt := 67) (zdec eX9_caught 16 rfl) rfl (fun cz => absurd cz (by omega)) (fun cz => ?_)
    refine zS_aload_n (zdec eX9_caught 17 rfl) rfl rfl ?_
    refine zS_getref (i := 2) (zdec eX9_caught 18 rfl) kF_X9_27 ⟨by decide, rfl⟩ rfl rfl rfl rfl rfl ?_
    refine zS_getref (i := 26) (zdec eX9_caught 19 rfl) kF_X9_119 ⟨by decide, rfl⟩ rfl rfl rfl rfl rfl ?_
    refine zS_iload_n (zdec eX9_caught 20 rfl) rfl ?_
    refine zS_aaload1 (i := 1) (zdec eX9_caught 21 rfl) (Or.inr (Or.inl rfl)) ⟨by decide, rfl⟩ rfl rfl rfl (by omega) (by omega) ?_
    refine zS_iconst (zdec eX9_caught 22 rfl) rfl ?_
    refine zS_ialoadE (v := (D (3 + e) 2)) (zdec eX9_caught 23 rfl) (zrow_18 (by omega) (by omega)) (by decide) (by decide) (RD2.row (by omega) (by omega) (by omega) (by decide) (by decide)) ?_
    refine zS_if_le (tgt := 61) (zdec eX9_caught 24 rfl) rfl (fun c1 => ?_) (fun c1 => ?_)
    · refine zS_iinc (zdec eX9_caught 36 rfl) rfl rfl ⟨by omega, by omega⟩ ?_
      refine zS_goto (tgt := 19) (zdec eX9_caught 37 rfl) rfl ?_
      have k := ih (e + 1) (by omega) (by omega)
      rw [bitsI_s _ (by omega)] at k
      rw [if_neg (by rw [decide_eq_false (by omega), Bool.false_and]; decide)] at k
      exact k
    · refine zS_aload_n (zdec eX9_caught 25 rfl) rfl rfl ?_
      refine zS_getref (i := 1) (zdec eX9_caught 26 rfl) kF_X9_19 ⟨by decide, rfl⟩ rfl rfl rfl rfl rfl ?_
      refine zS_iload_n (zdec eX9_caught 27 rfl) rfl ?_
      refine zvI (M' := mX8_isCaught) (As := [zI e]) (st := []) (zdec eX9_caught 28 rfl) kM_X9_205 kV_X8_isCaught ⟨by decide, rfl⟩ rfl rfl rfl rfl rfl (by omega) (c_isCaught (by omega) V R (by omega) (by omega) S q0) ?_
      refine zS_if_eq (tgt := 61) (zdec eX9_caught 29 rfl) rfl (fun c2 => ?_) (fun c2 => ?_)
      · have z2 := d2i_0.mp c2
        refine zS_iinc (zdec eX9_caught 36 rfl) rfl rfl ⟨by omega, by omega⟩ ?_
        refine zS_goto (tgt := 19) (zdec eX9_caught 37 rfl) rfl ?_
        have k := ih (e + 1) (by omega) (by omega)
        rw [bitsI_s _ (by omega)] at k
        rw [if_neg (by rw [decide_eq_false z2, Bool.and_false]; decide)] at k
        exact k
      · have z2 := d2i_n.mp c2
        refine zS_iload_n (zdec eX9_caught 30 rfl) rfl ?_
        refine zS_iconst (zdec eX9_caught 31 rfl) rfl ?_
        refine zS_iload_n (zdec eX9_caught 32 rfl) rfl ?_
        refine zS_ishl (zdec eX9_caught 33 rfl) ?_
        refine zS_ior (zdec eX9_caught 34 rfl) ?_
        refine zS_istore_n (zdec eX9_caught 35 rfl) rfl ?_
        refine zS_iinc (zdec eX9_caught 36 rfl) rfl rfl ⟨by omega, by omega⟩ ?_
        refine zS_goto (tgt := 19) (zdec eX9_caught 37 rfl) rfl ?_
        have k := ih (e + 1) (by omega) (by omega)
        rw [bitsI_s _ (by omega)] at k
        rw [if_pos (by rw [decide_eq_true (by omega), decide_eq_true z2]; rfl)] at k
        exact k
noncomputable def a_caught (D : Dk) : Int := if 0 < D 0 0 then bitsI (fun b => decide (0 < D (3 + b) 2) && decide ((planP (pb0 D)) b < pDays (pb0 D) ∧ (planP (pb0 D)) b ≤ pBy (pb0 D) b)) (D 0 8) else -2
theorem p_caught {d : Nat} {h : zH} {D : Dk} (hd : 20 ≤ d) (VD : DV D) (RD : DC h 15 D) : zMI d mX9_caught [zA 0] h (fun r h' => r = a_caught D ∧ Fr sQ h h') := by
  obtain ⟨p, hp⟩ : ∃ p, pb0 D = p := ⟨_, rfl⟩
  obtain ⟨q, hq⟩ : ∃ q, planP p = q := ⟨_, rfl⟩
  have pd : pDays p = D 0 1 := by rw [← hp]; rfl
  have pn : pNb p = D 0 8 := by rw [← hp]; rfl
  have dy := VD.days
  have nb := VD.nb
  have ns := VD.ns
  have nl := VD.nl
  have na := VD.na
  have vfl := VD.fl
  have vfe := VD.fee
  refine zmet rfl rfl rfl ?_
  refine zS_aload_n (zdec eX9_caught 0 rfl) rfl rfl ?_
  refine zvI (M' := mX9_isThere) (As := []) (st := []) (zdec eX9_caught 1 rfl) kM_X9_143 kV_X9_isThere ⟨by decide, rfl⟩ rfl rfl rfl rfl rfl (by omega) (c_isThere RD) ?_
  refine zS_if_ne (tgt := 10) (zdec eX9_caught 2 rfl) rfl (fun c1 => ?_) (fun c1 => ?_)
  · have z1 := d2i_n.mp c1
    refine zS_aload_n (zdec eX9_caught 5 rfl) rfl rfl ?_
    have hd0 : 0 < D 0 0 := by first | omega
    refine zvMA (M' := mX9_byLaw) (As := []) (st := []) (zdec eX9_caught 6 rfl) kM_X9_173 kV_X9_byLaw ⟨by decide, rfl⟩ rfl rfl rfl rfl rfl (by omega) (c_byLawP hp hq (by omega) VD hd0 RD) (fun h2 ⟨⟨V, R, S, O⟩, ⟨q0, q1, qi⟩, f2, RD2⟩ => ?_)
    refine zS_pop (zdec eX9_caught 7 rfl) (fun q => by cases q) ?_
    refine zS_iconst (zdec eX9_caught 8 rfl) rfl ?_
    refine zS_istore_n (zdec eX9_caught 9 rfl) rfl ?_
    refine zS_iconst (zdec eX9_caught 10 rfl) rfl ?_
    refine zS_istore_n (zdec eX9_caught 11 rfl) rfl ?_
    exact L_caught (by omega) VD pd pn V R S q0 q1 RD2 f2 (by unfold a_caught; rw [hp, hq, if_pos (by omega)]) (D 0 8).toNat 0 (by omega) (by omega)
  · have z1 := d2i_0.mp c1
    refine zS_bipush (zdec eX9_caught 3 rfl) rfl rfl ?_
    exact zlMI (zdec eX9_caught 4 rfl) rfl ⟨by unfold a_caught; (try rw [hp]); (try rw [hq]); first | rw [if_pos (by omega)] | rw [if_neg (by omega)], Fr.rf⟩
theorem L_late {d : Nat} {h h2 : zH} {D : Dk} {p : Pb} {q : Int → Int} {A : Int} (hd : 19 ≤ d) (VD : DV D) (pd : pDays p = D 0 1) (pn : pNb p = D 0 8) (V : PV p) (R : WC h2 p) (S : PlC h2 p q) (q0 : ∀ b, 0 ≤ q b) (q1 : ∀ b, q b ≤ pDays p) (RD2 : DC h2 15 D) (f2 : Fr sQ h h2) (hA : A = bitsI (fun b => decide (q b < pDays p ∧ D (3 + b) 4 < q b)) (D 0 8)) : ∀ (n : Nat) (e : Int), 0 ≤ e → e + n = D 0 8 → zS mX9_late (zr d) 19 [zA 0, zI (bitsI (fun b => decide (q b < pDays p ∧ D (3 + b) 4 < q b)) e), zI e] [] TT h2 (zAnI (fun r h' => r = A ∧ Fr sQ h h')) := by
  intro n
  induction n with
  | zero =>
    intro e a1 a2
    have dy := VD.days
    have nb := VD.nb
    have ns := VD.ns
    refine zS_iload_n (zdec eX9_late 12 rfl) rfl ?_
    refine zS_aload_n (zdec eX9_late 13 rfl) rfl rfl ?_
    refine zS_getref (i := 2) (zdec eX9_late 14 rfl) kF_X9_27 ⟨by decide, rfl⟩ rfl rfl rfl rfl rfl ?_
    refine zS_getfieldE (x := 8) (v := (D 0 8)) (zdec eX9_late 15 rfl) kF_X9_202 ⟨by decide, rfl⟩ rfl rfl rfl (RD2.s (by decide) (by decide)) ?_
    refine zS_icmp_ge (tgt := 65) (zdec eX9_late 16 rfl) rfl (fun cz => ?_) (fun cz => absurd (by omega) cz)
    refine zS_iload_n (zdec eX9_late 38 rfl) rfl ?_
    exact zlMI (zdec eX9_late 39 rfl) rfl ⟨by rw [hA, show e = D 0 8 by omega], f2⟩
  | succ n ih =>
    intro e a1 a2
    have dy := VD.days
    have nb := VD.nb
    have ns := VD.ns
    refine zS_iload_n (zdec eX9_late 12 rfl) rfl ?_
    refine zS_aload_n (zdec eX9_late 13 rfl) rfl rfl ?_
    refine zS_getref (i := 2) (zdec eX9_late 14 rfl) kF_X9_27 ⟨by decide, rfl⟩ rfl rfl rfl rfl rfl ?_
    refine zS_getfieldE (x := 8) (v := (D 0 8)) (zdec eX9_late 15 rfl) kF_X9_202 ⟨by decide, rfl⟩ rfl rfl rfl (RD2.s (by decide) (by decide)) ?_
    refine zS_icmp_ge (tgt := 65) (zdec eX9_late 16 rfl) rfl (fun cz => absurd cz (by omega)) (fun cz => ?_)
    refine zS_aload_n (zdec eX9_late 17 rfl) rfl rfl ?_
    refine zS_getref (i := 1) (zdec eX9_late 18 rfl) kF_X9_19 ⟨by decide, rfl⟩ rfl rfl rfl rfl rfl ?_
    refine zS_getref (i := 21) (zdec eX9_late 19 rfl) kF_X9_177 ⟨by decide, rfl⟩ rfl rfl rfl rfl rfl ?_
    refine zS_iload_n (zdec eX9_late 20 rfl) rfl ?_
    refine zS_ialoadE (v := (dayC p q e)) (zdec eX9_late 21 rfl) ⟨by decide, rfl⟩ (by omega) (by omega) (S.day (by omega) (by omega)) ?_
    refine zS_aload_n (zdec eX9_late 22 rfl) rfl rfl ?_
    refine zS_getref (i := 2) (zdec eX9_late 23 rfl) kF_X9_27 ⟨by decide, rfl⟩ rfl rfl rfl rfl rfl ?_
    refine zS_getref (i := 26) (zdec eX9_late 24 rfl) kF_X9_119 ⟨by decide, rfl⟩ rfl rfl rfl rfl rfl ?_
    refine zS_iload_n (zdec eX9_late 25 rfl) rfl ?_
    refine zS_aaload1 (i := 1) (zdec eX9_late 26 rfl) (Or.inr (Or.inl rfl)) ⟨by decide, rfl⟩ rfl rfl rfl (by omega) (by omega) ?_
    refine zS_iconst (zdec eX9_late 27 rfl) rfl ?_
    refine zS_ialoadE (v := (D (3 + e) 4)) (zdec eX9_late 28 rfl) (zrow_18 (by omega) (by omega)) (by decide) (by decide) (RD2.row (by omega) (by omega) (by omega) (by decide) (by decide)) ?_
    refine zS_icmp_le (tgt := 59) (zdec eX9_late 29 rfl) rfl (fun c1 => ?_) (fun c1 => ?_)
    · refine zS_iinc (zdec eX9_late 36 rfl) rfl rfl ⟨by omega, by omega⟩ ?_
      refine zS_goto (tgt := 19) (zdec eX9_late 37 rfl) rfl ?_
      have k := ih (e + 1) (by omega) (by omega)
      rw [bitsI_s _ (by omega)] at k
      have rwx := VD.row (show 0 ≤ e by omega) (show e < D 0 8 by omega)
      rw [if_neg (by rw [decide_eq_false (by unfold dayC at c1; split at c1 <;> omega)]; decide)] at k
      exact k
    · refine zS_iload_n (zdec eX9_late 30 rfl) rfl ?_
      refine zS_iconst (zdec eX9_late 31 rfl) rfl ?_
      refine zS_iload_n (zdec eX9_late 32 rfl) rfl ?_
      refine zS_ishl (zdec eX9_late 33 rfl) ?_
      refine zS_ior (zdec eX9_late 34 rfl) ?_
      refine zS_istore_n (zdec eX9_late 35 rfl) rfl ?_
      refine zS_iinc (zdec eX9_late 36 rfl) rfl rfl ⟨by omega, by omega⟩ ?_
      refine zS_goto (tgt := 19) (zdec eX9_late 37 rfl) rfl ?_
      have k := ih (e + 1) (by omega) (by omega)
      rw [bitsI_s _ (by omega)] at k
      have rwx := VD.row (show 0 ≤ e by omega) (show e < D 0 8 by omega)
      rw [if_pos (by rw [decide_eq_true (by unfold dayC at c1; split at c1 <;> omega)])] at k
      exact k
noncomputable def a_late (D : Dk) : Int := if 0 < D 0 0 then bitsI (fun b => decide ((planP (pb0 D)) b < pDays (pb0 D) ∧ D (3 + b) 4 < (planP (pb0 D)) b)) (D 0 8) else -2
theorem p_late {d : Nat} {h : zH} {D : Dk} (hd : 20 ≤ d) (VD : DV D) (RD : DC h 15 D) : zMI d mX9_late [zA 0] h (fun r h' => r = a_late D ∧ Fr sQ h h') := by
  obtain ⟨p, hp⟩ : ∃ p, pb0 D = p := ⟨_, rfl⟩
  obtain ⟨q, hq⟩ : ∃ q, planP p = q := ⟨_, rfl⟩
  have pd : pDays p = D 0 1 := by rw [← hp]; rfl
  have pn : pNb p = D 0 8 := by rw [← hp]; rfl
  have dy := VD.days
  have nb := VD.nb
  have ns := VD.ns
  have nl := VD.nl
  have na := VD.na
  have vfl := VD.fl
  have vfe := VD.fee
  refine zmet rfl rfl rfl ?_
  refine zS_aload_n (zdec eX9_late 0 rfl) rfl rfl ?_
  refine zvI (M' := mX9_isThere) (As := []) (st := []) (zdec eX9_late 1 rfl) kM_X9_143 kV_X9_isThere ⟨by decide, rfl⟩ rfl rfl rfl rfl rfl (by omega) (c_isThere RD) ?_
  refine zS_if_ne (tgt := 10) (zdec eX9_late 2 rfl) rfl (fun c1 => ?_) (fun c1 => ?_)
  · have z1 := d2i_n.mp c1
    refine zS_aload_n (zdec eX9_late 5 rfl) rfl rfl ?_
    have hd0 : 0 < D 0 0 := by first | omega
    refine zvMA (M' := mX9_byLaw) (As := []) (st := []) (zdec eX9_late 6 rfl) kM_X9_173 kV_X9_byLaw ⟨by decide, rfl⟩ rfl rfl rfl rfl rfl (by omega) (c_byLawP hp hq (by omega) VD hd0 RD) (fun h2 ⟨⟨V, R, S, O⟩, ⟨q0, q1, qi⟩, f2, RD2⟩ => ?_)
    refine zS_pop (zdec eX9_late 7 rfl) (fun q => by cases q) ?_
    refine zS_iconst (zdec eX9_late 8 rfl) rfl ?_
    refine zS_istore_n (zdec eX9_late 9 rfl) rfl ?_
    refine zS_iconst (zdec eX9_late 10 rfl) rfl ?_
    refine zS_istore_n (zdec eX9_late 11 rfl) rfl ?_
    exact L_late (by omega) VD pd pn V R S q0 q1 RD2 f2 (by unfold a_late; rw [hp, hq, if_pos (by omega)]) (D 0 8).toNat 0 (by omega) (by omega)
  · have z1 := d2i_0.mp c1
    refine zS_bipush (zdec eX9_late 3 rfl) rfl rfl ?_
    exact zlMI (zdec eX9_late 4 rfl) rfl ⟨by unfold a_late; (try rw [hp]); (try rw [hq]); first | rw [if_pos (by omega)] | rw [if_neg (by omega)], Fr.rf⟩
theorem L_saved {d : Nat} {h h2 : zH} {D : Dk} {p : Pb} {q : Int → Int} {A : Int} (hd : 19 ≤ d) (VD : DV D) (pd : pDays p = D 0 1) (pn : pNb p = D 0 8) (V : PV p) (R : WC h2 p) (S : PlC h2 p q) (q0 : ∀ b, 0 ≤ q b) (q1 : ∀ b, q b ≤ pDays p) (RD2 : DC h2 15 D) (f2 : Fr sQ h h2) (hA : A = sumI (fun b => if q b < pDays p ∧ q b ≤ pBy p b then gainP p b else 0) (D 0 8)) : ∀ (n : Nat) (e : Int), 0 ≤ e → e + n = D 0 8 → zS mX9_saved (zr d) 19 [zA 0, zI (sumI (fun b => if q b < pDays p ∧ q b ≤ pBy p b then gainP p b else 0) e), zI e] [] TT h2 (zAnI (fun r h' => r = A ∧ Fr sQ h h')) := by
  intro n
  induction n with
  | zero =>
    intro e a1 a2
    have dy := VD.days
    have nb := VD.nb
    have ns := VD.ns
    refine zS_iload_n (zdec eX9_saved 12 rfl) rfl ?_
    refine zS_aload_n (zdec eX9_saved 13 rfl) rfl rfl ?_
    refine zS_getref (i := 2) (zdec eX9_saved 14 rfl) kF_X9_27 ⟨by decide, rfl⟩ rfl rfl rfl rfl rfl ?_
    refine zS_getfieldE (x := 8) (v := (D 0 8)) (zdec eX9_saved 15 rfl) kF_X9_202 ⟨by decide, rfl⟩ rfl rfl rfl (RD2.s (by decide) (by decide)) ?_
    refine zS_icmp_ge (tgt := 62) (zdec eX9_saved 16 rfl) rfl (fun cz => ?_) (fun cz => absurd (by omega) cz)
    refine zS_iload_n (zdec eX9_saved 33 rfl) rfl ?_
    exact zlMI (zdec eX9_saved 34 rfl) rfl ⟨by rw [hA, show e = D 0 8 by omega], f2⟩
  | succ n ih =>
    intro e a1 a2
    have dy := VD.days
    have nb := VD.nb
    have ns := VD.ns
    have sb0 := sumI_nn (f := (fun b => if q b < pDays p ∧ q b ≤ pBy p b then gainP p b else 0)) (k := e) (fun j j0 j1 => by have := gainB V j0 (show j < pNb p by omega); split <;> omega)
    have sb1 := sumI_le (f := (fun b => if q b < pDays p ∧ q b ≤ pBy p b then gainP p b else 0)) (k := e) (B := 750) a1 (fun j j0 j1 => by have := gainB V j0 (show j < pNb p by omega); have := V.net j0 (show j < pNb p by omega); split <;> omega)
    have gb := gainB V a1 (show e < pNb p by omega)
    have nn := V.net a1 (show e < pNb p by omega)
    refine zS_iload_n (zdec eX9_saved 12 rfl) rfl ?_
    refine zS_aload_n (zdec eX9_saved 13 rfl) rfl rfl ?_
    refine zS_getref (i := 2) (zdec eX9_saved 14 rfl) kF_X9_27 ⟨by decide, rfl⟩ rfl rfl rfl rfl rfl ?_
    refine zS_getfieldE (x := 8) (v := (D 0 8)) (zdec eX9_saved 15 rfl) kF_X9_202 ⟨by decide, rfl⟩ rfl rfl rfl (RD2.s (by decide) (by decide)) ?_
    refine zS_icmp_ge (tgt := 62) (zdec eX9_saved 16 rfl) rfl (fun cz => absurd cz (by omega)) (fun cz => ?_)
    refine zS_iload_n (zdec eX9_saved 17 rfl) rfl ?_
    refine zS_aload_n (zdec eX9_saved 18 rfl) rfl rfl ?_
    refine zS_getref (i := 1) (zdec eX9_saved 19 rfl) kF_X9_19 ⟨by decide, rfl⟩ rfl rfl rfl rfl rfl ?_
    refine zS_iload_n (zdec eX9_saved 20 rfl) rfl ?_
    refine zvI (M' := mX8_isCaught) (As := [zI e]) (st := [zI (sumI (fun b => if q b < pDays p ∧ q b ≤ pBy p b then gainP p b else 0) e)]) (zdec eX9_saved 21 rfl) kM_X9_205 kV_X8_isCaught ⟨by decide, rfl⟩ rfl rfl rfl rfl rfl (by omega) (c_isCaught (by omega) V R (by omega) (by omega) S q0) ?_
    refine zS_if_eq (tgt := 53) (zdec eX9_saved 22 rfl) rfl (fun c1 => ?_) (fun c1 => ?_)
    · have z1 := d2i_0.mp c1
      refine zS_iconst (zdec eX9_saved 28 rfl) rfl ?_
      refine zS_iadd (zdec eX9_saved 29 rfl) ⟨by omega, by omega⟩ ?_
      refine zS_istore_n (zdec eX9_saved 30 rfl) rfl ?_
      refine zS_iinc (zdec eX9_saved 31 rfl) rfl rfl ⟨by omega, by omega⟩ ?_
      refine zS_goto (tgt := 19) (zdec eX9_saved 32 rfl) rfl ?_
      have k := ih (e + 1) (by omega) (by omega)
      rw [sumI_s _ (by omega)] at k
      rw [if_neg z1] at k
      exact k
    · have z1 := d2i_n.mp c1
      refine zS_aload_n (zdec eX9_saved 23 rfl) rfl rfl ?_
      refine zS_getref (i := 1) (zdec eX9_saved 24 rfl) kF_X9_19 ⟨by decide, rfl⟩ rfl rfl rfl rfl rfl ?_
      refine zS_iload_n (zdec eX9_saved 25 rfl) rfl ?_
      refine zvI (M' := mX8_gain) (As := [zI e]) (st := [zI (sumI (fun b => if q b < pDays p ∧ q b ≤ pBy p b then gainP p b else 0) e)]) (zdec eX9_saved 26 rfl) kM_X9_154 kV_X8_gain ⟨by decide, rfl⟩ rfl rfl rfl rfl rfl (by omega) (c_gain V R (by omega) (by omega)) ?_
      refine zS_goto (tgt := 54) (zdec eX9_saved 27 rfl) rfl ?_
      refine zS_iadd (zdec eX9_saved 29 rfl) ⟨by omega, by omega⟩ ?_
      refine zS_istore_n (zdec eX9_saved 30 rfl) rfl ?_
      refine zS_iinc (zdec eX9_saved 31 rfl) rfl rfl ⟨by omega, by omega⟩ ?_
      refine zS_goto (tgt := 19) (zdec eX9_saved 32 rfl) rfl ?_
      have k := ih (e + 1) (by omega) (by omega)
      rw [sumI_s _ (by omega)] at k
      rw [if_pos z1] at k
      exact k
noncomputable def a_saved (D : Dk) : Int := if 0 < D 0 0 then sumI (fun b => if (planP (pb0 D)) b < pDays (pb0 D) ∧ (planP (pb0 D)) b ≤ pBy (pb0 D) b then gainP (pb0 D) b else 0) (D 0 8) else -2
theorem p_saved {d : Nat} {h : zH} {D : Dk} (hd : 20 ≤ d) (VD : DV D) (RD : DC h 15 D) : zMI d mX9_saved [zA 0] h (fun r h' => r = a_saved D ∧ Fr sQ h h') := by
  obtain ⟨p, hp⟩ : ∃ p, pb0 D = p := ⟨_, rfl⟩
  obtain ⟨q, hq⟩ : ∃ q, planP p = q := ⟨_, rfl⟩
  have pd : pDays p = D 0 1 := by rw [← hp]; rfl
  have pn : pNb p = D 0 8 := by rw [← hp]; rfl
  have dy := VD.days
  have nb := VD.nb
  have ns := VD.ns
  have nl := VD.nl
  have na := VD.na
  have vfl := VD.fl
  have vfe := VD.fee
  refine zmet rfl rfl rfl ?_
  refine zS_aload_n (zdec eX9_saved 0 rfl) rfl rfl ?_
  refine zvI (M' := mX9_isThere) (As := []) (st := []) (zdec eX9_saved 1 rfl) kM_X9_143 kV_X9_isThere ⟨by decide, rfl⟩ rfl rfl rfl rfl rfl (by omega) (c_isThere RD) ?_
  refine zS_if_ne (tgt := 10) (zdec eX9_saved 2 rfl) rfl (fun c1 => ?_) (fun c1 => ?_)
  · have z1 := d2i_n.mp c1
    refine zS_aload_n (zdec eX9_saved 5 rfl) rfl rfl ?_
    have hd0 : 0 < D 0 0 := by first | omega
    refine zvMA (M' := mX9_byLaw) (As := []) (st := []) (zdec eX9_saved 6 rfl) kM_X9_173 kV_X9_byLaw ⟨by decide, rfl⟩ rfl rfl rfl rfl rfl (by omega) (c_byLawP hp hq (by omega) VD hd0 RD) (fun h2 ⟨⟨V, R, S, O⟩, ⟨q0, q1, qi⟩, f2, RD2⟩ => ?_)
    refine zS_pop (zdec eX9_saved 7 rfl) (fun q => by cases q) ?_
    refine zS_iconst (zdec eX9_saved 8 rfl) rfl ?_
    refine zS_istore_n (zdec eX9_saved 9 rfl) rfl ?_
    refine zS_iconst (zdec eX9_saved 10 rfl) rfl ?_
    refine zS_istore_n (zdec eX9_saved 11 rfl) rfl ?_
    exact L_saved (by omega) VD pd pn V R S q0 q1 RD2 f2 (by unfold a_saved; rw [hp, hq, if_pos (by omega)]) (D 0 8).toNat 0 (by omega) (by omega)
  · have z1 := d2i_0.mp c1
    refine zS_bipush (zdec eX9_saved 3 rfl) rfl rfl ?_
    exact zlMI (zdec eX9_saved 4 rfl) rfl ⟨by unfold a_saved; (try rw [hp]); (try rw [hq]); first | rw [if_pos (by omega)] | rw [if_neg (by omega)], Fr.rf⟩
theorem L_lost {d : Nat} {h h2 : zH} {D : Dk} {p : Pb} {q : Int → Int} {A : Int} (hd : 19 ≤ d) (VD : DV D) (pd : pDays p = D 0 1) (pn : pNb p = D 0 8) (V : PV p) (R : WC h2 p) (S : PlC h2 p q) (q0 : ∀ b, 0 ≤ q b) (q1 : ∀ b, q b ≤ pDays p) (RD2 : DC h2 15 D) (f2 : Fr sQ h h2) (hA : A = sumI (fun b => penP p b (q b)) (D 0 8)) : ∀ (n : Nat) (e : Int), 0 ≤ e → e + n = D 0 8 → zS mX9_lost (zr d) 19 [zA 0, zI (sumI (fun b => penP p b (q b)) e), zI e] [] TT h2 (zAnI (fun r h' => r = A ∧ Fr sQ h h')) := by
  intro n
  induction n with
  | zero =>
    intro e a1 a2
    have dy := VD.days
    have nb := VD.nb
    have ns := VD.ns
    refine zS_iload_n (zdec eX9_lost 12 rfl) rfl ?_
    refine zS_aload_n (zdec eX9_lost 13 rfl) rfl rfl ?_
    refine zS_getref (i := 2) (zdec eX9_lost 14 rfl) kF_X9_27 ⟨by decide, rfl⟩ rfl rfl rfl rfl rfl ?_
    refine zS_getfieldE (x := 8) (v := (D 0 8)) (zdec eX9_lost 15 rfl) kF_X9_202 ⟨by decide, rfl⟩ rfl rfl rfl (RD2.s (by decide) (by decide)) ?_
    refine zS_icmp_ge (tgt := 55) (zdec eX9_lost 16 rfl) rfl (fun cz => ?_) (fun cz => absurd (by omega) cz)
    refine zS_iload_n (zdec eX9_lost 30 rfl) rfl ?_
    exact zlMI (zdec eX9_lost 31 rfl) rfl ⟨by rw [hA, show e = D 0 8 by omega], f2⟩
  | succ n ih =>
    intro e a1 a2
    have dy := VD.days
    have nb := VD.nb
    have ns := VD.ns
    have qe0 := q0 e
    have qe1 := q1 e
    have sb0 := sumI_nn (f := (fun b => penP p b (q b))) (k := e) (fun j j0 j1 => (penB V j0 (show j < pNb p by omega) (show q j ≤ 7 by have := q1 j; omega)).1)
    have sb1 := sumI_le (f := (fun b => penP p b (q b))) (k := e) (B := 693) a1 (fun j j0 j1 => (penB V j0 (show j < pNb p by omega) (show q j ≤ 7 by have := q1 j; omega)).2)
    have gb := penB V a1 (show e < pNb p by omega) (show q e ≤ 7 by omega)
    refine zS_iload_n (zdec eX9_lost 12 rfl) rfl ?_
    refine zS_aload_n (zdec eX9_lost 13 rfl) rfl rfl ?_
    refine zS_getref (i := 2) (zdec eX9_lost 14 rfl) kF_X9_27 ⟨by decide, rfl⟩ rfl rfl rfl rfl rfl ?_
    refine zS_getfieldE (x := 8) (v := (D 0 8)) (zdec eX9_lost 15 rfl) kF_X9_202 ⟨by decide, rfl⟩ rfl rfl rfl (RD2.s (by decide) (by decide)) ?_
    refine zS_icmp_ge (tgt := 55) (zdec eX9_lost 16 rfl) rfl (fun cz => absurd cz (by omega)) (fun cz => ?_)
    refine zS_iload_n (zdec eX9_lost 17 rfl) rfl ?_
    refine zS_aload_n (zdec eX9_lost 18 rfl) rfl rfl ?_
    refine zS_getref (i := 1) (zdec eX9_lost 19 rfl) kF_X9_19 ⟨by decide, rfl⟩ rfl rfl rfl rfl rfl ?_
    refine zS_iload_n (zdec eX9_lost 20 rfl) rfl ?_
    refine zS_aload_n (zdec eX9_lost 21 rfl) rfl rfl ?_
    refine zS_getref (i := 1) (zdec eX9_lost 22 rfl) kF_X9_19 ⟨by decide, rfl⟩ rfl rfl rfl rfl rfl ?_
    refine zS_iload_n (zdec eX9_lost 23 rfl) rfl ?_
    refine zvI (M' := mX8_dayOrLast) (As := [zI e]) (st := [zI e, zA 14, zI (sumI (fun b => penP p b (q b)) e)]) (zdec eX9_lost 24 rfl) kM_X9_208 kV_X8_dayOrLast ⟨by decide, rfl⟩ rfl rfl rfl rfl rfl (by omega) (c_dayOrLast (by omega) V R (by omega) (by omega) S q0 q1) ?_
    refine zvI (M' := mX8_penalty) (As := [zI e, zI (q e)]) (st := [zI (sumI (fun b => penP p b (q b)) e)]) (zdec eX9_lost 25 rfl) kM_X9_211 kV_X8_penalty ⟨by decide, rfl⟩ rfl rfl rfl rfl rfl (by omega) (c_penalty V R (by omega) (by omega) (by omega) (by omega)) ?_
    refine zS_iadd (zdec eX9_lost 26 rfl) ⟨by omega, by omega⟩ ?_
    refine zS_istore_n (zdec eX9_lost 27 rfl) rfl ?_
    refine zS_iinc (zdec eX9_lost 28 rfl) rfl rfl ⟨by omega, by omega⟩ ?_
    refine zS_goto (tgt := 19) (zdec eX9_lost 29 rfl) rfl ?_
    have k := ih (e + 1) (by omega) (by omega)
    rw [sumI_s _ (by omega)] at k
    exact k
noncomputable def a_lost (D : Dk) : Int := if 0 < D 0 0 then sumI (fun b => penP (pb0 D) b ((planP (pb0 D)) b)) (D 0 8) else -2
theorem p_lost {d : Nat} {h : zH} {D : Dk} (hd : 20 ≤ d) (VD : DV D) (RD : DC h 15 D) : zMI d mX9_lost [zA 0] h (fun r h' => r = a_lost D ∧ Fr sQ h h') := by
  obtain ⟨p, hp⟩ : ∃ p, pb0 D = p := ⟨_, rfl⟩
  obtain ⟨q, hq⟩ : ∃ q, planP p = q := ⟨_, rfl⟩
  have pd : pDays p = D 0 1 := by rw [← hp]; rfl
  have pn : pNb p = D 0 8 := by rw [← hp]; rfl
  have dy := VD.days
  have nb := VD.nb
  have ns := VD.ns
  have nl := VD.nl
  have na := VD.na
  have vfl := VD.fl
  have vfe := VD.fee
  refine zmet rfl rfl rfl ?_
  refine zS_aload_n (zdec eX9_lost 0 rfl) rfl rfl ?_
  refine zvI (M' := mX9_isThere) (As := []) (st := []) (zdec eX9_lost 1 rfl) kM_X9_143 kV_X9_isThere ⟨by decide, rfl⟩ rfl rfl rfl rfl rfl (by omega) (c_isThere RD) ?_
  refine zS_if_ne (tgt := 10) (zdec eX9_lost 2 rfl) rfl (fun c1 => ?_) (fun c1 => ?_)
  · have z1 := d2i_n.mp c1
    refine zS_aload_n (zdec eX9_lost 5 rfl) rfl rfl ?_
    have hd0 : 0 < D 0 0 := by first | omega
    refine zvMA (M' := mX9_byLaw) (As := []) (st := []) (zdec eX9_lost 6 rfl) kM_X9_173 kV_X9_byLaw ⟨by decide, rfl⟩ rfl rfl rfl rfl rfl (by omega) (c_byLawP hp hq (by omega) VD hd0 RD) (fun h2 ⟨⟨V, R, S, O⟩, ⟨q0, q1, qi⟩, f2, RD2⟩ => ?_)
    refine zS_pop (zdec eX9_lost 7 rfl) (fun q => by cases q) ?_
    refine zS_iconst (zdec eX9_lost 8 rfl) rfl ?_
    refine zS_istore_n (zdec eX9_lost 9 rfl) rfl ?_
    refine zS_iconst (zdec eX9_lost 10 rfl) rfl ?_
    refine zS_istore_n (zdec eX9_lost 11 rfl) rfl ?_
    exact L_lost (by omega) VD pd pn V R S q0 q1 RD2 f2 (by unfold a_lost; rw [hp, hq, if_pos (by omega)]) (D 0 8).toNat 0 (by omega) (by omega)
  · have z1 := d2i_0.mp c1
    refine zS_bipush (zdec eX9_lost 3 rfl) rfl rfl ?_
    exact zlMI (zdec eX9_lost 4 rfl) rfl ⟨by unfold a_lost; (try rw [hp]); (try rw [hq]); first | rw [if_pos (by omega)] | rw [if_neg (by omega)], Fr.rf⟩
theorem L_dear {d : Nat} {h h2 : zH} {D : Dk} {p : Pb} {q : Int → Int} {A : Int} (hd : 19 ≤ d) (VD : DV D) (pd : pDays p = D 0 1) (pn : pNb p = D 0 8) (V : PV p) (R : WC h2 p) (S : PlC h2 p q) (q0 : ∀ b, 0 ≤ q b) (q1 : ∀ b, q b ≤ pDays p) (RD2 : DC h2 15 D) (f2 : Fr sQ h h2) (hA : A = (mxI (toP p q) (-1) (D 0 7)).1) : ∀ (n : Nat) (e : Int), 0 ≤ e → e + n = D 0 7 → zS mX9_dear (zr d) 21 [zA 0, zI ((mxI (toP p q) (-1) e).1), zI ((mxI (toP p q) (-1) e).2), zI e, zN] [] TT h2 (zAnI (fun r h' => r = A ∧ Fr sQ h h')) := by
  intro n
  induction n with
  | zero =>
    intro e a1 a2
    have dy := VD.days
    have nb := VD.nb
    have ns := VD.ns
    refine zS_iload_n (zdec eX9_dear 14 rfl) rfl ?_
    refine zS_aload_n (zdec eX9_dear 15 rfl) rfl rfl ?_
    refine zS_getref (i := 2) (zdec eX9_dear 16 rfl) kF_X9_27 ⟨by decide, rfl⟩ rfl rfl rfl rfl rfl ?_
    refine zS_getfieldE (x := 7) (v := (D 0 7)) (zdec eX9_dear 17 rfl) kF_X9_223 ⟨by decide, rfl⟩ rfl rfl rfl (RD2.s (by decide) (by decide)) ?_
    refine zS_icmp_ge (tgt := 59) (zdec eX9_dear 18 rfl) rfl (fun cz => ?_) (fun cz => absurd (by omega) cz)
    refine zS_iload_n (zdec eX9_dear 33 rfl) rfl ?_
    exact zlMI (zdec eX9_dear 34 rfl) rfl ⟨by rw [hA, show e = D 0 7 by omega], f2⟩
  | succ n ih =>
    intro e a1 a2
    have dy := VD.days
    have nb := VD.nb
    have ns := VD.ns
    refine zS_iload_n (zdec eX9_dear 14 rfl) rfl ?_
    refine zS_aload_n (zdec eX9_dear 15 rfl) rfl rfl ?_
    refine zS_getref (i := 2) (zdec eX9_dear 16 rfl) kF_X9_27 ⟨by decide, rfl⟩ rfl rfl rfl rfl rfl ?_
    refine zS_getfieldE (x := 7) (v := (D 0 7)) (zdec eX9_dear 17 rfl) kF_X9_223 ⟨by decide, rfl⟩ rfl rfl rfl (RD2.s (by decide) (by decide)) ?_
    refine zS_icmp_ge (tgt := 59) (zdec eX9_dear 18 rfl) rfl (fun cz => absurd cz (by omega)) (fun cz => ?_)
    refine zS_aload_n (zdec eX9_dear 19 rfl) rfl rfl ?_
    refine zS_getref (i := 1) (zdec eX9_dear 20 rfl) kF_X9_19 ⟨by decide, rfl⟩ rfl rfl rfl rfl rfl ?_
    refine zS_iload_n (zdec eX9_dear 21 rfl) rfl ?_
    refine zvI (M' := mX8_paidTo) (As := [zI e]) (st := []) (zdec eX9_dear 22 rfl) kM_X9_220 kV_X8_paidTo ⟨by decide, rfl⟩ rfl rfl rfl rfl rfl (by omega) (c_paidTo (by omega) V R S q0 q1) ?_
    refine zS_istore (zdec eX9_dear 23 rfl) rfl ?_
    refine zS_iload (zdec eX9_dear 24 rfl) rfl ?_
    refine zS_iload_n (zdec eX9_dear 25 rfl) rfl ?_
    refine zS_icmp_le (tgt := 53) (zdec eX9_dear 26 rfl) rfl (fun c1 => ?_) (fun c1 => ?_)
    · refine zS_iinc (zdec eX9_dear 31 rfl) rfl rfl ⟨by omega, by omega⟩ ?_
      refine zS_goto (tgt := 21) (zdec eX9_dear 32 rfl) rfl ?_
      refine zS_forget (i := 4) ?_
      have k := ih (e + 1) (by omega) (by omega)
      rw [mxI_s _ _ (by omega)] at k
      rw [if_neg (by omega)] at k
      exact k
    · refine zS_iload (zdec eX9_dear 27 rfl) rfl ?_
      refine zS_istore_n (zdec eX9_dear 28 rfl) rfl ?_
      refine zS_iload_n (zdec eX9_dear 29 rfl) rfl ?_
      refine zS_istore_n (zdec eX9_dear 30 rfl) rfl ?_
      refine zS_iinc (zdec eX9_dear 31 rfl) rfl rfl ⟨by omega, by omega⟩ ?_
      refine zS_goto (tgt := 21) (zdec eX9_dear 32 rfl) rfl ?_
      refine zS_forget (i := 4) ?_
      have k := ih (e + 1) (by omega) (by omega)
      rw [mxI_s _ _ (by omega)] at k
      rw [if_pos (by omega)] at k
      exact k
noncomputable def a_dear (D : Dk) : Int := if 0 < D 0 0 then (mxI (toP (pb0 D) (planP (pb0 D))) (-1) (D 0 7)).1 else -2
theorem p_dear {d : Nat} {h : zH} {D : Dk} (hd : 20 ≤ d) (VD : DV D) (RD : DC h 15 D) : zMI d mX9_dear [zA 0] h (fun r h' => r = a_dear D ∧ Fr sQ h h') := by
  obtain ⟨p, hp⟩ : ∃ p, pb0 D = p := ⟨_, rfl⟩
  obtain ⟨q, hq⟩ : ∃ q, planP p = q := ⟨_, rfl⟩
  have pd : pDays p = D 0 1 := by rw [← hp]; rfl
  have pn : pNb p = D 0 8 := by rw [← hp]; rfl
  have dy := VD.days
  have nb := VD.nb
  have ns := VD.ns
  have nl := VD.nl
  have na := VD.na
  have vfl := VD.fl
  have vfe := VD.fee
  refine zmet rfl rfl rfl ?_
  refine zS_aload_n (zdec eX9_dear 0 rfl) rfl rfl ?_
  refine zvI (M' := mX9_isThere) (As := []) (st := []) (zdec eX9_dear 1 rfl) kM_X9_143 kV_X9_isThere ⟨by decide, rfl⟩ rfl rfl rfl rfl rfl (by omega) (c_isThere RD) ?_
  refine zS_if_ne (tgt := 10) (zdec eX9_dear 2 rfl) rfl (fun c1 => ?_) (fun c1 => ?_)
  · have z1 := d2i_n.mp c1
    refine zS_aload_n (zdec eX9_dear 5 rfl) rfl rfl ?_
    have hd0 : 0 < D 0 0 := by first | omega
    refine zvMA (M' := mX9_byLaw) (As := []) (st := []) (zdec eX9_dear 6 rfl) kM_X9_173 kV_X9_byLaw ⟨by decide, rfl⟩ rfl rfl rfl rfl rfl (by omega) (c_byLawP hp hq (by omega) VD hd0 RD) (fun h2 ⟨⟨V, R, S, O⟩, ⟨q0, q1, qi⟩, f2, RD2⟩ => ?_)
    refine zS_pop (zdec eX9_dear 7 rfl) (fun q => by cases q) ?_
    refine zS_iconst (zdec eX9_dear 8 rfl) rfl ?_
    refine zS_istore_n (zdec eX9_dear 9 rfl) rfl ?_
    refine zS_iconst (zdec eX9_dear 10 rfl) rfl ?_
    refine zS_istore_n (zdec eX9_dear 11 rfl) rfl ?_
    refine zS_iconst (zdec eX9_dear 12 rfl) rfl ?_
    refine zS_istore_n (zdec eX9_dear 13 rfl) rfl ?_
    exact L_dear (by omega) VD pd pn V R S q0 q1 RD2 f2 (by unfold a_dear; rw [hp, hq, if_pos (by omega)]) (D 0 7).toNat 0 (by omega) (by omega)
  · have z1 := d2i_0.mp c1
    refine zS_bipush (zdec eX9_dear 3 rfl) rfl rfl ?_
    exact zlMI (zdec eX9_dear 4 rfl) rfl ⟨by unfold a_dear; (try rw [hp]); (try rw [hq]); first | rw [if_pos (by omega)] | rw [if_neg (by omega)], Fr.rf⟩
theorem L_busy {d : Nat} {h h2 : zH} {D : Dk} {p : Pb} {q : Int → Int} {A : Int} (hd : 19 ≤ d) (VD : DV D) (pd : pDays p = D 0 1) (pn : pNb p = D 0 8) (V : PV p) (R : WC h2 p) (S : PlC h2 p q) (q0 : ∀ b, 0 ≤ q b) (q1 : ∀ b, q b ≤ pDays p) (RD2 : DC h2 15 D) (f2 : Fr sQ h h2) (hA : A = (mxI (fun d => cnt5 (bitsI (onP p q d) (pNb p))) 0 (D 0 1)).1) : ∀ (n : Nat) (e : Int), 0 ≤ e → e + n = D 0 1 → zS mX9_busy (zr d) 21 [zA 0, zI ((mxI (fun d => cnt5 (bitsI (onP p q d) (pNb p))) 0 e).1), zI ((mxI (fun d => cnt5 (bitsI (onP p q d) (pNb p))) 0 e).2), zI e, zN] [] TT h2 (zAnI (fun r h' => r = A ∧ Fr sQ h h')) := by
  intro n
  induction n with
  | zero =>
    intro e a1 a2
    have dy := VD.days
    have nb := VD.nb
    have ns := VD.ns
    refine zS_iload_n (zdec eX9_busy 14 rfl) rfl ?_
    refine zS_aload_n (zdec eX9_busy 15 rfl) rfl rfl ?_
    refine zS_getref (i := 2) (zdec eX9_busy 16 rfl) kF_X9_27 ⟨by decide, rfl⟩ rfl rfl rfl rfl rfl ?_
    refine zS_getfieldE (x := 1) (v := (D 0 1)) (zdec eX9_busy 17 rfl) kF_X9_127 ⟨by decide, rfl⟩ rfl rfl rfl (RD2.s (by decide) (by decide)) ?_
    refine zS_icmp_ge (tgt := 63) (zdec eX9_busy 18 rfl) rfl (fun cz => ?_) (fun cz => absurd (by omega) cz)
    refine zS_iload_n (zdec eX9_busy 35 rfl) rfl ?_
    exact zlMI (zdec eX9_busy 36 rfl) rfl ⟨by rw [hA, show e = D 0 1 by omega], f2⟩
  | succ n ih =>
    intro e a1 a2
    have dy := VD.days
    have nb := VD.nb
    have ns := VD.ns
    have br := (bitsI_is (f := onP p q e) (k := pNb p) (by omega) (by omega)).1
    refine zS_iload_n (zdec eX9_busy 14 rfl) rfl ?_
    refine zS_aload_n (zdec eX9_busy 15 rfl) rfl rfl ?_
    refine zS_getref (i := 2) (zdec eX9_busy 16 rfl) kF_X9_27 ⟨by decide, rfl⟩ rfl rfl rfl rfl rfl ?_
    refine zS_getfieldE (x := 1) (v := (D 0 1)) (zdec eX9_busy 17 rfl) kF_X9_127 ⟨by decide, rfl⟩ rfl rfl rfl (RD2.s (by decide) (by decide)) ?_
    refine zS_icmp_ge (tgt := 63) (zdec eX9_busy 18 rfl) rfl (fun cz => absurd cz (by omega)) (fun cz => ?_)
    refine zS_aload_n (zdec eX9_busy 19 rfl) rfl rfl ?_
    refine zS_getref (i := 1) (zdec eX9_busy 20 rfl) kF_X9_19 ⟨by decide, rfl⟩ rfl rfl rfl rfl rfl ?_
    refine zS_getref (i := 24) (zdec eX9_busy 21 rfl) kF_X9_180 ⟨by decide, rfl⟩ rfl rfl rfl rfl rfl ?_
    refine zS_iload_n (zdec eX9_busy 22 rfl) rfl ?_
    refine zS_ialoadE (v := (bitsI (onP p q e) (pNb p))) (zdec eX9_busy 23 rfl) ⟨by decide, rfl⟩ (by omega) (by omega) ((S.file (by omega) (by omega)).eq V) ?_
    refine zsI (M' := mJ6_bitCount_0f7a4) (As := [zI (bitsI (onP p q e) (pNb p))]) (st := []) (zdec eX9_busy 24 rfl) kM_X9_226 kS_J6_bitCount_0f7a4 rfl rfl rfl (by omega) (c_bitCount (by omega) (by omega)) ?_
    refine zS_istore (zdec eX9_busy 25 rfl) rfl ?_
    refine zS_iload (zdec eX9_busy 26 rfl) rfl ?_
    refine zS_iload_n (zdec eX9_busy 27 rfl) rfl ?_
    refine zS_icmp_le (tgt := 57) (zdec eX9_busy 28 rfl) rfl (fun c1 => ?_) (fun c1 => ?_)
    · refine zS_iinc (zdec eX9_busy 33 rfl) rfl rfl ⟨by omega, by omega⟩ ?_
      refine zS_goto (tgt := 21) (zdec eX9_busy 34 rfl) rfl ?_
      refine zS_forget (i := 4) ?_
      have k := ih (e + 1) (by omega) (by omega)
      rw [mxI_s _ _ (by omega)] at k
      rw [if_neg (by omega)] at k
      exact k
    · refine zS_iload (zdec eX9_busy 29 rfl) rfl ?_
      refine zS_istore_n (zdec eX9_busy 30 rfl) rfl ?_
      refine zS_iload_n (zdec eX9_busy 31 rfl) rfl ?_
      refine zS_istore_n (zdec eX9_busy 32 rfl) rfl ?_
      refine zS_iinc (zdec eX9_busy 33 rfl) rfl rfl ⟨by omega, by omega⟩ ?_
      refine zS_goto (tgt := 21) (zdec eX9_busy 34 rfl) rfl ?_
      refine zS_forget (i := 4) ?_
      have k := ih (e + 1) (by omega) (by omega)
      rw [mxI_s _ _ (by omega)] at k
      rw [if_pos (by omega)] at k
      exact k
noncomputable def a_busy (D : Dk) : Int := if 0 < D 0 0 then (mxI (fun d => cnt5 (bitsI (onP (pb0 D) (planP (pb0 D)) d) (pNb (pb0 D)))) 0 (D 0 1)).1 else -2
theorem p_busy {d : Nat} {h : zH} {D : Dk} (hd : 20 ≤ d) (VD : DV D) (RD : DC h 15 D) : zMI d mX9_busy [zA 0] h (fun r h' => r = a_busy D ∧ Fr sQ h h') := by
  obtain ⟨p, hp⟩ : ∃ p, pb0 D = p := ⟨_, rfl⟩
  obtain ⟨q, hq⟩ : ∃ q, planP p = q := ⟨_, rfl⟩
  have pd : pDays p = D 0 1 := by rw [← hp]; rfl
  have pn : pNb p = D 0 8 := by rw [← hp]; rfl
  have dy := VD.days
  have nb := VD.nb
  have ns := VD.ns
  have nl := VD.nl
  have na := VD.na
  have vfl := VD.fl
  have vfe := VD.fee
  refine zmet rfl rfl rfl ?_
  refine zS_aload_n (zdec eX9_busy 0 rfl) rfl rfl ?_
  refine zvI (M' := mX9_isThere) (As := []) (st := []) (zdec eX9_busy 1 rfl) kM_X9_143 kV_X9_isThere ⟨by decide, rfl⟩ rfl rfl rfl rfl rfl (by omega) (c_isThere RD) ?_
  refine zS_if_ne (tgt := 10) (zdec eX9_busy 2 rfl) rfl (fun c1 => ?_) (fun c1 => ?_)
  · have z1 := d2i_n.mp c1
    refine zS_aload_n (zdec eX9_busy 5 rfl) rfl rfl ?_
    have hd0 : 0 < D 0 0 := by first | omega
    refine zvMA (M' := mX9_byLaw) (As := []) (st := []) (zdec eX9_busy 6 rfl) kM_X9_173 kV_X9_byLaw ⟨by decide, rfl⟩ rfl rfl rfl rfl rfl (by omega) (c_byLawP hp hq (by omega) VD hd0 RD) (fun h2 ⟨⟨V, R, S, O⟩, ⟨q0, q1, qi⟩, f2, RD2⟩ => ?_)
    refine zS_pop (zdec eX9_busy 7 rfl) (fun q => by cases q) ?_
    refine zS_iconst (zdec eX9_busy 8 rfl) rfl ?_
    refine zS_istore_n (zdec eX9_busy 9 rfl) rfl ?_
    refine zS_iconst (zdec eX9_busy 10 rfl) rfl ?_
    refine zS_istore_n (zdec eX9_busy 11 rfl) rfl ?_
    refine zS_iconst (zdec eX9_busy 12 rfl) rfl ?_
    refine zS_istore_n (zdec eX9_busy 13 rfl) rfl ?_
    exact L_busy (by omega) VD pd pn V R S q0 q1 RD2 f2 (by unfold a_busy; rw [hp, hq, if_pos (by omega)]) (D 0 1).toNat 0 (by omega) (by omega)
  · have z1 := d2i_0.mp c1
    refine zS_bipush (zdec eX9_busy 3 rfl) rfl rfl ?_
    exact zlMI (zdec eX9_busy 4 rfl) rfl ⟨by unfold a_busy; (try rw [hp]); (try rw [hq]); first | rw [if_pos (by omega)] | rw [if_neg (by omega)], Fr.rf⟩

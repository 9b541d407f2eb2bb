noncomputable def totL (p : Pb) : Int := totalP p (planP p)
noncomputable def opnL (p : Pb) : Int := openP p (planP p)
def clX (D : Dk) (x : Int) : Pb := wT (pb0 D) 0 (fun y => clD D y || decide (y = x))
theorem totLB {p : Pb} (V : PV p) : 0 ≤ totL p ∧ totL p ≤ 20000 := totB V (planP_rng V)
theorem c_wholeL {d : Nat} {h : zH} {p : Pb} (hd : 2 ≤ d) (V : PV p) (L : Ln h p) : zPI d mX8_whole [zA 14] h (totL p) := c_whole hd V L.1 L.2.1 (fun b => (planP_rng V b).1) (fun b => (planP_rng V b).2)
theorem c_unpaidL {d : Nat} {h : zH} {p : Pb} (hd : 1 ≤ d) (V : PV p) (L : Ln h p) : zPI d mX8_unpaid [zA 14] h (opnL p) := c_unpaid hd V L.1 L.2.1 (fun b => (planP_rng V b).1) (fun b => (planP_rng V b).2)
def fsN (f : Int → Bool) : Nat → Int
  | 0 => -1
  | n + 1 => if fsN f n = -1 ∧ f n = true then (n : Int) else fsN f n
def fsI (f : Int → Bool) (k : Int) : Int := fsN f k.toNat
theorem fsI_s (f : Int → Bool) {k : Int} (h : 0 ≤ k) : fsI f (k + 1) = if fsI f k = -1 ∧ f k = true then k else fsI f k := by
  unfold fsI
  rw [show (k + 1).toNat = k.toNat + 1 by omega]
  show (if fsN f k.toNat = -1 ∧ f (k.toNat : Int) = true then (k.toNat : Int) else fsN f k.toNat) = _
  rw [Int.toNat_of_nonneg h]
theorem fsI_hit {f : Int → Bool} {e k : Int} (h0 : 0 ≤ e) (h1 : e < k) (hn : fsI f e = -1) (hf : f e = true) : fsI f k = e := by
  have g : ∀ j : Int, 0 ≤ j → fsI f (e + 1 + j) = e := by
    refine up_ind ?_ (fun j hj ih => ?_)
    · rw [Int.add_zero, fsI_s _ h0, if_pos ⟨hn, hf⟩]
    · rw [← Int.add_assoc, fsI_s _ (by omega), ih, if_neg (by omega)]
  have := g (k - e - 1) (by omega)
  rw [show e + 1 + (k - e - 1) = k by omega] at this
  exact this
theorem fsI_next {f : Int → Bool} {e : Int} (h0 : 0 ≤ e) (hn : fsI f e = -1) (hf : f e = false) : fsI f (e + 1) = -1 := by rw [fsI_s _ h0, hf, if_neg (by simp), hn]
noncomputable def a_by (D : Dk) (x : Int) : Int := if 0 < D 0 0 ∧ 0 ≤ x ∧ x < 4 then totL (wS (pb0 D) 4 x) else -2
theorem p_by {d : Nat} {h : zH} {D : Dk} {x : Int} (hd : 20 ≤ d) (VD : DV D) (RD : DC h 15 D) : zMI d mX9_by [zA 0, zI x] h (fun r h' => r = a_by D x ∧ Fr sQ h h') := by
  obtain ⟨p, hp⟩ : ∃ p, pb0 D = p := ⟨_, rfl⟩
  obtain ⟨q, hq⟩ : ∃ q, planP p = q := ⟨_, rfl⟩
  have pd : pDays p = D 0 1 := by rw [← hp]; rfl
  have pn : pNb p = D 0 8 := by rw [← hp]; rfl
  have dy := VD.days
  have nb := VD.nb
  have ns := VD.ns
  have nl := VD.nl
  have na := VD.na
  have vfl := VD.fl
  have vfe := VD.fee
  refine zmet rfl rfl rfl ?_
  refine zS_aload_n (zdec eX9_by 0 rfl) rfl rfl ?_
  refine zvI (M' := mX9_isThere) (As := []) (st := []) (zdec eX9_by 1 rfl) kM_X9_143 kV_X9_isThere ⟨by decide, rfl⟩ rfl rfl rfl rfl rfl (by omega) (c_isThere RD) ?_
  refine zS_if_eq (tgt := 16) (zdec eX9_by 2 rfl) rfl (fun c1 => ?_) (fun c1 => ?_)
  · have z1 := d2i_0.mp c1
    refine zS_bipush (zdec eX9_by 8 rfl) rfl rfl ?_
    exact zlMI (zdec eX9_by 9 rfl) rfl ⟨by unfold a_by; rw [if_neg (by omega)], Fr.rf⟩
  · have z1 := d2i_n.mp c1
    refine zS_iload_n (zdec eX9_by 3 rfl) rfl ?_
    refine zS_if_lt (tgt := 16) (zdec eX9_by 4 rfl) rfl (fun c2 => ?_) (fun c2 => ?_)
    · refine zS_bipush (zdec eX9_by 8 rfl) rfl rfl ?_
      exact zlMI (zdec eX9_by 9 rfl) rfl ⟨by unfold a_by; rw [if_neg (by omega)], Fr.rf⟩
    · refine zS_iload_n (zdec eX9_by 5 rfl) rfl ?_
      refine zS_iconst (zdec eX9_by 6 rfl) rfl ?_
      refine zS_icmp_lt (tgt := 19) (zdec eX9_by 7 rfl) rfl (fun c3 => ?_) (fun c3 => ?_)
      · refine zS_aload_n (zdec eX9_by 10 rfl) rfl rfl ?_
        refine zS_iload_n (zdec eX9_by 11 rfl) rfl ?_
        have hd0 : 0 < D 0 0 := by first | omega
        refine zvMV (M' := mX9_planByOtherLaw) (As := [zI x]) (st := []) (zdec eX9_by 12 rfl) kM_X9_164 kV_X9_planByOtherLaw ⟨by decide, rfl⟩ rfl rfl rfl rfl rfl (by omega) (c_otherLaw (by omega) VD hd0 RD (by omega) (by omega)) (fun h3 ⟨L3, g3⟩ => ?_)
        have f3 : Fr sQ h h3 := g3.mono (fun k j z => by omega)
        have V3 : PV (wS (pb0 D) 4 x) := (pb0_V VD hd0).law' (by omega) (by omega)
        refine zS_aload_n (zdec eX9_by 13 rfl) rfl rfl ?_
        refine zS_getref (i := 1) (zdec eX9_by 14 rfl) kF_X9_19 ⟨by decide, rfl⟩ rfl rfl rfl rfl rfl ?_
        refine zvI (M' := mX8_whole) (As := []) (st := []) (zdec eX9_by 15 rfl) kM_X9_214 kV_X8_whole ⟨by decide, rfl⟩ rfl rfl rfl rfl rfl (by omega) (c_wholeL (by omega) V3 L3) ?_
        exact zlMI (zdec eX9_by 16 rfl) rfl ⟨by unfold a_by; rw [if_pos (by omega)], f3⟩
      · refine zS_bipush (zdec eX9_by 8 rfl) rfl rfl ?_
        exact zlMI (zdec eX9_by 9 rfl) rfl ⟨by unfold a_by; rw [if_neg (by omega)], Fr.rf⟩
theorem L_law {d : Nat} {h : zH} {D : Dk} (hd : 19 ≤ d) (VD : DV D) (hd0 : 0 < D 0 0) (RD : DC h 15 D) : ∀ (n : Nat) (e : Int) (h1 : zH), 0 ≤ e → e + n = 4 → Fr sQ h h1 → zS mX9_law (zr d) 18 [zA 0, zI (amI (fun l => totL (wS (pb0 D) 4 l)) e), zI (if e = 0 then 2147483647 else totL (wS (pb0 D) 4 (amI (fun l => totL (wS (pb0 D) 4 l)) e))), zI e, zN] [] TT h1 (zAnI (fun r h' => r = amI (fun l => totL (wS (pb0 D) 4 l)) 4 ∧ Fr sQ h h')) := by
  intro n
  induction n with
  | zero =>
    intro e h1 a1 a2 i1
    refine zS_iload_n (zdec eX9_law 11 rfl) rfl ?_
    refine zS_iconst (zdec eX9_law 12 rfl) rfl ?_
    refine zS_icmp_ge (tgt := 54) (zdec eX9_law 13 rfl) rfl (fun cz => ?_) (fun cz => absurd (by omega) cz)
    refine zS_iload_n (zdec eX9_law 30 rfl) rfl ?_
    exact zlMI (zdec eX9_law 31 rfl) rfl ⟨by rw [show e = 4 by omega], i1⟩
  | succ n ih =>
    intro e h1 a1 a2 i1
    have RD1 : DC h1 15 D := RD.fr i1 (fun k j z => by omega)
    refine zS_iload_n (zdec eX9_law 11 rfl) rfl ?_
    refine zS_iconst (zdec eX9_law 12 rfl) rfl ?_
    refine zS_icmp_ge (tgt := 54) (zdec eX9_law 13 rfl) rfl (fun cz => absurd cz (by omega)) (fun cz => ?_)
    refine zS_aload_n (zdec eX9_law 14 rfl) rfl rfl ?_
    refine zS_iload_n (zdec eX9_law 15 rfl) rfl ?_
    refine zvMV (M' := mX9_planByOtherLaw) (As := [zI e]) (st := []) (zdec eX9_law 16 rfl) kM_X9_164 kV_X9_planByOtherLaw ⟨by decide, rfl⟩ rfl rfl rfl rfl rfl (by omega) (c_otherLaw (by omega) VD hd0 RD1 (by omega) (by omega)) (fun h3 ⟨L3, g3⟩ => ?_)
    have f3 : Fr sQ h h3 := i1.tr g3 (fun k j z => z) (fun k j z => by omega)
    have V3 : PV (wS (pb0 D) 4 e) := (pb0_V VD hd0).law' (by omega) (by omega)
    refine zS_aload_n (zdec eX9_law 17 rfl) rfl rfl ?_
    refine zS_getref (i := 1) (zdec eX9_law 18 rfl) kF_X9_19 ⟨by decide, rfl⟩ rfl rfl rfl rfl rfl ?_
    have tb := totLB V3
    refine zvI (M' := mX8_whole) (As := []) (st := []) (zdec eX9_law 19 rfl) kM_X9_214 kV_X8_whole ⟨by decide, rfl⟩ rfl rfl rfl rfl rfl (by omega) (c_wholeL (by omega) V3 L3) ?_
    refine zS_istore (zdec eX9_law 20 rfl) rfl ?_
    refine zS_iload (zdec eX9_law 21 rfl) rfl ?_
    refine zS_iload_n (zdec eX9_law 22 rfl) rfl ?_
    refine zS_icmp_ge (tgt := 48) (zdec eX9_law 23 rfl) rfl (fun c1 => ?_) (fun c1 => ?_)
    · refine zS_iinc (zdec eX9_law 28 rfl) rfl rfl ⟨by omega, by omega⟩ ?_
      refine zS_goto (tgt := 18) (zdec eX9_law 29 rfl) rfl ?_
      refine zS_forget (i := 4) ?_
      have k := ih (e + 1) h3 (by omega) (by omega) f3
      rw [if_neg (show ¬ e + 1 = 0 by omega)] at k
      have en : e ≠ 0 := fun w => by rw [if_pos w] at c1; omega
      rw [if_neg en] at c1 ⊢
      rw [amI_s _ (by omega), if_neg (by omega)] at k
      exact k
    · refine zS_iload (zdec eX9_law 24 rfl) rfl ?_
      refine zS_istore_n (zdec eX9_law 25 rfl) rfl ?_
      refine zS_iload_n (zdec eX9_law 26 rfl) rfl ?_
      refine zS_istore_n (zdec eX9_law 27 rfl) rfl ?_
      refine zS_iinc (zdec eX9_law 28 rfl) rfl rfl ⟨by omega, by omega⟩ ?_
      refine zS_goto (tgt := 18) (zdec eX9_law 29 rfl) rfl ?_
      refine zS_forget (i := 4) ?_
      have k := ih (e + 1) h3 (by omega) (by omega) f3
      rw [if_neg (show ¬ e + 1 = 0 by omega)] at k
      have ae : amI (fun l => totL (wS (pb0 D) 4 l)) (e + 1) = e := by
        by_cases w : e = 0
        · rw [w]; rfl
        · rw [amI_s _ (by omega), if_pos (by rw [if_neg w] at c1; omega)]
      rw [ae] at k
      exact k
noncomputable def a_law (D : Dk) : Int := if 0 < D 0 0 then amI (fun l => totL (wS (pb0 D) 4 l)) 4 else -2
theorem p_law {d : Nat} {h : zH} {D : Dk} (hd : 20 ≤ d) (VD : DV D) (RD : DC h 15 D) : zMI d mX9_law [zA 0] h (fun r h' => r = a_law D ∧ Fr sQ h h') := by
  obtain ⟨p, hp⟩ : ∃ p, pb0 D = p := ⟨_, rfl⟩
  obtain ⟨q, hq⟩ : ∃ q, planP p = q := ⟨_, rfl⟩
  have pd : pDays p = D 0 1 := by rw [← hp]; rfl
  have pn : pNb p = D 0 8 := by rw [← hp]; rfl
  have dy := VD.days
  have nb := VD.nb
  have ns := VD.ns
  have nl := VD.nl
  have na := VD.na
  have vfl := VD.fl
  have vfe := VD.fee
  refine zmet rfl rfl rfl ?_
  refine zS_aload_n (zdec eX9_law 0 rfl) rfl rfl ?_
  refine zvI (M' := mX9_isThere) (As := []) (st := []) (zdec eX9_law 1 rfl) kM_X9_143 kV_X9_isThere ⟨by decide, rfl⟩ rfl rfl rfl rfl rfl (by omega) (c_isThere RD) ?_
  refine zS_if_ne (tgt := 10) (zdec eX9_law 2 rfl) rfl (fun c1 => ?_) (fun c1 => ?_)
  · have z1 := d2i_n.mp c1
    refine zS_iconst (zdec eX9_law 5 rfl) rfl ?_
    refine zS_istore_n (zdec eX9_law 6 rfl) rfl ?_
    refine zS_ldc_w (zdec eX9_law 7 rfl) kc_X9_257 rfl ?_
    refine zS_istore_n (zdec eX9_law 8 rfl) rfl ?_
    refine zS_iconst (zdec eX9_law 9 rfl) rfl ?_
    refine zS_istore_n (zdec eX9_law 10 rfl) rfl ?_
    have hd0 : 0 < D 0 0 := by omega
    have k := L_law (d := d) (by omega) VD hd0 RD 4 0 h (by omega) (by omega) Fr.rf
    rw [if_pos rfl] at k
    unfold a_law
    rw [if_pos hd0]
    exact k
  · have z1 := d2i_0.mp c1
    refine zS_bipush (zdec eX9_law 3 rfl) rfl rfl ?_
    exact zlMI (zdec eX9_law 4 rfl) rfl ⟨by unfold a_law; (try rw [hp]); (try rw [hq]); first | rw [if_pos (by omega)] | rw [if_neg (by omega)], Fr.rf⟩
noncomputable def a_closing (D : Dk) (x : Int) : Int := if 0 ≤ x ∧ x < D 0 1 then totL (clX D x) - totL (pb0 D) else -100000
theorem p_closing {d : Nat} {h : zH} {D : Dk} {x : Int} (hd : 20 ≤ d) (VD : DV D) (RD : DC h 15 D) : zMI d mX9_closing [zA 0, zI x] h (fun r h' => r = a_closing D x ∧ Fr sQ h h') := by
  obtain ⟨p, hp⟩ : ∃ p, pb0 D = p := ⟨_, rfl⟩
  obtain ⟨q, hq⟩ : ∃ q, planP p = q := ⟨_, rfl⟩
  have pd : pDays p = D 0 1 := by rw [← hp]; rfl
  have pn : pNb p = D 0 8 := by rw [← hp]; rfl
  have dy := VD.days
  have nb := VD.nb
  have ns := VD.ns
  have nl := VD.nl
  have na := VD.na
  have vfl := VD.fl
  have vfe := VD.fee
  refine zmet rfl rfl rfl ?_
  refine zS_aload_n (zdec eX9_closing 0 rfl) rfl rfl ?_
  refine zS_iload_n (zdec eX9_closing 1 rfl) rfl ?_
  refine zvI (M' := mX9_isDay) (As := [zI x]) (st := []) (zdec eX9_closing 2 rfl) kM_X9_137 kV_X9_isDay ⟨by decide, rfl⟩ rfl rfl rfl rfl rfl (by omega) (c_isDay RD) ?_
  refine zS_if_ne (tgt := 11) (zdec eX9_closing 3 rfl) rfl (fun c1 => ?_) (fun c1 => ?_)
  · have z1 := d2i_n.mp c1
    refine zS_aload_n (zdec eX9_closing 6 rfl) rfl rfl ?_
    have hd0 : 0 < D 0 0 := by first | omega | exact VD.bill (show 0 ≤ x by omega) (show x < D 0 8 by omega) | exact VD.day (show 0 ≤ x by omega) (show x < D 0 1 by omega) | exact VD.sup (show 0 ≤ x by omega) (show x < D 0 7 by omega)
    refine zvMA (M' := mX9_byLaw) (As := []) (st := []) (zdec eX9_closing 7 rfl) kM_X9_173 kV_X9_byLaw ⟨by decide, rfl⟩ rfl rfl rfl rfl rfl (by omega) (c_byLawP hp hq (by omega) VD hd0 RD) (fun h2 ⟨⟨V, R, S, O⟩, ⟨q0, q1, qi⟩, f2, RD2⟩ => ?_)
    refine zvI (M' := mX8_whole) (As := []) (st := []) (zdec eX9_closing 8 rfl) kM_X9_214 kV_X8_whole ⟨by decide, rfl⟩ rfl rfl rfl rfl rfl (by omega) (c_whole (by omega) V R S q0 q1) ?_
    refine zS_istore_n (zdec eX9_closing 9 rfl) rfl ?_
    refine zS_aload_n (zdec eX9_closing 10 rfl) rfl rfl ?_
    refine zS_iload_n (zdec eX9_closing 11 rfl) rfl ?_
    refine zvMV (M' := mX9_planWithClosed) (As := [zI x]) (st := []) (zdec eX9_closing 12 rfl) kM_X9_281 kV_X9_planWithClosed ⟨by decide, rfl⟩ rfl rfl rfl rfl rfl (by omega) (c_withClosed (by omega) VD hd0 RD2 (by omega) (by omega)) (fun h3 ⟨L3, g3⟩ => ?_)
    have f3 : Fr sQ h h3 := f2.tr g3 (fun k j z => z) (fun k j z => by omega)
    have V3 : PV (clX D x) := (pb0_V VD hd0).set' 0 _
    have L3 : Ln h3 (clX D x) := L3
    refine zS_aload_n (zdec eX9_closing 13 rfl) rfl rfl ?_
    refine zS_getref (i := 1) (zdec eX9_closing 14 rfl) kF_X9_19 ⟨by decide, rfl⟩ rfl rfl rfl rfl rfl ?_
    have tb := totB V (q := q) (fun c => ⟨q0 c, q1 c⟩)
    have tc := totLB V3
    refine zvI (M' := mX8_whole) (As := []) (st := []) (zdec eX9_closing 15 rfl) kM_X9_214 kV_X8_whole ⟨by decide, rfl⟩ rfl rfl rfl rfl rfl (by omega) (c_wholeL (by omega) V3 L3) ?_
    refine zS_iload_n (zdec eX9_closing 16 rfl) rfl ?_
    refine zS_isub (zdec eX9_closing 17 rfl) ⟨by omega, by omega⟩ ?_
    exact zlMI (zdec eX9_closing 18 rfl) rfl ⟨by unfold a_closing; rw [if_pos (by omega)]; unfold totL; rw [hp, hq], f3⟩
  · have z1 := d2i_0.mp c1
    refine zS_ldc (zdec eX9_closing 4 rfl) kc_X9_189 rfl ?_
    exact zlMI (zdec eX9_closing 5 rfl) rfl ⟨by unfold a_closing; rw [if_neg (by omega)], Fr.rf⟩
theorem L_broke {d : Nat} {h : zH} {D : Dk} (hd : 19 ≤ d) (VD : DV D) (hd0 : 0 < D 0 0) (RD : DC h 15 D) : ∀ (n : Nat) (e : Int) (h1 : zH), 0 ≤ e → e + n = D 0 1 → Fr sQ h h1 → fsI (fun y => decide (zAnd (opnL (clX D y)) (zXor (opnL (pb0 D)) (-1)) ≠ 0)) e = -1 → zS mX9_broke (zr d) 20 [zA 0, zI (opnL (pb0 D)), zI e] [] TT h1 (zAnI (fun r h' => r = fsI (fun y => decide (zAnd (opnL (clX D y)) (zXor (opnL (pb0 D)) (-1)) ≠ 0)) (D 0 1) ∧ Fr sQ h h')) := by
  intro n
  induction n with
  | zero =>
    intro e h1 a1 a2 i1 i2
    have RD1 : DC h1 15 D := RD.fr i1 (fun k j z => by omega)
    refine zS_iload_n (zdec eX9_broke 11 rfl) rfl ?_
    refine zS_aload_n (zdec eX9_broke 12 rfl) rfl rfl ?_
    refine zS_getref (i := 2) (zdec eX9_broke 13 rfl) kF_X9_27 ⟨by decide, rfl⟩ rfl rfl rfl rfl rfl ?_
    refine zS_getfieldE (x := 1) (v := (D 0 1)) (zdec eX9_broke 14 rfl) kF_X9_127 ⟨by decide, rfl⟩ rfl rfl rfl (RD1.s (by decide) (by decide)) ?_
    refine zS_icmp_ge (tgt := 58) (zdec eX9_broke 15 rfl) rfl (fun cz => ?_) (fun cz => absurd (by omega) cz)
    refine zS_iconst (zdec eX9_broke 31 rfl) rfl ?_
    exact zlMI (zdec eX9_broke 32 rfl) rfl ⟨by rw [show D 0 1 = e by omega, i2], i1⟩
  | succ n ih =>
    intro e h1 a1 a2 i1 i2
    have RD1 : DC h1 15 D := RD.fr i1 (fun k j z => by omega)
    have dy := VD.days
    refine zS_iload_n (zdec eX9_broke 11 rfl) rfl ?_
    refine zS_aload_n (zdec eX9_broke 12 rfl) rfl rfl ?_
    refine zS_getref (i := 2) (zdec eX9_broke 13 rfl) kF_X9_27 ⟨by decide, rfl⟩ rfl rfl rfl rfl rfl ?_
    refine zS_getfieldE (x := 1) (v := (D 0 1)) (zdec eX9_broke 14 rfl) kF_X9_127 ⟨by decide, rfl⟩ rfl rfl rfl (RD1.s (by decide) (by decide)) ?_
    refine zS_icmp_ge (tgt := 58) (zdec eX9_broke 15 rfl) rfl (fun cz => absurd cz (by omega)) (fun cz => ?_)
    refine zS_aload_n (zdec eX9_broke 16 rfl) rfl rfl ?_
    refine zS_iload_n (zdec eX9_broke 17 rfl) rfl ?_
    refine zvMV (M' := mX9_planWithClosed) (As := [zI e]) (st := []) (zdec eX9_broke 18 rfl) kM_X9_281 kV_X9_planWithClosed ⟨by decide, rfl⟩ rfl rfl rfl rfl rfl (by omega) (c_withClosed (by omega) VD hd0 RD1 (by omega) (by omega)) (fun h3 ⟨L3, g3⟩ => ?_)
    have f3 : Fr sQ h h3 := i1.tr g3 (fun k j z => z) (fun k j z => by omega)
    have V3 : PV (clX D e) := (pb0_V VD hd0).set' 0 _
    have L3 : Ln h3 (clX D e) := L3
    refine zS_aload_n (zdec eX9_broke 19 rfl) rfl rfl ?_
    refine zS_getref (i := 1) (zdec eX9_broke 20 rfl) kF_X9_19 ⟨by decide, rfl⟩ rfl rfl rfl rfl rfl ?_
    refine zvI (M' := mX8_unpaid) (As := []) (st := []) (zdec eX9_broke 21 rfl) kM_X9_199 kV_X8_unpaid ⟨by decide, rfl⟩ rfl rfl rfl rfl rfl (by omega) (c_unpaidL (by omega) V3 L3) ?_
    refine zS_iload_n (zdec eX9_broke 22 rfl) rfl ?_
    refine zS_iconst (zdec eX9_broke 23 rfl) rfl ?_
    refine zS_ixor (zdec eX9_broke 24 rfl) ?_
    refine zS_iand (zdec eX9_broke 25 rfl) ?_
    refine zS_if_eq (tgt := 52) (zdec eX9_broke 26 rfl) rfl (fun c1 => ?_) (fun c1 => ?_)
    · refine zS_iinc (zdec eX9_broke 29 rfl) rfl rfl ⟨by omega, by omega⟩ ?_
      refine zS_goto (tgt := 20) (zdec eX9_broke 30 rfl) rfl ?_
      exact ih (e + 1) h3 (by omega) (by omega) f3 (fsI_next a1 i2 (decide_eq_false (fun w => w c1)))
    · refine zS_iload_n (zdec eX9_broke 27 rfl) rfl ?_
      exact zlMI (zdec eX9_broke 28 rfl) rfl ⟨(fsI_hit a1 (by omega) i2 (decide_eq_true c1)).symm, f3⟩
noncomputable def a_broke (D : Dk) : Int := if 0 < D 0 0 then fsI (fun y => decide (zAnd (opnL (clX D y)) (zXor (opnL (pb0 D)) (-1)) ≠ 0)) (D 0 1) else -2
theorem p_broke {d : Nat} {h : zH} {D : Dk} (hd : 20 ≤ d) (VD : DV D) (RD : DC h 15 D) : zMI d mX9_broke [zA 0] h (fun r h' => r = a_broke D ∧ Fr sQ h h') := by
  obtain ⟨p, hp⟩ : ∃ p, pb0 D = p := ⟨_, rfl⟩
  obtain ⟨q, hq⟩ : ∃ q, planP p = q := ⟨_, rfl⟩
  have pd : pDays p = D 0 1 := by rw [← hp]; rfl
  have pn : pNb p = D 0 8 := by rw [← hp]; rfl
  have dy := VD.days
  have nb := VD.nb
  have ns := VD.ns
  have nl := VD.nl
  have na := VD.na
  have vfl := VD.fl
  have vfe := VD.fee
  refine zmet rfl rfl rfl ?_
  refine zS_aload_n (zdec eX9_broke 0 rfl) rfl rfl ?_
  refine zvI (M' := mX9_isThere) (As := []) (st := []) (zdec eX9_broke 1 rfl) kM_X9_143 kV_X9_isThere ⟨by decide, rfl⟩ rfl rfl rfl rfl rfl (by omega) (c_isThere RD) ?_
  refine zS_if_ne (tgt := 10) (zdec eX9_broke 2 rfl) rfl (fun c1 => ?_) (fun c1 => ?_)
  · have z1 := d2i_n.mp c1
    refine zS_aload_n (zdec eX9_broke 5 rfl) rfl rfl ?_
    have hd0 : 0 < D 0 0 := by first | omega
    refine zvMA (M' := mX9_byLaw) (As := []) (st := []) (zdec eX9_broke 6 rfl) kM_X9_173 kV_X9_byLaw ⟨by decide, rfl⟩ rfl rfl rfl rfl rfl (by omega) (c_byLawP hp hq (by omega) VD hd0 RD) (fun h2 ⟨⟨V, R, S, O⟩, ⟨q0, q1, qi⟩, f2, RD2⟩ => ?_)
    refine zvI (M' := mX8_unpaid) (As := []) (st := []) (zdec eX9_broke 7 rfl) kM_X9_199 kV_X8_unpaid ⟨by decide, rfl⟩ rfl rfl rfl rfl rfl (by omega) (c_unpaid (by omega) V R S q0 q1) ?_
    refine zS_istore_n (zdec eX9_broke 8 rfl) rfl ?_
    refine zS_iconst (zdec eX9_broke 9 rfl) rfl ?_
    refine zS_istore_n (zdec eX9_broke 10 rfl) rfl ?_
    have k := L_broke (d := d) (by omega) VD hd0 RD (D 0 1).toNat 0 h2 (by omega) (by omega) f2 rfl
    unfold a_broke
    rw [if_pos hd0]
    unfold opnL at k ⊢
    rw [hp, hq] at k ⊢
    exact k
  · have z1 := d2i_0.mp c1
    refine zS_bipush (zdec eX9_broke 3 rfl) rfl rfl ?_
    exact zlMI (zdec eX9_broke 4 rfl) rfl ⟨by unfold a_broke; (try rw [hp]); (try rw [hq]); first | rw [if_pos (by omega)] | rw [if_neg (by omega)], Fr.rf⟩

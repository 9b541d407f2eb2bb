def wyP (D : Dk) (W : Rw) (x v : Int) : Int := if ¬ ((0 ≤ x ∧ x < 4) ∧ 0 < D 0 0 ∧ v ≠ 0) then -2 else rfS0 D W x
theorem wy_rfS {D : Dk} (VD : DV D) (W : Rw) (x y : Int) : wyP D W x (d2i (0 ≤ y ∧ y < D 0 8)) = rfS D W x y := by
  unfold wyP rfS
  by_cases c : 0 ≤ y ∧ y < D 0 8
  · rw [d2i_t c]
    have := VD.bill c.1 c.2
    by_cases s : 0 ≤ x ∧ x < 4
    · rw [if_neg (not_not_intro ⟨s, this, by decide⟩), if_neg (not_not_intro ⟨s, c⟩)]
    · rw [if_pos (fun w => s w.1), if_pos (fun w => s w.1)]
  · rw [d2i_f c, if_pos (fun w => w.2.2 rfl), if_pos (fun w => c w.2)]
theorem moI_le {f : Int → Int} {j : Int} (j0 : 0 ≤ j) : ∀ k : Int, 0 ≤ k → j < k → f j ≤ moI f k := by
  refine up_ind (fun z => by omega) (fun i hi ih h => ?_)
  rw [moI_s f hi]
  by_cases w : j = i
  · subst w; omega
  · have := ih (by omega); omega
theorem moI_at {f : Int → Int} : ∀ k : Int, 0 ≤ k → moI f k = 0 ∨ ∃ j, 0 ≤ j ∧ j < k ∧ moI f k = f j := by
  refine up_ind (Or.inl rfl) (fun i hi ih => ?_)
  rw [moI_s f hi]
  by_cases c : moI f i < f i
  · exact Or.inr ⟨i, hi, by omega, by omega⟩
  · rcases ih with z | ⟨j, a, b, e⟩
    · exact Or.inl (by omega)
    · exact Or.inr ⟨j, a, by omega, by omega⟩
theorem moI_nn (f : Int → Int) : ∀ k : Int, 0 ≤ k → 0 ≤ moI f k := by
  refine up_ind (by show (0 : Int) ≤ 0; omega) (fun i hi ih => ?_)
  rw [moI_s f hi]
  omega
def wrI (f : Int → Bool) (g : Int → Int → Int) (c a : Int) : Int → Bool := fun n => f a && f n && decide (g a c = g n c)
def woR (f : Int → Bool) (g : Int → Int → Int) (c : Int) : Int := moI (fun a => ctI (wrI f g c a) 21) 21
theorem ct_congr {f g : Int → Bool} {k : Int} (h : ∀ j, 0 ≤ j → j < k → f j = g j) : ctI f k = ctI g k := sumI_congr (fun j a b => by rw [h j a b])
theorem wo_eq {f : Int → Bool} {g g' : Int → Int → Int} {dy c : Int} (d0 : 0 ≤ dy) (hr : ∀ n, 0 ≤ n → n < 21 → -1 ≤ g n c ∧ g n c < dy) (he : ∀ a n, 0 ≤ a → a < 21 → 0 ≤ n → n < 21 → (g' a c = g' n c ↔ g n c = g a c)) : woR f g' c = woI f g dy c := by
  have row : ∀ a, 0 ≤ a → a < 21 → f a = true → ctI (wrI f g' c a) 21 = ctI (smI f g c (g a c)) 21 := fun a a0 a1 fa => ct_congr (fun n n0 n1 => by
    unfold wrI smI
    rw [fa, Bool.true_and]
    congr 1
    apply Bool.eq_iff_iff.mpr
    rw [decide_eq_true_eq, decide_eq_true_eq]
    exact he a n a0 a1 n0 n1)
  have l1 : woR f g' c ≤ woI f g dy c := by
    rcases moI_at (f := fun a => ctI (wrI f g' c a) 21) 21 (by decide) with z | ⟨a, a0, a1, a2⟩
    · have := moI_nn (fun j => ctI (smI f g c (j - 1)) 21) (dy + 1) (by omega)
      unfold woR woI
      omega
    · have a2 : woR f g' c = ctI (wrI f g' c a) 21 := a2
      rw [a2]
      cases fa : f a
      · have z : ctI (wrI f g' c a) 21 = 0 := sumI_zero (fun n _ _ => by show b2i (wrI f g' c a n) = 0; unfold wrI; rw [fa]; rfl)
        have := moI_nn (fun j => ctI (smI f g c (j - 1)) 21) (dy + 1) (by omega)
        unfold woI
        omega
      · rw [row a a0 a1 fa]
        have r := hr a a0 a1
        have := moI_le (f := fun j => ctI (smI f g c (j - 1)) 21) (j := g a c + 1) (by omega) (dy + 1) (by omega) (by omega)
        rw [show g a c + 1 - 1 = g a c by omega] at this
        exact this
  have l2 : woI f g dy c ≤ woR f g' c := by
    rcases moI_at (f := fun j => ctI (smI f g c (j - 1)) 21) (dy + 1) (by omega) with z | ⟨j, j0, j1, j2⟩
    · have := moI_nn (fun a => ctI (wrI f g' c a) 21) 21 (by decide)
      unfold woR woI
      omega
    · have j2 : woI f g dy c = ctI (smI f g c (j - 1)) 21 := j2
      rw [j2]
      by_cases h : ∃ n, 0 ≤ n ∧ n < 21 ∧ smI f g c (j - 1) n = true
      · obtain ⟨n, n0, n1, n2⟩ := h
        unfold smI at n2
        rw [Bool.and_eq_true, decide_eq_true_eq] at n2
        have := moI_le (f := fun a => ctI (wrI f g' c a) 21) n0 21 (by decide) n1
        have r := row n n0 n1 n2.1
        rw [n2.2] at r
        have e : ctI (wrI f g' c n) 21 ≤ woR f g' c := this
        omega
      · have z : ctI (smI f g c (j - 1)) 21 = 0 := sumI_zero (fun n n0 n1 => by
          show b2i (smI f g c (j - 1) n) = 0
          rw [b2i_0]
          cases hh : smI f g c (j - 1) n
          · rfl
          · exact absurd ⟨n, n0, n1, hh⟩ h)
        have := moI_nn (fun a => ctI (wrI f g' c a) 21) 21 (by decide)
        unfold woR
        omega
  omega
theorem slI_congr {c : Int → Bool} {f f' : Int → Int} {L : Int} : ∀ k : Int, 0 ≤ k → (∀ j, 0 ≤ j → j < k → f j = f' j) → slI c f L k = slI c f' L k := by
  refine up_ind (fun _ => rfl) (fun j hj ih h => ?_)
  rw [slI_s _ _ _ hj, slI_s _ _ _ hj, ih (fun i a b => h i a (by omega)), h j hj (by omega)]
/-- what the reference holds of what was seen -/
def SnR (h : zH) (nb : Int) (f : Int → Bool) (g : Int → Int → Int) : Prop := h 108 39 = bitsI f 21 ∧ ∀ n c, 0 ≤ n → n < 21 → 0 ≤ c → c < nb → h 126 (5 * n + c) = g n c
noncomputable def plP (D : Dk) (b n c : Int) : Int := planP (ofX D b n) c
theorem bits21 (f : Int → Bool) {k : Int} (k0 : 0 ≤ k) (k1 : k ≤ 21) : 0 ≤ bitsI f k ∧ bitsI f k < 2097152 := by
  have r := bitsI_rng (f := f) k0 (show k ≤ 30 by omega)
  have hp : (2 : Int) ^ k.toNat ≤ 2097152 := by
    have t := Int.ofNat_le.mpr (show (2 : Nat) ^ k.toNat ≤ 2 ^ 21 from Nat.pow_le_pow_right (by decide) (by omega))
    rw [show ((2 ^ 21 : Nat) : Int) = 2097152 from rfl, Int.natCast_pow] at t
    exact t
  omega
theorem L_rwhyn {d : Nat} {h : zH} {D : Dk} {W : Rw} {x v : Int} (hd : 4 ≤ d) (VD : DV D) (RD : DR h 0 D) (RW : RR h W) (VW : RV W) (x0 : 0 ≤ x) (x1 : x < 4) (hn : W 0 x ≠ -1) (hz : W 0 x % 2 = 0) : ∀ (n : Nat) (e : Int), 0 ≤ e → e + n = W 0 x / 2 → anyI (badS D W x) e = false → zS mX10_whyNot (zr d) 50 [zA 108, zI x, zI v, zI (2 * e), zN] [] TT h (zOne (if anyI (badS D W x) (W 0 x / 2) then -2 else 0) h) := by
  intro n
  induction n with
  | zero =>
    intro e a1 a2 a3
    have vs := VW.sz x0 x1
    refine zS_iload_n (zdec eX10_whyNot 29 rfl) rfl ?_
    refine zS_aload_n (zdec eX10_whyNot 30 rfl) rfl rfl ?_
    refine zS_getref (i := 56) (zdec eX10_whyNot 31 rfl) kF_X10_13 ⟨by decide, rfl⟩ rfl rfl rfl rfl rfl ?_
    refine zS_iload_n (zdec eX10_whyNot 32 rfl) rfl ?_
    refine zS_ialoadE (v := (W 0 x)) (zdec eX10_whyNot 33 rfl) ⟨by decide, rfl⟩ (by omega) (by omega) (RW.sz (by omega) (by omega) (by assumption)) ?_
    refine zS_icmp_ge (tgt := 116) (zdec eX10_whyNot 34 rfl) rfl (fun cz => ?_) (fun cz => absurd (by omega) cz)
    refine zS_iconst (zdec eX10_whyNot 66 rfl) rfl ?_
    exact zlI (zdec eX10_whyNot 67 rfl) rfl (by rw [show W 0 x / 2 = e by omega, a3]; rfl)
  | succ n ih =>
    intro e a1 a2 a3
    have nb := VD.nb
    have dy := VD.days
    have vs := VW.sz x0 x1
    refine zS_iload_n (zdec eX10_whyNot 29 rfl) rfl ?_
    refine zS_aload_n (zdec eX10_whyNot 30 rfl) rfl rfl ?_
    refine zS_getref (i := 56) (zdec eX10_whyNot 31 rfl) kF_X10_13 ⟨by decide, rfl⟩ rfl rfl rfl rfl rfl ?_
    refine zS_iload_n (zdec eX10_whyNot 32 rfl) rfl ?_
    refine zS_ialoadE (v := (W 0 x)) (zdec eX10_whyNot 33 rfl) ⟨by decide, rfl⟩ (by omega) (by omega) (RW.sz (by omega) (by omega) (by assumption)) ?_
    refine zS_icmp_ge (tgt := 116) (zdec eX10_whyNot 34 rfl) rfl (fun cz => absurd cz (by omega)) (fun cz => ?_)
    refine zS_bipush (zdec eX10_whyNot 35 rfl) rfl rfl ?_
    refine zS_iload_n (zdec eX10_whyNot 36 rfl) rfl ?_
    refine zS_imul (zdec eX10_whyNot 37 rfl) ⟨by omega, by omega⟩ ?_
    refine zS_iload_n (zdec eX10_whyNot 38 rfl) rfl ?_
    refine zS_iadd (zdec eX10_whyNot 39 rfl) ⟨by omega, by omega⟩ ?_
    refine zS_istore (zdec eX10_whyNot 40 rfl) rfl ?_
    refine zS_aload_n (zdec eX10_whyNot 41 rfl) rfl rfl ?_
    refine zS_aload_n (zdec eX10_whyNot 42 rfl) rfl rfl ?_
    refine zS_getref (i := 57) (zdec eX10_whyNot 43 rfl) kF_X10_16 ⟨by decide, rfl⟩ rfl rfl rfl rfl rfl ?_
    refine zS_iload (zdec eX10_whyNot 44 rfl) rfl ?_
    refine zS_laloadE (v := (W (2 + x) (2 * e))) (zdec eX10_whyNot 45 rfl) ⟨by decide, rfl⟩ (by omega) (by omega) (RW.nm (by omega) (by omega) (by omega) (by omega)) ?_
    refine zvI (M' := mX10_isBill) (As := [zJ (W (2 + x) (2 * e))]) (st := []) (zdec eX10_whyNot 46 rfl) kM_X10_324 kV_X10_isBill ⟨by decide, rfl⟩ rfl rfl rfl rfl rfl (by omega) (d_isBill (by omega) VD RD) ?_
    refine zS_if_eq (tgt := 107) (zdec eX10_whyNot 47 rfl) rfl (fun c1 => ?_) (fun c1 => ?_)
    · have z1 := d2i_0.mp c1
      refine zS_bipush (zdec eX10_whyNot 62 rfl) rfl rfl ?_
      exact zlI (zdec eX10_whyNot 63 rfl) rfl (by rw [if_pos (anyI_iff.mpr ⟨e, a1, by omega, decide_eq_true (by omega)⟩)])
    · have z1 := d2i_n.mp c1
      refine zS_aload_n (zdec eX10_whyNot 48 rfl) rfl rfl ?_
      refine zS_getref (i := 57) (zdec eX10_whyNot 49 rfl) kF_X10_16 ⟨by decide, rfl⟩ rfl rfl rfl rfl rfl ?_
      refine zS_iload (zdec eX10_whyNot 50 rfl) rfl ?_
      refine zS_iconst (zdec eX10_whyNot 51 rfl) rfl ?_
      refine zS_iadd (zdec eX10_whyNot 52 rfl) ⟨by omega, by omega⟩ ?_
      refine zS_laloadE (v := (W (2 + x) (2 * e + 1))) (zdec eX10_whyNot 53 rfl) ⟨by decide, rfl⟩ (by omega) (by omega) (by rw [Int.add_assoc]; exact RW.nm (by omega) (by omega) (by omega) (by omega)) ?_
      refine zS_ldc2_w (zdec eX10_whyNot 54 rfl) kj_X10_115 rfl ?_
      refine zS_aload_n (zdec eX10_whyNot 55 rfl) rfl rfl ?_
      refine zvI (M' := mX10_days) (As := []) (st := [zJ (-1), zJ (W (2 + x) (2 * e + 1))]) (zdec eX10_whyNot 56 rfl) kM_X10_240 kV_X10_days ⟨by decide, rfl⟩ rfl rfl rfl rfl rfl (by omega) (d_days RD) ?_
      refine zS_i2l (zdec eX10_whyNot 57 rfl) ?_
      refine zS_lconst (zdec eX10_whyNot 58 rfl) ?_
      refine zS_lsub (zdec eX10_whyNot 59 rfl) ⟨by omega, by omega⟩ ?_
      refine zsI (M' := mX10_in) (As := [zJ (W (2 + x) (2 * e + 1)), zJ (-1), zJ ((D 0 1) - 1)]) (st := []) (zdec eX10_whyNot 60 rfl) kM_X10_76 kS_X10_in rfl rfl rfl (by omega) r_in ?_
      refine zS_if_ne (tgt := 110) (zdec eX10_whyNot 61 rfl) rfl (fun c2 => ?_) (fun c2 => ?_)
      · have z2 := d2i_n.mp c2
        refine zS_iinc (zdec eX10_whyNot 64 rfl) rfl rfl ⟨by omega, by omega⟩ ?_
        refine zS_goto (tgt := 50) (zdec eX10_whyNot 65 rfl) rfl ?_
        refine zS_forget (i := 4) ?_
        rw [show 2 * e + 2 = 2 * (e + 1) by omega]
        exact ih (e + 1) (by omega) (by omega) (by rw [anyI_s _ a1, a3, Bool.false_or]; exact decide_eq_false (by omega))
      · have z2 := d2i_0.mp c2
        refine zS_bipush (zdec eX10_whyNot 62 rfl) rfl rfl ?_
        exact zlI (zdec eX10_whyNot 63 rfl) rfl (by rw [if_pos (anyI_iff.mpr ⟨e, a1, by omega, decide_eq_true (by omega)⟩)])
theorem r_whyNot {d : Nat} {h : zH} {D : Dk} {W : Rw} {x v : Int} (hd : 4 ≤ d) (VD : DV D) (RD : DR h 0 D) (RW : RR h W) (VW : RV W) (hv : v = 0 ∨ v = 1) : zPI d mX10_whyNot [zA 108, zI x, zI v] h (wyP D W x v) := by
  have nb := VD.nb
  refine zmet rfl rfl rfl ?_
  refine zS_iload_n (zdec eX10_whyNot 0 rfl) rfl ?_
  refine zsI (M' := mX10_isSlot) (As := [zI x]) (st := []) (zdec eX10_whyNot 1 rfl) kM_X10_80 kS_X10_isSlot rfl rfl rfl (by omega) (d_isSlot (by omega)) ?_
  refine zS_if_eq (tgt := 18) (zdec eX10_whyNot 2 rfl) rfl (fun c1 => ?_) (fun c1 => ?_)
  · have z1 := d2i_0.mp c1
    refine zS_bipush (zdec eX10_whyNot 8 rfl) rfl rfl ?_
    exact zlI (zdec eX10_whyNot 9 rfl) rfl (by unfold wyP; rw [if_pos (by omega)])
  · have z1 := d2i_n.mp c1
    refine zS_aload_n (zdec eX10_whyNot 3 rfl) rfl rfl ?_
    refine zvI (M' := mX10_isDesk) (As := []) (st := []) (zdec eX10_whyNot 4 rfl) kM_X10_332 kV_X10_isDesk ⟨by decide, rfl⟩ rfl rfl rfl rfl rfl (by omega) (d_isDesk VD RD) ?_
    refine zS_if_eq (tgt := 18) (zdec eX10_whyNot 5 rfl) rfl (fun c2 => ?_) (fun c2 => ?_)
    · have z2 := d2i_0.mp c2
      refine zS_bipush (zdec eX10_whyNot 8 rfl) rfl rfl ?_
      exact zlI (zdec eX10_whyNot 9 rfl) rfl (by unfold wyP; rw [if_pos (by omega)])
    · have z2 := d2i_n.mp c2
      refine zS_iload_n (zdec eX10_whyNot 6 rfl) rfl ?_
      refine zS_if_ne (tgt := 21) (zdec eX10_whyNot 7 rfl) rfl (fun c3 => ?_) (fun c3 => ?_)
      · refine zS_aload_n (zdec eX10_whyNot 10 rfl) rfl rfl ?_
        refine zS_getref (i := 55) (zdec eX10_whyNot 11 rfl) kF_X10_7 ⟨by decide, rfl⟩ rfl rfl rfl rfl rfl ?_
        refine zS_iload_n (zdec eX10_whyNot 12 rfl) rfl ?_
        refine zS_ialoadE (v := (if W 0 x = -1 then -1 else W 1 x)) (zdec eX10_whyNot 13 rfl) ⟨by decide, rfl⟩ (by omega) (by omega) (RW.wd (by omega) (by omega)) ?_
        refine zS_iconst (zdec eX10_whyNot 14 rfl) rfl ?_
        refine zS_icmp_ne (tgt := 34) (zdec eX10_whyNot 15 rfl) rfl (fun c4 => ?_) (fun c4 => ?_)
        · have he : W 0 x ≠ -1 := fun w => c4 (if_pos w)
          have vs := VW.sz (show 0 ≤ x by omega) (by omega)
          have tm : (W 0 x).tmod 2 = W 0 x % 2 := Int.tmod_eq_emod_of_nonneg (by omega)
          refine zS_aload_n (zdec eX10_whyNot 18 rfl) rfl rfl ?_
          refine zS_getref (i := 56) (zdec eX10_whyNot 19 rfl) kF_X10_13 ⟨by decide, rfl⟩ rfl rfl rfl rfl rfl ?_
          refine zS_iload_n (zdec eX10_whyNot 20 rfl) rfl ?_
          refine zS_ialoadE (v := (W 0 x)) (zdec eX10_whyNot 21 rfl) ⟨by decide, rfl⟩ (by omega) (by omega) (RW.sz (by omega) (by omega) (by assumption)) ?_
          refine zS_iconst (zdec eX10_whyNot 22 rfl) rfl ?_
          refine zS_irem (zdec eX10_whyNot 23 rfl) (by decide) (fun q => absurd q.2 (by decide)) ?_
          refine zS_if_eq (tgt := 48) (zdec eX10_whyNot 24 rfl) rfl (fun c5 => ?_) (fun c5 => ?_)
          · refine zS_iconst (zdec eX10_whyNot 27 rfl) rfl ?_
            refine zS_istore_n (zdec eX10_whyNot 28 rfl) rfl ?_
            unfold wyP
            rw [if_neg (by omega)]
            unfold rfS0
            rw [tm] at c5
            rw [if_neg he, if_neg (fun w => w c5)]
            exact L_rwhyn hd VD RD RW VW (by omega) (by omega) he c5 (W 0 x / 2).toNat 0 (by omega) (by omega) (anyI_0 _ (by omega))
          · refine zS_bipush (zdec eX10_whyNot 25 rfl) rfl rfl ?_
            exact zlI (zdec eX10_whyNot 26 rfl) rfl (by unfold wyP; rw [if_neg (by omega)]; unfold rfS0; rw [if_neg he, if_pos (by rw [← tm]; exact c5)])
        · have he : W 0 x = -1 := by by_cases w : W 0 x = -1; exact w; rw [if_neg w] at c4; have := VW.wd (show 0 ≤ x by omega) (by omega) w; omega
          refine zS_bipush (zdec eX10_whyNot 16 rfl) rfl rfl ?_
          exact zlI (zdec eX10_whyNot 17 rfl) rfl (by unfold wyP; rw [if_neg (by omega)]; unfold rfS0; rw [if_pos he])
      · refine zS_bipush (zdec eX10_whyNot 8 rfl) rfl rfl ?_
        exact zlI (zdec eX10_whyNot 9 rfl) rfl (by unfold wyP; rw [if_pos (by omega)])
theorem L_rso {d : Nat} {h : zH} {D : Dk} {W : Rw} {p : Pb} {q : Int → Int} {x : Int} (hd : 6 ≤ d) (VD : DV D) (VW : RV W) (pn : pNb p = D 0 8) (V : PV p) (R : WR h p) (S : PlR h p q) (q1 : ∀ b, q b ≤ pDays p) (RW : RR h W) (x0 : 0 ≤ x) (x1 : x < 4) (ok : okS D W x) : ∀ (n : Nat) (e : Int), 0 ≤ e → e + n = W 0 x / 2 → anyI (fun i => decide (dayC p q (W (2 + x) (2 * i)) ≠ W (2 + x) (2 * i + 1))) e = false → zS mX10_isSo (zr d) 2 [zA 108, zI x, zI (2 * e)] [] TT h (zOne (b2i (agP p q W x)) h) := by
  intro n
  induction n with
  | zero =>
    intro e a1 a2 a3
    have nb := VD.nb
    have vs := VW.sz x0 x1
    have ok0 := ok.1
    have ok1 := ok.2.1
    refine zS_iload_n (zdec eX10_isSo 2 rfl) rfl ?_
    refine zS_aload_n (zdec eX10_isSo 3 rfl) rfl rfl ?_
    refine zS_getref (i := 56) (zdec eX10_isSo 4 rfl) kF_X10_13 ⟨by decide, rfl⟩ rfl rfl rfl rfl rfl ?_
    refine zS_iload_n (zdec eX10_isSo 5 rfl) rfl ?_
    refine zS_ialoadE (v := (W 0 x)) (zdec eX10_isSo 6 rfl) ⟨by decide, rfl⟩ (by omega) (by omega) (RW.sz x0 x1 (by omega)) ?_
    refine zS_icmp_ge (tgt := 54) (zdec eX10_isSo 7 rfl) rfl (fun cz => ?_) (fun cz => absurd (by omega) cz)
    refine zS_iconst (zdec eX10_isSo 36 rfl) rfl ?_
    exact zlZ (zdec eX10_isSo 37 rfl) rfl (Or.inr rfl) (by unfold agP; rw [show W 0 x / 2 = e by omega, a3]; rfl)
  | succ n ih =>
    intro e a1 a2 a3
    have nb := VD.nb
    have vs := VW.sz x0 x1
    have ok0 := ok.1
    have ok1 := ok.2.1
    have oke := ok.2.2 e a1 (by omega)
    refine zS_iload_n (zdec eX10_isSo 2 rfl) rfl ?_
    refine zS_aload_n (zdec eX10_isSo 3 rfl) rfl rfl ?_
    refine zS_getref (i := 56) (zdec eX10_isSo 4 rfl) kF_X10_13 ⟨by decide, rfl⟩ rfl rfl rfl rfl rfl ?_
    refine zS_iload_n (zdec eX10_isSo 5 rfl) rfl ?_
    refine zS_ialoadE (v := (W 0 x)) (zdec eX10_isSo 6 rfl) ⟨by decide, rfl⟩ (by omega) (by omega) (RW.sz x0 x1 (by omega)) ?_
    refine zS_icmp_ge (tgt := 54) (zdec eX10_isSo 7 rfl) rfl (fun cz => absurd cz (by omega)) (fun cz => ?_)
    refine zS_aload_n (zdec eX10_isSo 8 rfl) rfl rfl ?_
    refine zS_aload_n (zdec eX10_isSo 9 rfl) rfl rfl ?_
    refine zS_getref (i := 57) (zdec eX10_isSo 10 rfl) kF_X10_16 ⟨by decide, rfl⟩ rfl rfl rfl rfl rfl ?_
    refine zS_bipush (zdec eX10_isSo 11 rfl) rfl rfl ?_
    refine zS_iload_n (zdec eX10_isSo 12 rfl) rfl ?_
    refine zS_imul (zdec eX10_isSo 13 rfl) ⟨by omega, by omega⟩ ?_
    refine zS_iload_n (zdec eX10_isSo 14 rfl) rfl ?_
    refine zS_iadd (zdec eX10_isSo 15 rfl) ⟨by omega, by omega⟩ ?_
    refine zS_laloadE (v := (W (2 + x) (2 * e))) (zdec eX10_isSo 16 rfl) ⟨by decide, rfl⟩ (by omega) (by omega) (RW.nm (by omega) (by omega) (by omega) (by omega)) ?_
    refine zS_l2i (zdec eX10_isSo 17 rfl) ?_
    rw [zL2I_id (by omega) (by omega)]
    refine zvI (M' := mX10_dayOf) (As := [zI (W (2 + x) (2 * e))]) (st := []) (zdec eX10_isSo 18 rfl) kM_X10_345 kV_X10_dayOf ⟨by decide, rfl⟩ rfl rfl rfl rfl rfl (by omega) (r_dayOf (by omega) V R S (by omega) (by omega) (q1 _)) ?_
    refine zS_i2l (zdec eX10_isSo 19 rfl) ?_
    refine zS_aload_n (zdec eX10_isSo 20 rfl) rfl rfl ?_
    refine zS_getref (i := 57) (zdec eX10_isSo 21 rfl) kF_X10_16 ⟨by decide, rfl⟩ rfl rfl rfl rfl rfl ?_
    refine zS_bipush (zdec eX10_isSo 22 rfl) rfl rfl ?_
    refine zS_iload_n (zdec eX10_isSo 23 rfl) rfl ?_
    refine zS_imul (zdec eX10_isSo 24 rfl) ⟨by omega, by omega⟩ ?_
    refine zS_iload_n (zdec eX10_isSo 25 rfl) rfl ?_
    refine zS_iadd (zdec eX10_isSo 26 rfl) ⟨by omega, by omega⟩ ?_
    refine zS_iconst (zdec eX10_isSo 27 rfl) rfl ?_
    refine zS_iadd (zdec eX10_isSo 28 rfl) ⟨by omega, by omega⟩ ?_
    refine zS_laloadE (v := (W (2 + x) (2 * e + 1))) (zdec eX10_isSo 29 rfl) ⟨by decide, rfl⟩ (by omega) (by omega) (by rw [Int.add_assoc]; exact RW.nm (by omega) (by omega) (by omega) (by omega)) ?_
    refine zS_lcmp (zdec eX10_isSo 30 rfl) ?_
    refine zS_if_eq (tgt := 48) (zdec eX10_isSo 31 rfl) rfl (fun c1 => ?_) (fun c1 => ?_)
    · refine zS_iinc (zdec eX10_isSo 34 rfl) rfl rfl ⟨by omega, by omega⟩ ?_
      refine zS_goto (tgt := 2) (zdec eX10_isSo 35 rfl) rfl ?_
      rw [show 2 * e + 2 = 2 * (e + 1) by omega]
      exact ih (e + 1) (by omega) (by omega) (by rw [anyI_s _ a1, a3, Bool.false_or]; exact decide_eq_false (fun w => w (zCmp_e.mp c1)))
    · refine zS_iconst (zdec eX10_isSo 32 rfl) rfl ?_
      exact zlZ (zdec eX10_isSo 33 rfl) rfl (Or.inl rfl) (by unfold agP; rw [anyI_iff.mpr ⟨e, a1, by omega, decide_eq_true (mt zCmp_e.mpr c1)⟩]; rfl)
theorem r_isSo {d : Nat} {h : zH} {D : Dk} {W : Rw} {p : Pb} {q : Int → Int} {x : Int} (hd : 6 ≤ d) (VD : DV D) (VW : RV W) (pn : pNb p = D 0 8) (V : PV p) (R : WR h p) (S : PlR h p q) (q1 : ∀ b, q b ≤ pDays p) (RW : RR h W) (x0 : 0 ≤ x) (x1 : x < 4) (ok : okS D W x) : zPI d mX10_isSo [zA 108, zI x] h (b2i (agP p q W x)) := by
  have nb := VD.nb
  have vs := VW.sz x0 x1
  have ok0 := ok.1
  have ok1 := ok.2.1
  refine zmet rfl rfl rfl ?_
  refine zS_iconst (zdec eX10_isSo 0 rfl) rfl ?_
  refine zS_istore_n (zdec eX10_isSo 1 rfl) rfl ?_
  exact L_rso hd VD VW pn V R S q1 RW x0 x1 ok (W 0 x / 2).toNat 0 (by omega) (by omega) (anyI_0 _ (by omega))
theorem K_laws {d : Nat} {h : zH} {D : Dk} {W : Rw} {x y : Int} (hd : 150 ≤ d) (VD : DV D) (hd0 : 0 < D 0 0) (RD : DR h 0 D) (RW : RR h W) (VW : RV W) (x0 : 0 ≤ x) (x1 : x < 4) (ok : okS D W x) : ∀ (n : Nat) (e : Int) (h1 : zH), 0 ≤ e → e + n = 4 → Fr sQR h h1 → zS mX10_laws (zr d) 23 [zA 108, zI x, zI y, zI (bitsI (fun l => agP (wS (pb0 D) 4 l) (planP (wS (pb0 D) 4 l)) W x) e), zI e] [] TT h1 (zAnI (fun r h' => r = bitsI (fun l => agP (wS (pb0 D) 4 l) (planP (wS (pb0 D) 4 l)) W x) 4 ∧ Fr sQR h h')) := by
  intro n
  induction n with
  | zero =>
    intro e h1 a1 a2 i1
    refine zS_iload (zdec eX10_laws 16 rfl) rfl ?_
    refine zS_iconst (zdec eX10_laws 17 rfl) rfl ?_
    refine zS_icmp_ge (tgt := 61) (zdec eX10_laws 18 rfl) rfl (fun cz => ?_) (fun cz => absurd (by omega) cz)
    refine zS_iload_n (zdec eX10_laws 37 rfl) rfl ?_
    exact zlMI (zdec eX10_laws 38 rfl) rfl ⟨by rw [show e = 4 by omega], i1⟩
  | succ n ih =>
    intro e h1 a1 a2 i1
    have RD1 : DR h1 0 D := RD.fr i1 (fun k j z => by omega)
    refine zS_iload (zdec eX10_laws 16 rfl) rfl ?_
    refine zS_iconst (zdec eX10_laws 17 rfl) rfl ?_
    refine zS_icmp_ge (tgt := 61) (zdec eX10_laws 18 rfl) rfl (fun cz => absurd cz (by omega)) (fun cz => ?_)
    refine zS_aload_n (zdec eX10_laws 19 rfl) rfl rfl ?_
    refine zS_iload (zdec eX10_laws 20 rfl) rfl ?_
    refine zvMI (M' := mX10_totalByLaw) (As := [zI e]) (st := []) (zdec eX10_laws 21 rfl) kM_X10_431 kV_X10_totalByLaw ⟨by decide, rfl⟩ rfl rfl rfl rfl rfl (by omega) (r_totalByLaw rfl (by omega) VD hd0 RD1 (by omega) (by omega)) (fun x3 h3 ⟨hx3, L3, g3⟩ => ?_)
    have f3 : Fr sQR h h3 := i1.tr g3 (fun k j z => z) (fun k j z => z)
    have RW3 : RR h3 W := RW.fr f3 (fun k j z => by omega)
    have V4 : PV (wS (pb0 D) 4 e) := (pb0_V VD hd0).law' (by omega) (by omega)
    refine zS_pop (zdec eX10_laws 22 rfl) (fun q => by cases q) ?_
    refine zS_iload_n (zdec eX10_laws 23 rfl) rfl ?_
    refine zS_aload_n (zdec eX10_laws 24 rfl) rfl rfl ?_
    refine zS_iload_n (zdec eX10_laws 25 rfl) rfl ?_
    refine zvI (M' := mX10_isSo) (As := [zI x]) (st := [zI (bitsI (fun l => agP (wS (pb0 D) 4 l) (planP (wS (pb0 D) 4 l)) W x) e)]) (zdec eX10_laws 26 rfl) kM_X10_412 kV_X10_isSo ⟨by decide, rfl⟩ rfl rfl rfl rfl rfl (by omega) (r_isSo (by omega) VD VW rfl V4 L3.1 L3.2 (fun b => (planP_rng V4 b).2) RW3 x0 x1 ok) ?_
    refine zS_if_eq (tgt := 52) (zdec eX10_laws 27 rfl) rfl (fun c1 => ?_) (fun c1 => ?_)
    · have z1 := b2i_0.mp c1
      refine zS_iconst (zdec eX10_laws 32 rfl) rfl ?_
      refine zS_ior (zdec eX10_laws 33 rfl) ?_
      refine zS_istore_n (zdec eX10_laws 34 rfl) rfl ?_
      refine zS_iinc (zdec eX10_laws 35 rfl) rfl rfl ⟨by omega, by omega⟩ ?_
      refine zS_goto (tgt := 23) (zdec eX10_laws 36 rfl) rfl ?_
      have k := ih (e + 1) h3 (by omega) (by omega) f3
      rw [bitsI_s _ a1] at k
      rw [if_neg (by rw [z1]; decide)] at k
      rw [bits_or0 a1 (by omega)]
      exact k
    · have z1 := b2i_n.mp c1
      refine zS_iconst (zdec eX10_laws 28 rfl) rfl ?_
      refine zS_iload (zdec eX10_laws 29 rfl) rfl ?_
      refine zS_ishl (zdec eX10_laws 30 rfl) ?_
      refine zS_goto (tgt := 53) (zdec eX10_laws 31 rfl) rfl ?_
      refine zS_ior (zdec eX10_laws 33 rfl) ?_
      refine zS_istore_n (zdec eX10_laws 34 rfl) rfl ?_
      refine zS_iinc (zdec eX10_laws 35 rfl) rfl rfl ⟨by omega, by omega⟩ ?_
      refine zS_goto (tgt := 23) (zdec eX10_laws 36 rfl) rfl ?_
      have k := ih (e + 1) h3 (by omega) (by omega) f3
      rw [bitsI_s _ a1] at k
      rw [if_pos z1] at k
      exact k
theorem wy_1 {D : Dk} {W : Rw} {x : Int} : (¬ ((0 ≤ x ∧ x < 4) ∧ 0 < D 0 0) → wyP D W x 1 = -2) ∧ ((0 ≤ x ∧ x < 4) ∧ 0 < D 0 0 → wyP D W x 1 = rfS0 D W x) := by
  unfold wyP
  exact ⟨fun h => if_pos (fun w => h ⟨w.1, w.2.1⟩), fun h => if_neg (not_not_intro ⟨h.1, h.2, by decide⟩)⟩
theorem q_laws {d : Nat} {h : zH} {D : Dk} {W : Rw} {x : Int} (hd : 200 ≤ d) (VD : DV D) (RD : DR h 0 D) (RW : RR h W) (VW : RV W) : zMI d mX10_laws [zA 108, zI x] h (fun r h' => r = a_laws D W x ∧ Fr sQR h h') := by
  obtain ⟨p, hp⟩ : ∃ p, pb0 D = p := ⟨_, rfl⟩
  obtain ⟨q, hq⟩ : ∃ q, planP p = q := ⟨_, rfl⟩
  have pd : pDays p = D 0 1 := by rw [← hp]; rfl
  have pn : pNb p = D 0 8 := by rw [← hp]; rfl
  have dy := VD.days
  have nb := VD.nb
  have ns := VD.ns
  have nl := VD.nl
  have na := VD.na
  have vfl := VD.fl
  have vfe := VD.fee
  have hin : ∀ b, 0 ≤ b → b < pNb p → pIn p b = true := fun b _ _ => by rw [← hp]; rfl
  refine zmet rfl rfl rfl ?_
  refine zS_aload_n (zdec eX10_laws 0 rfl) rfl rfl ?_
  refine zS_iconst (zdec eX10_laws 1 rfl) rfl ?_
  refine zS_putfield (x := 0) (zdec eX10_laws 2 rfl) kF_X10_71 (Or.inl kf10_0) ⟨by decide, rfl⟩ rfl rfl rfl (Or.inl (fun q => by cases q)) ?_
  obtain ⟨h0, E0⟩ : ∃ x, x = zset h 108 0 0 := ⟨_, rfl⟩
  rw [show zset h 108 0 (0 : Int) = h0 from E0.symm]
  have f0 : Fr sQR h h0 := by rw [E0]; exact Fr.rf.set (by omega)
  have RD0 : DR h0 0 D := RD.fr f0 (fun k j z => by omega)
  refine zS_aload_n (zdec eX10_laws 3 rfl) rfl rfl ?_
  refine zS_iload_n (zdec eX10_laws 4 rfl) rfl ?_
  refine zS_iconst (zdec eX10_laws 5 rfl) rfl ?_
  have RW0 : RR h0 W := RW.fr f0 (fun k j z => by omega)
  refine zvI (M' := mX10_whyNot) (As := [zI x, zI 1]) (st := []) (zdec eX10_laws 6 rfl) kM_X10_424 kV_X10_whyNot ⟨by decide, rfl⟩ rfl rfl rfl rfl rfl (by omega) (r_whyNot (v := 1) (by omega) VD RD0 RW0 VW (Or.inr rfl)) ?_
  refine zS_istore_n (zdec eX10_laws 7 rfl) rfl ?_
  refine zS_iload_n (zdec eX10_laws 8 rfl) rfl ?_
  refine zS_if_eq (tgt := 18) (zdec eX10_laws 9 rfl) rfl (fun c1 => ?_) (fun c1 => ?_)
  · refine zS_iconst (zdec eX10_laws 12 rfl) rfl ?_
    refine zS_istore_n (zdec eX10_laws 13 rfl) rfl ?_
    refine zS_iconst (zdec eX10_laws 14 rfl) rfl ?_
    refine zS_istore (zdec eX10_laws 15 rfl) rfl ?_
    have w : (0 ≤ x ∧ x < 4) ∧ 0 < D 0 0 := Decidable.byContradiction (fun w => by have := (wy_1 (W := W)).1 w; omega)
    have e1 := (wy_1 (W := W)).2 w
    unfold a_laws
    rw [if_neg (not_not_intro w), if_pos (by omega)]
    exact K_laws (by omega) VD w.2 RD RW VW w.1.1 w.1.2 (rfS0_0 VW w.1.1 w.1.2 (by omega)) 4 0 h0 (by omega) (by omega) f0
  · refine zS_iload_n (zdec eX10_laws 10 rfl) rfl ?_
    exact zlMI (zdec eX10_laws 11 rfl) rfl ⟨by unfold a_laws; exact (by
          by_cases w : (0 ≤ x ∧ x < 4) ∧ 0 < D 0 0
          · have e1 := (wy_1 (W := W)).2 w
            rw [if_neg (not_not_intro w), if_neg (by rw [← e1]; exact c1), e1]
          · rw [if_pos w]; exact wy_1.1 w), f0⟩

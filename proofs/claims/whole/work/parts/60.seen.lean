def badS (D : Dk) (W : Rw) (x i : Int) : Bool := decide (W (2 + x) (2 * i) < 0 ∨ D 0 8 ≤ W (2 + x) (2 * i) ∨ W (2 + x) (2 * i + 1) < -1 ∨ D 0 1 ≤ W (2 + x) (2 * i + 1))
def rfS0 (D : Dk) (W : Rw) (x : Int) : Int := if W 0 x = -1 then -6 else if W 0 x % 2 ≠ 0 then -2 else if anyI (badS D W x) (W 0 x / 2) then -2 else 0
def rfS (D : Dk) (W : Rw) (x b : Int) : Int := if ¬ ((0 ≤ x ∧ x < 4) ∧ 0 ≤ b ∧ b < D 0 8) then -2 else rfS0 D W x
def okS (D : Dk) (W : Rw) (x : Int) : Prop := 0 ≤ W 0 x ∧ W 0 x % 2 = 0 ∧ ∀ i, 0 ≤ i → 2 * i < W 0 x → (0 ≤ W (2 + x) (2 * i) ∧ W (2 + x) (2 * i) < D 0 8) ∧ -1 ≤ W (2 + x) (2 * i + 1) ∧ W (2 + x) (2 * i + 1) < D 0 1
theorem rfS0_0 {D : Dk} {W : Rw} {x : Int} (VW : RV W) (x0 : 0 ≤ x) (x1 : x < 4) (h : rfS0 D W x = 0) : okS D W x := by
  have vs := VW.sz x0 x1
  unfold rfS0 at h
  by_cases c1 : W 0 x = -1
  · rw [if_pos c1] at h; omega
  · rw [if_neg c1] at h
    by_cases c2 : W 0 x % 2 ≠ 0
    · rw [if_pos c2] at h; omega
    · rw [if_neg c2] at h
      by_cases c3 : anyI (badS D W x) (W 0 x / 2) = true
      · rw [if_pos c3] at h; omega
      · refine ⟨by omega, by omega, fun i i0 i1 => ?_⟩
        have z := anyI_f.mp (Bool.eq_false_iff.mpr c3) i i0 (by omega)
        unfold badS at z
        have := of_decide_eq_false z
        omega
theorem rfS_0 {D : Dk} {W : Rw} {x b : Int} (VW : RV W) (h : rfS D W x b = 0) : ((0 ≤ x ∧ x < 4) ∧ 0 ≤ b ∧ b < D 0 8) ∧ okS D W x := by
  unfold rfS at h
  by_cases c1 : (0 ≤ x ∧ x < 4) ∧ 0 ≤ b ∧ b < D 0 8
  · rw [if_neg (not_not_intro c1)] at h
    exact ⟨c1, rfS0_0 VW c1.1.1 c1.1.2 h⟩
  · rw [if_pos c1] at h; omega
def agP (p : Pb) (q : Int → Int) (W : Rw) (x : Int) : Bool := !anyI (fun i => decide (dayC p q (W (2 + x) (2 * i)) ≠ W (2 + x) (2 * i + 1))) (W 0 x / 2)
theorem zCmp_e {a b : Int} : zCmp a b = 0 ↔ a = b := by unfold zCmp; split <;> (try split) <;> omega
theorem L_refS {d : Nat} {h : zH} {D : Dk} {W : Rw} {x : Int} (VD : DV D) (RW : RC h W) (VW : RV W) (x0 : 0 ≤ x) (x1 : x < 4) (hz : 0 ≤ W 0 x) (hz2 : W 0 x % 2 = 0) : ∀ (n : Nat) (e : Int), 0 ≤ e → e + n = W 0 x / 2 → anyI (badS D W x) e = false → zS mX3_refusedSeen (zr d) 28 [zA 67, zI x, zI (D 0 8), zI (D 0 1), zI (2 * e), zN, zN, zN, zN] [] TT h (zOne (if anyI (badS D W x) (W 0 x / 2) then -2 else 0) h) := by
  intro n
  induction n with
  | zero =>
    intro e a1 a2 a3
    have nb := VD.nb
    have dy := VD.days
    have vs := VW.sz x0 x1
    refine zS_iload (zdec eX3_refusedSeen 17 rfl) rfl ?_
    refine zS_iconst (zdec eX3_refusedSeen 18 rfl) rfl ?_
    refine zS_iadd (zdec eX3_refusedSeen 19 rfl) ⟨by omega, by omega⟩ ?_
    refine zS_aload_n (zdec eX3_refusedSeen 20 rfl) rfl rfl ?_
    refine zS_getref (i := 46) (zdec eX3_refusedSeen 21 rfl) kF_X3_16 ⟨by decide, rfl⟩ rfl rfl rfl rfl rfl ?_
    refine zS_iload_n (zdec eX3_refusedSeen 22 rfl) rfl ?_
    refine zS_ialoadE (v := (W 0 x)) (zdec eX3_refusedSeen 23 rfl) ⟨by decide, rfl⟩ (by omega) (by omega) (RW.sz (by omega) (by omega)) ?_
    refine zS_icmp_ge (tgt := 106) (zdec eX3_refusedSeen 24 rfl) rfl (fun cz => ?_) (fun cz => absurd (by omega) cz)
    refine zS_iconst (zdec eX3_refusedSeen 63 rfl) rfl ?_
    exact zlI (zdec eX3_refusedSeen 64 rfl) rfl (by rw [show W 0 x / 2 = e by omega, a3]; rfl)
  | succ n ih =>
    intro e a1 a2 a3
    have nb := VD.nb
    have dy := VD.days
    have vs := VW.sz x0 x1
    refine zS_iload (zdec eX3_refusedSeen 17 rfl) rfl ?_
    refine zS_iconst (zdec eX3_refusedSeen 18 rfl) rfl ?_
    refine zS_iadd (zdec eX3_refusedSeen 19 rfl) ⟨by omega, by omega⟩ ?_
    refine zS_aload_n (zdec eX3_refusedSeen 20 rfl) rfl rfl ?_
    refine zS_getref (i := 46) (zdec eX3_refusedSeen 21 rfl) kF_X3_16 ⟨by decide, rfl⟩ rfl rfl rfl rfl rfl ?_
    refine zS_iload_n (zdec eX3_refusedSeen 22 rfl) rfl ?_
    refine zS_ialoadE (v := (W 0 x)) (zdec eX3_refusedSeen 23 rfl) ⟨by decide, rfl⟩ (by omega) (by omega) (RW.sz (by omega) (by omega)) ?_
    refine zS_icmp_ge (tgt := 106) (zdec eX3_refusedSeen 24 rfl) rfl (fun cz => absurd cz (by omega)) (fun cz => ?_)
    refine zS_aload_n (zdec eX3_refusedSeen 25 rfl) rfl rfl ?_
    refine zS_getref (i := 45) (zdec eX3_refusedSeen 26 rfl) kF_X3_11 ⟨by decide, rfl⟩ rfl rfl rfl rfl rfl ?_
    refine zS_iload_n (zdec eX3_refusedSeen 27 rfl) rfl ?_
    refine zS_aaload1 (i := 6) (zdec eX3_refusedSeen 28 rfl) (Or.inr (Or.inr rfl)) ⟨by decide, rfl⟩ rfl rfl rfl (by omega) (by omega) ?_
    refine zS_iload (zdec eX3_refusedSeen 29 rfl) rfl ?_
    refine zS_laloadE (v := (W (2 + x) (2 * e))) (zdec eX3_refusedSeen 30 rfl) (zrow_69 (by omega) (by omega)) (by omega) (by omega) (RW.nm (by omega) (by omega) (by omega) (by omega)) ?_
    refine zS_lstore (zdec eX3_refusedSeen 31 rfl) rfl ?_
    refine zS_aload_n (zdec eX3_refusedSeen 32 rfl) rfl rfl ?_
    refine zS_getref (i := 45) (zdec eX3_refusedSeen 33 rfl) kF_X3_11 ⟨by decide, rfl⟩ rfl rfl rfl rfl rfl ?_
    refine zS_iload_n (zdec eX3_refusedSeen 34 rfl) rfl ?_
    refine zS_aaload1 (i := 6) (zdec eX3_refusedSeen 35 rfl) (Or.inr (Or.inr rfl)) ⟨by decide, rfl⟩ rfl rfl rfl (by omega) (by omega) ?_
    refine zS_iload (zdec eX3_refusedSeen 36 rfl) rfl ?_
    refine zS_iconst (zdec eX3_refusedSeen 37 rfl) rfl ?_
    refine zS_iadd (zdec eX3_refusedSeen 38 rfl) ⟨by omega, by omega⟩ ?_
    refine zS_laloadE (v := (W (2 + x) ((2 * e) + 1))) (zdec eX3_refusedSeen 39 rfl) (zrow_69 (by omega) (by omega)) (by omega) (by omega) (RW.nm (by omega) (by omega) (by omega) (by omega)) ?_
    refine zS_lstore (zdec eX3_refusedSeen 40 rfl) rfl ?_
    refine zS_lload (zdec eX3_refusedSeen 41 rfl) rfl ?_
    refine zS_lconst (zdec eX3_refusedSeen 42 rfl) ?_
    refine zS_lcmp (zdec eX3_refusedSeen 43 rfl) ?_
    refine zS_if_lt (tgt := 97) (zdec eX3_refusedSeen 44 rfl) rfl (fun c1 => ?_) (fun c1 => ?_)
    · refine zS_bipush (zdec eX3_refusedSeen 59 rfl) rfl rfl ?_
      exact zlI (zdec eX3_refusedSeen 60 rfl) rfl (by rw [if_pos (anyI_iff.mpr ⟨e, a1, by omega, decide_eq_true (by have := zCmp_lt.mp c1; omega)⟩)])
    · refine zS_lload (zdec eX3_refusedSeen 45 rfl) rfl ?_
      refine zS_iload_n (zdec eX3_refusedSeen 46 rfl) rfl ?_
      refine zS_i2l (zdec eX3_refusedSeen 47 rfl) ?_
      refine zS_lcmp (zdec eX3_refusedSeen 48 rfl) ?_
      refine zS_if_ge (tgt := 97) (zdec eX3_refusedSeen 49 rfl) rfl (fun c2 => ?_) (fun c2 => ?_)
      · refine zS_bipush (zdec eX3_refusedSeen 59 rfl) rfl rfl ?_
        exact zlI (zdec eX3_refusedSeen 60 rfl) rfl (by rw [if_pos (anyI_iff.mpr ⟨e, a1, by omega, decide_eq_true (by have := zCmp_ge.mp c2; omega)⟩)])
      · refine zS_lload (zdec eX3_refusedSeen 50 rfl) rfl ?_
        refine zS_ldc2_w (zdec eX3_refusedSeen 51 rfl) kj_X3_27 rfl ?_
        refine zS_lcmp (zdec eX3_refusedSeen 52 rfl) ?_
        refine zS_if_lt (tgt := 97) (zdec eX3_refusedSeen 53 rfl) rfl (fun c3 => ?_) (fun c3 => ?_)
        · refine zS_bipush (zdec eX3_refusedSeen 59 rfl) rfl rfl ?_
          exact zlI (zdec eX3_refusedSeen 60 rfl) rfl (by rw [if_pos (anyI_iff.mpr ⟨e, a1, by omega, decide_eq_true (by have := zCmp_lt.mp c3; omega)⟩)])
        · refine zS_lload (zdec eX3_refusedSeen 54 rfl) rfl ?_
          refine zS_iload_n (zdec eX3_refusedSeen 55 rfl) rfl ?_
          refine zS_i2l (zdec eX3_refusedSeen 56 rfl) ?_
          refine zS_lcmp (zdec eX3_refusedSeen 57 rfl) ?_
          refine zS_if_lt (tgt := 100) (zdec eX3_refusedSeen 58 rfl) rfl (fun c4 => ?_) (fun c4 => ?_)
          · refine zS_iinc (zdec eX3_refusedSeen 61 rfl) rfl rfl ⟨by omega, by omega⟩ ?_
            refine zS_goto (tgt := 28) (zdec eX3_refusedSeen 62 rfl) rfl ?_
            refine zS_forget (i := 5) ?_
            refine zS_forget (i := 7) ?_
            rw [show 2 * e + 2 = 2 * (e + 1) by omega]
            exact ih (e + 1) (by omega) (by omega) (by rw [anyI_s _ a1, a3, Bool.false_or]; exact decide_eq_false (by have := mt zCmp_lt.mpr c1; have := mt zCmp_ge.mpr c2; have := mt zCmp_lt.mpr c3; have := zCmp_lt.mp c4; omega))
          · refine zS_bipush (zdec eX3_refusedSeen 59 rfl) rfl rfl ?_
            exact zlI (zdec eX3_refusedSeen 60 rfl) rfl (by rw [if_pos (anyI_iff.mpr ⟨e, a1, by omega, decide_eq_true (by have := mt zCmp_lt.mpr c4; omega)⟩)])
theorem c_refS0 {d : Nat} {h : zH} {D : Dk} {W : Rw} {x : Int} (hd : 1 ≤ d) (VD : DV D) (RW : RC h W) (VW : RV W) (x0 : 0 ≤ x) (x1 : x < 4) : zPI d mX3_refusedSeen [zA 67, zI x, zI (D 0 8), zI (D 0 1)] h (rfS0 D W x) := by
  have nb := VD.nb
  have dy := VD.days
  have vs := VW.sz x0 x1
  refine zmet rfl rfl rfl ?_
  refine zS_aload_n (zdec eX3_refusedSeen 0 rfl) rfl rfl ?_
  refine zS_iload_n (zdec eX3_refusedSeen 1 rfl) rfl ?_
  refine zvI (M' := mX3_isEmpty) (As := [zI x]) (st := []) (zdec eX3_refusedSeen 2 rfl) kM_X3_23 kV_X3_isEmpty ⟨by decide, rfl⟩ rfl rfl rfl rfl rfl (by omega) (c_isEmpty RW (by omega) (by omega)) ?_
  refine zS_if_eq (tgt := 11) (zdec eX3_refusedSeen 3 rfl) rfl (fun c1 => ?_) (fun c1 => ?_)
  · have z1 := d2i_0.mp c1
    refine zS_aload_n (zdec eX3_refusedSeen 6 rfl) rfl rfl ?_
    refine zS_getref (i := 46) (zdec eX3_refusedSeen 7 rfl) kF_X3_16 ⟨by decide, rfl⟩ rfl rfl rfl rfl rfl ?_
    refine zS_iload_n (zdec eX3_refusedSeen 8 rfl) rfl ?_
    refine zS_ialoadE (v := (W 0 x)) (zdec eX3_refusedSeen 9 rfl) ⟨by decide, rfl⟩ (by omega) (by omega) (RW.sz (by omega) (by omega)) ?_
    refine zS_iconst (zdec eX3_refusedSeen 10 rfl) rfl ?_
    refine zS_irem (zdec eX3_refusedSeen 11 rfl) (by decide) (fun q => absurd q.2 (by decide)) ?_
    have tm : (W 0 x).tmod 2 = W 0 x % 2 := Int.tmod_eq_emod_of_nonneg (by omega)
    refine zS_if_eq (tgt := 25) (zdec eX3_refusedSeen 12 rfl) rfl (fun c2 => ?_) (fun c2 => ?_)
    · refine zS_iconst (zdec eX3_refusedSeen 15 rfl) rfl ?_
      refine zS_istore (zdec eX3_refusedSeen 16 rfl) rfl ?_
      unfold rfS0
      rw [tm] at c2
      rw [if_neg z1, if_neg (fun w => w c2)]
      exact L_refS VD RW VW x0 x1 (by omega) c2 (W 0 x / 2).toNat 0 (by omega) (by omega) (anyI_0 _ (by omega))
    · refine zS_bipush (zdec eX3_refusedSeen 13 rfl) rfl rfl ?_
      exact zlI (zdec eX3_refusedSeen 14 rfl) rfl (by unfold rfS0; rw [if_neg z1, if_pos (by rw [← tm]; exact c2)])
  · have z1 := d2i_n.mp c1
    refine zS_bipush (zdec eX3_refusedSeen 4 rfl) rfl rfl ?_
    exact zlI (zdec eX3_refusedSeen 5 rfl) rfl (by unfold rfS0; rw [if_pos z1])
theorem c_refS {d : Nat} {h : zH} {D : Dk} {W : Rw} {x y : Int} (hd : 2 ≤ d) (VD : DV D) (RD : DC h 15 D) (RW : RC h W) (VW : RV W) : zPI d mX9_refusedSeen [zA 0, zI x, zI y] h (rfS D W x y) := by
  have nb := VD.nb
  have dy := VD.days
  refine zmet rfl rfl rfl ?_
  refine zS_aload_n (zdec eX9_refusedSeen 0 rfl) rfl rfl ?_
  refine zS_getref (i := 5) (zdec eX9_refusedSeen 1 rfl) kF_X9_42 ⟨by decide, rfl⟩ rfl rfl rfl rfl rfl ?_
  refine zS_iload_n (zdec eX9_refusedSeen 2 rfl) rfl ?_
  refine zvI (M' := mX3_isSlot) (As := [zI x]) (st := []) (zdec eX9_refusedSeen 3 rfl) kM_X9_303 kV_X3_isSlot ⟨by decide, rfl⟩ rfl rfl rfl rfl rfl (by omega) c_isSlot ?_
  refine zS_if_eq (tgt := 19) (zdec eX9_refusedSeen 4 rfl) rfl (fun c1 => ?_) (fun c1 => ?_)
  · have z1 := d2i_0.mp c1
    refine zS_bipush (zdec eX9_refusedSeen 9 rfl) rfl rfl ?_
    exact zlI (zdec eX9_refusedSeen 10 rfl) rfl (by unfold rfS; rw [if_pos (by omega)])
  · have z1 := d2i_n.mp c1
    refine zS_aload_n (zdec eX9_refusedSeen 5 rfl) rfl rfl ?_
    refine zS_iload_n (zdec eX9_refusedSeen 6 rfl) rfl ?_
    refine zvI (M' := mX9_isBill) (As := [zI y]) (st := []) (zdec eX9_refusedSeen 7 rfl) kM_X9_116 kV_X9_isBill ⟨by decide, rfl⟩ rfl rfl rfl rfl rfl (by omega) (c_isBill RD) ?_
    refine zS_if_ne (tgt := 22) (zdec eX9_refusedSeen 8 rfl) rfl (fun c2 => ?_) (fun c2 => ?_)
    · have z2 := d2i_n.mp c2
      refine zS_aload_n (zdec eX9_refusedSeen 11 rfl) rfl rfl ?_
      refine zS_getref (i := 5) (zdec eX9_refusedSeen 12 rfl) kF_X9_42 ⟨by decide, rfl⟩ rfl rfl rfl rfl rfl ?_
      refine zS_iload_n (zdec eX9_refusedSeen 13 rfl) rfl ?_
      refine zS_aload_n (zdec eX9_refusedSeen 14 rfl) rfl rfl ?_
      refine zS_getref (i := 2) (zdec eX9_refusedSeen 15 rfl) kF_X9_27 ⟨by decide, rfl⟩ rfl rfl rfl rfl rfl ?_
      refine zS_getfieldE (x := 8) (v := (D 0 8)) (zdec eX9_refusedSeen 16 rfl) kF_X9_202 ⟨by decide, rfl⟩ rfl rfl rfl (RD.s (by decide) (by decide)) ?_
      refine zS_aload_n (zdec eX9_refusedSeen 17 rfl) rfl rfl ?_
      refine zS_getref (i := 2) (zdec eX9_refusedSeen 18 rfl) kF_X9_27 ⟨by decide, rfl⟩ rfl rfl rfl rfl rfl ?_
      refine zS_getfieldE (x := 1) (v := (D 0 1)) (zdec eX9_refusedSeen 19 rfl) kF_X9_127 ⟨by decide, rfl⟩ rfl rfl rfl (RD.s (by decide) (by decide)) ?_
      refine zvI (M' := mX3_refusedSeen) (As := [zI x, zI (D 0 8), zI (D 0 1)]) (st := []) (zdec eX9_refusedSeen 20 rfl) kM_X9_306 kV_X3_refusedSeen ⟨by decide, rfl⟩ rfl rfl rfl rfl rfl (by omega) (c_refS0 (by omega) VD RW VW (by omega) (by omega)) ?_
      exact zlI (zdec eX9_refusedSeen 21 rfl) rfl (by unfold rfS; exact (if_neg (not_not_intro ⟨z1, z2⟩)).symm)
    · have z2 := d2i_0.mp c2
      refine zS_bipush (zdec eX9_refusedSeen 9 rfl) rfl rfl ?_
      exact zlI (zdec eX9_refusedSeen 10 rfl) rfl (by unfold rfS; rw [if_pos (by omega)])
theorem L_agr {d : Nat} {h : zH} {D : Dk} {W : Rw} {p : Pb} {q : Int → Int} {x : Int} (VD : DV D) (VW : RV W) (pn : pNb p = D 0 8) (S : PlC h p q) (RW : RC h W) (x0 : 0 ≤ x) (x1 : x < 4) (ok : okS D W x) : ∀ (n : Nat) (e : Int), 0 ≤ e → e + n = W 0 x / 2 → anyI (fun i => decide (dayC p q (W (2 + x) (2 * i)) ≠ W (2 + x) (2 * i + 1))) e = false → zS mX5_agrees (zr d) 3 [zA 79, zA 14, zA 67, zI x, zI (2 * e), zN] [] TT h (zOne (b2i (agP p q W x)) h) := by
  intro n
  induction n with
  | zero =>
    intro e a1 a2 a3
    have nb := VD.nb
    have vs := VW.sz x0 x1
    have ok0 := ok.1
    have ok1 := ok.2.1
    refine zS_iload (zdec eX5_agrees 2 rfl) rfl ?_
    refine zS_iconst (zdec eX5_agrees 3 rfl) rfl ?_
    refine zS_iadd (zdec eX5_agrees 4 rfl) ⟨by omega, by omega⟩ ?_
    refine zS_aload_n (zdec eX5_agrees 5 rfl) rfl rfl ?_
    refine zS_getref (i := 46) (zdec eX5_agrees 6 rfl) kF_X5_49 ⟨by decide, rfl⟩ rfl rfl rfl rfl rfl ?_
    refine zS_iload_n (zdec eX5_agrees 7 rfl) rfl ?_
    refine zS_ialoadE (v := (W 0 x)) (zdec eX5_agrees 8 rfl) ⟨by decide, rfl⟩ (by omega) (by omega) (RW.sz (by omega) (by omega)) ?_
    refine zS_icmp_ge (tgt := 70) (zdec eX5_agrees 9 rfl) rfl (fun cz => ?_) (fun cz => absurd (by omega) cz)
    refine zS_iconst (zdec eX5_agrees 42 rfl) rfl ?_
    exact zlZ (zdec eX5_agrees 43 rfl) rfl (Or.inr rfl) (by unfold agP; rw [show W 0 x / 2 = e by omega, a3]; rfl)
  | succ n ih =>
    intro e a1 a2 a3
    have nb := VD.nb
    have vs := VW.sz x0 x1
    have ok0 := ok.1
    have ok1 := ok.2.1
    have oke := ok.2.2 e a1 (by omega)
    refine zS_iload (zdec eX5_agrees 2 rfl) rfl ?_
    refine zS_iconst (zdec eX5_agrees 3 rfl) rfl ?_
    refine zS_iadd (zdec eX5_agrees 4 rfl) ⟨by omega, by omega⟩ ?_
    refine zS_aload_n (zdec eX5_agrees 5 rfl) rfl rfl ?_
    refine zS_getref (i := 46) (zdec eX5_agrees 6 rfl) kF_X5_49 ⟨by decide, rfl⟩ rfl rfl rfl rfl rfl ?_
    refine zS_iload_n (zdec eX5_agrees 7 rfl) rfl ?_
    refine zS_ialoadE (v := (W 0 x)) (zdec eX5_agrees 8 rfl) ⟨by decide, rfl⟩ (by omega) (by omega) (RW.sz (by omega) (by omega)) ?_
    refine zS_icmp_ge (tgt := 70) (zdec eX5_agrees 9 rfl) rfl (fun cz => absurd cz (by omega)) (fun cz => ?_)
    refine zS_aload_n (zdec eX5_agrees 10 rfl) rfl rfl ?_
    refine zS_getref (i := 45) (zdec eX5_agrees 11 rfl) kF_X5_54 ⟨by decide, rfl⟩ rfl rfl rfl rfl rfl ?_
    refine zS_iload_n (zdec eX5_agrees 12 rfl) rfl ?_
    refine zS_aaload1 (i := 6) (zdec eX5_agrees 13 rfl) (Or.inr (Or.inr rfl)) ⟨by decide, rfl⟩ rfl rfl rfl (by omega) (by omega) ?_
    refine zS_iload (zdec eX5_agrees 14 rfl) rfl ?_
    refine zS_laloadE (v := (W (2 + x) (2 * e))) (zdec eX5_agrees 15 rfl) (zrow_69 (by omega) (by omega)) (by omega) (by omega) (RW.nm (by omega) (by omega) (by omega) (by omega)) ?_
    refine zS_l2i (zdec eX5_agrees 16 rfl) ?_
    rw [zL2I_id (by omega) (by omega)]
    refine zS_istore (zdec eX5_agrees 17 rfl) rfl ?_
    refine zS_iload (zdec eX5_agrees 18 rfl) rfl ?_
    refine zS_if_lt (tgt := 62) (zdec eX5_agrees 19 rfl) rfl (fun cz => absurd cz (by omega)) (fun cz => ?_)
    refine zS_iload (zdec eX5_agrees 20 rfl) rfl ?_
    refine zS_iconst (zdec eX5_agrees 21 rfl) rfl ?_
    refine zS_icmp_ge (tgt := 62) (zdec eX5_agrees 22 rfl) rfl (fun cz => absurd cz (by omega)) (fun cz => ?_)
    refine zS_aload_n (zdec eX5_agrees 23 rfl) rfl rfl ?_
    refine zS_getref (i := 21) (zdec eX5_agrees 24 rfl) kF_X5_40 ⟨by decide, rfl⟩ rfl rfl rfl rfl rfl ?_
    refine zS_iload (zdec eX5_agrees 25 rfl) rfl ?_
    refine zS_ialoadE (v := (dayC p q (W (2 + x) (2 * e)))) (zdec eX5_agrees 26 rfl) ⟨by decide, rfl⟩ (by omega) (by omega) (S.day (by omega) (by omega)) ?_
    refine zS_i2l (zdec eX5_agrees 27 rfl) ?_
    refine zS_aload_n (zdec eX5_agrees 28 rfl) rfl rfl ?_
    refine zS_getref (i := 45) (zdec eX5_agrees 29 rfl) kF_X5_54 ⟨by decide, rfl⟩ rfl rfl rfl rfl rfl ?_
    refine zS_iload_n (zdec eX5_agrees 30 rfl) rfl ?_
    refine zS_aaload1 (i := 6) (zdec eX5_agrees 31 rfl) (Or.inr (Or.inr rfl)) ⟨by decide, rfl⟩ rfl rfl rfl (by omega) (by omega) ?_
    refine zS_iload (zdec eX5_agrees 32 rfl) rfl ?_
    refine zS_iconst (zdec eX5_agrees 33 rfl) rfl ?_
    refine zS_iadd (zdec eX5_agrees 34 rfl) ⟨by omega, by omega⟩ ?_
    refine zS_laloadE (v := (W (2 + x) ((2 * e) + 1))) (zdec eX5_agrees 35 rfl) (zrow_69 (by omega) (by omega)) (by omega) (by omega) (RW.nm (by omega) (by omega) (by omega) (by omega)) ?_
    refine zS_lcmp (zdec eX5_agrees 36 rfl) ?_
    refine zS_if_eq (tgt := 64) (zdec eX5_agrees 37 rfl) rfl (fun c1 => ?_) (fun c1 => ?_)
    · refine zS_iinc (zdec eX5_agrees 40 rfl) rfl rfl ⟨by omega, by omega⟩ ?_
      refine zS_goto (tgt := 3) (zdec eX5_agrees 41 rfl) rfl ?_
      refine zS_forget (i := 5) ?_
      rw [show 2 * e + 2 = 2 * (e + 1) by omega]
      exact ih (e + 1) (by omega) (by omega) (by rw [anyI_s _ a1, a3, Bool.false_or]; exact decide_eq_false (fun w => w (zCmp_e.mp c1)))
    · refine zS_iconst (zdec eX5_agrees 38 rfl) rfl ?_
      exact zlZ (zdec eX5_agrees 39 rfl) rfl (Or.inl rfl) (by unfold agP; rw [anyI_iff.mpr ⟨e, a1, by omega, decide_eq_true (mt zCmp_e.mpr c1)⟩]; rfl)
theorem c_agrees {d : Nat} {h : zH} {D : Dk} {W : Rw} {p : Pb} {q : Int → Int} {x : Int} (VD : DV D) (VW : RV W) (pn : pNb p = D 0 8) (S : PlC h p q) (RW : RC h W) (x0 : 0 ≤ x) (x1 : x < 4) (ok : okS D W x) : zPI d mX5_agrees [zA 79, zA 14, zA 67, zI x] h (b2i (agP p q W x)) := by
  have nb := VD.nb
  have vs := VW.sz x0 x1
  have ok0 := ok.1
  have ok1 := ok.2.1
  refine zmet rfl rfl rfl ?_
  refine zS_iconst (zdec eX5_agrees 0 rfl) rfl ?_
  refine zS_istore (zdec eX5_agrees 1 rfl) rfl ?_
  exact L_agr VD VW pn S RW x0 x1 ok (W 0 x / 2).toNat 0 (by omega) (by omega) (anyI_0 _ (by omega))
theorem L_laws {d : Nat} {h : zH} {D : Dk} {W : Rw} {x y : Int} (hd : 19 ≤ d) (VD : DV D) (hd0 : 0 < D 0 0) (RD : DC h 15 D) (RW : RC h W) (VW : RV W) (x0 : 0 ≤ x) (x1 : x < 4) (ok : okS D W x) : ∀ (n : Nat) (e : Int) (h1 : zH), 0 ≤ e → e + n = 4 → Fr sQ h h1 → zS mX9_laws (zr d) 55 [zA 0, zI x, zI y, zI (bitsI (fun l => agP (wS (pb0 D) 4 l) (planP (wS (pb0 D) 4 l)) W x) e), zI e] [] TT h1 (zAnI (fun r h' => r = bitsI (fun l => agP (wS (pb0 D) 4 l) (planP (wS (pb0 D) 4 l)) W x) 4 ∧ Fr sQ h h')) := by
  intro n
  induction n with
  | zero =>
    intro e h1 a1 a2 i1
    refine zS_iload (zdec eX9_laws 29 rfl) rfl ?_
    refine zS_iconst (zdec eX9_laws 30 rfl) rfl ?_
    refine zS_icmp_ge (tgt := 99) (zdec eX9_laws 31 rfl) rfl (fun cz => ?_) (fun cz => absurd (by omega) cz)
    refine zS_iload_n (zdec eX9_laws 52 rfl) rfl ?_
    exact zlMI (zdec eX9_laws 53 rfl) rfl ⟨by rw [show e = 4 by omega], i1⟩
  | succ n ih =>
    intro e h1 a1 a2 i1
    have RD1 : DC h1 15 D := RD.fr i1 (fun k j z => by omega)
    refine zS_iload (zdec eX9_laws 29 rfl) rfl ?_
    refine zS_iconst (zdec eX9_laws 30 rfl) rfl ?_
    refine zS_icmp_ge (tgt := 99) (zdec eX9_laws 31 rfl) rfl (fun cz => absurd cz (by omega)) (fun cz => ?_)
    refine zS_aload_n (zdec eX9_laws 32 rfl) rfl rfl ?_
    refine zS_iload (zdec eX9_laws 33 rfl) rfl ?_
    refine zvMV (M' := mX9_planByOtherLaw) (As := [zI e]) (st := []) (zdec eX9_laws 34 rfl) kM_X9_164 kV_X9_planByOtherLaw ⟨by decide, rfl⟩ rfl rfl rfl rfl rfl (by omega) (c_otherLaw (by omega) VD hd0 RD1 (by omega) (by omega)) (fun h3 ⟨L3, g3⟩ => ?_)
    have f3 : Fr sQ h h3 := i1.tr g3 (fun k j z => z) (fun k j z => by omega)
    have V3 : PV (wS (pb0 D) 4 e) := (pb0_V VD hd0).law' (by omega) (by omega)
    have RW3 : RC h3 W := RW.fr f3 (fun k j z => by omega)
    refine zS_aload_n (zdec eX9_laws 35 rfl) rfl rfl ?_
    refine zS_getref (i := 7) (zdec eX9_laws 36 rfl) kF_X9_56 ⟨by decide, rfl⟩ rfl rfl rfl rfl rfl ?_
    refine zS_aload_n (zdec eX9_laws 37 rfl) rfl rfl ?_
    refine zS_getref (i := 1) (zdec eX9_laws 38 rfl) kF_X9_19 ⟨by decide, rfl⟩ rfl rfl rfl rfl rfl ?_
    refine zS_aload_n (zdec eX9_laws 39 rfl) rfl rfl ?_
    refine zS_getref (i := 5) (zdec eX9_laws 40 rfl) kF_X9_42 ⟨by decide, rfl⟩ rfl rfl rfl rfl rfl ?_
    refine zS_iload_n (zdec eX9_laws 41 rfl) rfl ?_
    refine zvI (M' := mX5_agrees) (As := [zA 14, zA 67, zI x]) (st := []) (zdec eX9_laws 42 rfl) kM_X9_309 kV_X5_agrees ⟨by decide, rfl⟩ rfl rfl rfl rfl rfl (by omega) (c_agrees VD VW rfl L3.2.1 RW3 x0 x1 ok) ?_
    refine zS_if_eq (tgt := 93) (zdec eX9_laws 43 rfl) rfl (fun c1 => ?_) (fun c1 => ?_)
    · refine zS_iinc (zdec eX9_laws 50 rfl) rfl rfl ⟨by omega, by omega⟩ ?_
      refine zS_goto (tgt := 55) (zdec eX9_laws 51 rfl) rfl ?_
      have k := ih (e + 1) h3 (by omega) (by omega) f3
      rw [bitsI_s _ a1] at k
      rw [if_neg (by rw [show agP (wS (pb0 D) 4 e) (planP (wS (pb0 D) 4 e)) W x = false from b2i_0.mp c1]; decide)] at k
      exact k
    · refine zS_iload_n (zdec eX9_laws 44 rfl) rfl ?_
      refine zS_iconst (zdec eX9_laws 45 rfl) rfl ?_
      refine zS_iload (zdec eX9_laws 46 rfl) rfl ?_
      refine zS_ishl (zdec eX9_laws 47 rfl) ?_
      refine zS_ior (zdec eX9_laws 48 rfl) ?_
      refine zS_istore_n (zdec eX9_laws 49 rfl) rfl ?_
      refine zS_iinc (zdec eX9_laws 50 rfl) rfl rfl ⟨by omega, by omega⟩ ?_
      refine zS_goto (tgt := 55) (zdec eX9_laws 51 rfl) rfl ?_
      have k := ih (e + 1) h3 (by omega) (by omega) f3
      rw [bitsI_s _ a1] at k
      rw [if_pos (b2i_n.mp c1)] at k
      exact k
noncomputable def a_laws (D : Dk) (W : Rw) (x : Int) : Int := if ¬ ((0 ≤ x ∧ x < 4) ∧ 0 < D 0 0) then -2 else if rfS0 D W x = 0 then bitsI (fun l => agP (wS (pb0 D) 4 l) (planP (wS (pb0 D) 4 l)) W x) 4 else rfS0 D W x
theorem p_laws {d : Nat} {h : zH} {D : Dk} {W : Rw} {x : Int} (hd : 20 ≤ d) (VD : DV D) (RD : DC h 15 D) (RW : RC h W) (VW : RV W) : zMI d mX9_laws [zA 0, zI x] h (fun r h' => r = a_laws D W x ∧ Fr sQ h h') := by
  obtain ⟨p, hp⟩ : ∃ p, pb0 D = p := ⟨_, rfl⟩
  obtain ⟨q, hq⟩ : ∃ q, planP p = q := ⟨_, rfl⟩
  have pd : pDays p = D 0 1 := by rw [← hp]; rfl
  have pn : pNb p = D 0 8 := by rw [← hp]; rfl
  have dy := VD.days
  have nb := VD.nb
  have ns := VD.ns
  have nl := VD.nl
  have na := VD.na
  have vfl := VD.fl
  have vfe := VD.fee
  refine zmet rfl rfl rfl ?_
  refine zS_aload_n (zdec eX9_laws 0 rfl) rfl rfl ?_
  refine zS_getref (i := 5) (zdec eX9_laws 1 rfl) kF_X9_42 ⟨by decide, rfl⟩ rfl rfl rfl rfl rfl ?_
  refine zS_iload_n (zdec eX9_laws 2 rfl) rfl ?_
  refine zvI (M' := mX3_isSlot) (As := [zI x]) (st := []) (zdec eX9_laws 3 rfl) kM_X9_303 kV_X3_isSlot ⟨by decide, rfl⟩ rfl rfl rfl rfl rfl (by omega) c_isSlot ?_
  refine zS_if_eq (tgt := 18) (zdec eX9_laws 4 rfl) rfl (fun c1 => ?_) (fun c1 => ?_)
  · have z1 := d2i_0.mp c1
    refine zS_bipush (zdec eX9_laws 8 rfl) rfl rfl ?_
    exact zlMI (zdec eX9_laws 9 rfl) rfl ⟨by unfold a_laws; rw [if_pos (by omega)], Fr.rf⟩
  · have z1 := d2i_n.mp c1
    refine zS_aload_n (zdec eX9_laws 5 rfl) rfl rfl ?_
    refine zvI (M' := mX9_isThere) (As := []) (st := []) (zdec eX9_laws 6 rfl) kM_X9_143 kV_X9_isThere ⟨by decide, rfl⟩ rfl rfl rfl rfl rfl (by omega) (c_isThere RD) ?_
    refine zS_if_ne (tgt := 21) (zdec eX9_laws 7 rfl) rfl (fun c2 => ?_) (fun c2 => ?_)
    · have z2 := d2i_n.mp c2
      refine zS_aload_n (zdec eX9_laws 10 rfl) rfl rfl ?_
      refine zS_getref (i := 5) (zdec eX9_laws 11 rfl) kF_X9_42 ⟨by decide, rfl⟩ rfl rfl rfl rfl rfl ?_
      refine zS_iload_n (zdec eX9_laws 12 rfl) rfl ?_
      refine zS_aload_n (zdec eX9_laws 13 rfl) rfl rfl ?_
      refine zS_getref (i := 2) (zdec eX9_laws 14 rfl) kF_X9_27 ⟨by decide, rfl⟩ rfl rfl rfl rfl rfl ?_
      refine zS_getfieldE (x := 8) (v := (D 0 8)) (zdec eX9_laws 15 rfl) kF_X9_202 ⟨by decide, rfl⟩ rfl rfl rfl (RD.s (by decide) (by decide)) ?_
      refine zS_aload_n (zdec eX9_laws 16 rfl) rfl rfl ?_
      refine zS_getref (i := 2) (zdec eX9_laws 17 rfl) kF_X9_27 ⟨by decide, rfl⟩ rfl rfl rfl rfl rfl ?_
      refine zS_getfieldE (x := 1) (v := (D 0 1)) (zdec eX9_laws 18 rfl) kF_X9_127 ⟨by decide, rfl⟩ rfl rfl rfl (RD.s (by decide) (by decide)) ?_
      refine zvI (M' := mX3_refusedSeen) (As := [zI x, zI (D 0 8), zI (D 0 1)]) (st := []) (zdec eX9_laws 19 rfl) kM_X9_306 kV_X3_refusedSeen ⟨by decide, rfl⟩ rfl rfl rfl rfl rfl (by omega) (c_refS0 (by omega) VD RW VW (by omega) (by omega)) ?_
      refine zS_istore_n (zdec eX9_laws 20 rfl) rfl ?_
      refine zS_iload_n (zdec eX9_laws 21 rfl) rfl ?_
      refine zS_if_eq (tgt := 50) (zdec eX9_laws 22 rfl) rfl (fun c3 => ?_) (fun c3 => ?_)
      · refine zS_iconst (zdec eX9_laws 25 rfl) rfl ?_
        refine zS_istore_n (zdec eX9_laws 26 rfl) rfl ?_
        refine zS_iconst (zdec eX9_laws 27 rfl) rfl ?_
        refine zS_istore (zdec eX9_laws 28 rfl) rfl ?_
        unfold a_laws
        rw [if_neg (not_not_intro ⟨z1, z2⟩), if_pos c3]
        exact L_laws (by omega) VD z2 RD RW VW z1.1 z1.2 (rfS0_0 VW z1.1 z1.2 c3) 4 0 h (by omega) (by omega) Fr.rf
      · refine zS_iload_n (zdec eX9_laws 23 rfl) rfl ?_
        exact zlMI (zdec eX9_laws 24 rfl) rfl ⟨by unfold a_laws; rw [if_neg (not_not_intro ⟨z1, z2⟩), if_neg c3], Fr.rf⟩
    · have z2 := d2i_0.mp c2
      refine zS_bipush (zdec eX9_laws 8 rfl) rfl rfl ?_
      exact zlMI (zdec eX9_laws 9 rfl) rfl ⟨by unfold a_laws; rw [if_pos (by omega)], Fr.rf⟩

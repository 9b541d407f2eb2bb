def lcN (s : Int) : Nat → Int
  | 0 => s
  | n + 1 => (1103515245 * lcN s n + 12345).tmod 2147483648
def lcI (s k : Int) : Int := lcN s k.toNat
theorem lcI_0 (s : Int) : lcI s 0 = s := rfl
theorem lcI_s (s : Int) {k : Int} (h : 0 ≤ k) : lcI s (k + 1) = (1103515245 * lcI s k + 12345).tmod 2147483648 := by
  unfold lcI
  rw [show (k + 1).toNat = k.toNat + 1 by omega]
  rfl
theorem lcI_b {s : Int} (h0 : 0 ≤ s) (h1 : s < 2147483648) : ∀ k : Int, 0 ≤ k → 0 ≤ lcI s k ∧ lcI s k < 2147483648 := by
  refine up_ind ⟨h0, h1⟩ (fun j hj ih => ?_)
  rw [lcI_s _ hj]
  exact ⟨Int.tmod_nonneg _ (by omega), Int.tmod_lt_of_pos _ (by decide)⟩
theorem zCmp_lt {a b : Int} : zCmp a b < 0 ↔ a < b := by unfold zCmp; split <;> (try split) <;> omega
theorem zCmp_ge {a b : Int} : 0 ≤ zCmp a b ↔ b ≤ a := by unfold zCmp; split <;> (try split) <;> omega
def drI (D : Dk) (s : Int) : Int := bitsI (fun i => decide (((lcI s (i + 1)).tdiv 65536).tmod 10 < D 0 3)) (D 0 9)
theorem L_draw {d : Nat} {h : zH} {D : Dk} {s : Int} (V : DV D) (R : DC h 15 D) (s0 : 0 ≤ s) (s1 : s < 2147483648) : ∀ (n : Nat) (e : Int), 0 ≤ e → e + n = D 0 9 → zS mX2_draw (zr d) 9 [zA 107, zA 15, zJ s, zN, zI (bitsI (fun i => decide (((lcI s (i + 1)).tdiv 65536).tmod 10 < D 0 3)) e), zJ (lcI s e), zN, zI e] [] TT h (zOne (drI D s) h) := by
  intro n
  induction n with
  | zero =>
    intro e a1 a2
    have nl := V.nl
    refine zS_iload (zdec eX2_draw 6 rfl) rfl ?_
    refine zS_aload_n (zdec eX2_draw 7 rfl) rfl rfl ?_
    refine zS_getfieldE (x := 9) (v := (D 0 9)) (zdec eX2_draw 8 rfl) kF_X2_24 ⟨by decide, rfl⟩ rfl rfl rfl (R.s (by decide) (by decide)) ?_
    refine zS_icmp_ge (tgt := 68) (zdec eX2_draw 9 rfl) rfl (fun cz => ?_) (fun cz => absurd (by omega) cz)
    refine zS_iload (zdec eX2_draw 36 rfl) rfl ?_
    exact zlI (zdec eX2_draw 37 rfl) rfl (by unfold drI; rw [show e = D 0 9 by omega])
  | succ n ih =>
    intro e a1 a2
    have nl := V.nl
    have od := V.odds
    have lb := lcI_b s0 s1 e a1
    refine zS_iload (zdec eX2_draw 6 rfl) rfl ?_
    refine zS_aload_n (zdec eX2_draw 7 rfl) rfl rfl ?_
    refine zS_getfieldE (x := 9) (v := (D 0 9)) (zdec eX2_draw 8 rfl) kF_X2_24 ⟨by decide, rfl⟩ rfl rfl rfl (R.s (by decide) (by decide)) ?_
    refine zS_icmp_ge (tgt := 68) (zdec eX2_draw 9 rfl) rfl (fun cz => absurd cz (by omega)) (fun cz => ?_)
    refine zS_ldc2_w (zdec eX2_draw 10 rfl) kj_X2_60 rfl ?_
    refine zS_lload (zdec eX2_draw 11 rfl) rfl ?_
    refine zS_lmul (zdec eX2_draw 12 rfl) ⟨by omega, by omega⟩ ?_
    refine zS_ldc2_w (zdec eX2_draw 13 rfl) kj_X2_62 rfl ?_
    refine zS_ladd (zdec eX2_draw 14 rfl) ⟨by omega, by omega⟩ ?_
    refine zS_ldc2_w (zdec eX2_draw 15 rfl) kj_X2_64 rfl ?_
    refine zS_lrem (zdec eX2_draw 16 rfl) (by decide) (fun q => absurd q.2 (by decide)) ?_
    refine zS_lstore (zdec eX2_draw 17 rfl) rfl ?_
    refine zS_lload (zdec eX2_draw 18 rfl) rfl ?_
    refine zS_ldc2_w (zdec eX2_draw 19 rfl) kj_X2_66 rfl ?_
    refine zS_ldiv (zdec eX2_draw 20 rfl) (by decide) (fun q => absurd q.2 (by decide)) ?_
    refine zS_ldc2_w (zdec eX2_draw 21 rfl) kj_X2_30 rfl ?_
    refine zS_lrem (zdec eX2_draw 22 rfl) (by decide) (fun q => absurd q.2 (by decide)) ?_
    refine zS_aload_n (zdec eX2_draw 23 rfl) rfl rfl ?_
    refine zS_getfieldE (x := 3) (v := (D 0 3)) (zdec eX2_draw 24 rfl) kF_X2_57 ⟨by decide, rfl⟩ rfl rfl rfl (R.s (by decide) (by decide)) ?_
    refine zS_i2l (zdec eX2_draw 25 rfl) ?_
    refine zS_lcmp (zdec eX2_draw 26 rfl) ?_
    refine zS_if_ge (tgt := 62) (zdec eX2_draw 27 rfl) rfl (fun c1 => ?_) (fun c1 => ?_)
    · refine zS_iinc (zdec eX2_draw 34 rfl) rfl rfl ⟨by omega, by omega⟩ ?_
      refine zS_goto (tgt := 9) (zdec eX2_draw 35 rfl) rfl ?_
      have k := ih (e + 1) (by omega) (by omega)
      rw [bitsI_s _ a1, lcI_s _ a1] at k
      rw [if_neg (by rw [decide_eq_false (by have := zCmp_ge.mp c1; omega)]; decide)] at k
      exact k
    · refine zS_iload (zdec eX2_draw 28 rfl) rfl ?_
      refine zS_iconst (zdec eX2_draw 29 rfl) rfl ?_
      refine zS_iload (zdec eX2_draw 30 rfl) rfl ?_
      refine zS_ishl (zdec eX2_draw 31 rfl) ?_
      refine zS_ior (zdec eX2_draw 32 rfl) ?_
      refine zS_istore (zdec eX2_draw 33 rfl) rfl ?_
      refine zS_iinc (zdec eX2_draw 34 rfl) rfl rfl ⟨by omega, by omega⟩ ?_
      refine zS_goto (tgt := 9) (zdec eX2_draw 35 rfl) rfl ?_
      have k := ih (e + 1) (by omega) (by omega)
      rw [bitsI_s _ a1, lcI_s _ a1] at k
      rw [if_pos (decide_eq_true (by have := mt zCmp_ge.mpr c1; omega))] at k
      exact k
theorem c_draw {d : Nat} {h : zH} {D : Dk} {s : Int} (V : DV D) (R : DC h 15 D) (s0 : 0 ≤ s) (s1 : s < 2147483648) : zPI d mX2_draw [zA 107, zA 15, zJ s] h (drI D s) := by
  have nl := V.nl
  refine zmet rfl rfl rfl ?_
  refine zS_iconst (zdec eX2_draw 0 rfl) rfl ?_
  refine zS_istore (zdec eX2_draw 1 rfl) rfl ?_
  refine zS_lload_n (zdec eX2_draw 2 rfl) rfl ?_
  refine zS_lstore (zdec eX2_draw 3 rfl) rfl ?_
  refine zS_iconst (zdec eX2_draw 4 rfl) rfl ?_
  refine zS_istore (zdec eX2_draw 5 rfl) rfl ?_
  exact L_draw V R s0 s1 (D 0 9).toNat 0 (by omega) (by omega)
noncomputable def a_drawn (D : Dk) (x y : Int) : Int := if 0 < D 0 0 ∧ (0 ≤ x ∧ x ≤ 2000000000) ∧ (y = 0 ∨ y = 1) then (if y = 0 then drI D x else totL (wT (pb0 D) 2 (bitB (drI D x)))) else -2
theorem p_drawn {d : Nat} {h : zH} {D : Dk} {x y : Int} (hd : 20 ≤ d) (VD : DV D) (RD : DC h 15 D) : zMI d mX9_drawn [zA 0, zI x, zI y] h (fun r h' => r = a_drawn D x y ∧ Fr sQ h h') := by
  obtain ⟨p, hp⟩ : ∃ p, pb0 D = p := ⟨_, rfl⟩
  obtain ⟨q, hq⟩ : ∃ q, planP p = q := ⟨_, rfl⟩
  have pd : pDays p = D 0 1 := by rw [← hp]; rfl
  have pn : pNb p = D 0 8 := by rw [← hp]; rfl
  have dy := VD.days
  have nb := VD.nb
  have ns := VD.ns
  have nl := VD.nl
  have na := VD.na
  have vfl := VD.fl
  have vfe := VD.fee
  refine zmet rfl rfl rfl ?_
  refine zS_aload_n (zdec eX9_drawn 0 rfl) rfl rfl ?_
  refine zvI (M' := mX9_isThere) (As := []) (st := []) (zdec eX9_drawn 1 rfl) kM_X9_143 kV_X9_isThere ⟨by decide, rfl⟩ rfl rfl rfl rfl rfl (by omega) (c_isThere RD) ?_
  refine zS_if_eq (tgt := 21) (zdec eX9_drawn 2 rfl) rfl (fun c1 => ?_) (fun c1 => ?_)
  · have z1 := d2i_0.mp c1
    refine zS_bipush (zdec eX9_drawn 9 rfl) rfl rfl ?_
    exact zlMI (zdec eX9_drawn 10 rfl) rfl ⟨by unfold a_drawn; rw [if_neg (by omega)], Fr.rf⟩
  · have z1 := d2i_n.mp c1
    refine zS_iload_n (zdec eX9_drawn 3 rfl) rfl ?_
    refine zsI (M' := mX9_isSeed) (As := [zI x]) (st := []) (zdec eX9_drawn 4 rfl) kM_X9_363 kS_X9_isSeed rfl rfl rfl (by omega) (c_isSeed) ?_
    refine zS_if_eq (tgt := 21) (zdec eX9_drawn 5 rfl) rfl (fun c2 => ?_) (fun c2 => ?_)
    · have z2 := d2i_0.mp c2
      refine zS_bipush (zdec eX9_drawn 9 rfl) rfl rfl ?_
      exact zlMI (zdec eX9_drawn 10 rfl) rfl ⟨by unfold a_drawn; rw [if_neg (by omega)], Fr.rf⟩
    · have z2 := d2i_n.mp c2
      refine zS_iload_n (zdec eX9_drawn 6 rfl) rfl ?_
      refine zsI (M' := mX9_isPart) (As := [zI y]) (st := []) (zdec eX9_drawn 7 rfl) kM_X9_151 kS_X9_isPart rfl rfl rfl (by omega) (c_isPart) ?_
      refine zS_if_ne (tgt := 24) (zdec eX9_drawn 8 rfl) rfl (fun c3 => ?_) (fun c3 => ?_)
      · have z3 := d2i_n.mp c3
        refine zS_aload_n (zdec eX9_drawn 11 rfl) rfl rfl ?_
        refine zS_getref (i := 10) (zdec eX9_drawn 12 rfl) kF_X9_77 ⟨by decide, rfl⟩ rfl rfl rfl rfl rfl ?_
        refine zS_aload_n (zdec eX9_drawn 13 rfl) rfl rfl ?_
        refine zS_getref (i := 2) (zdec eX9_drawn 14 rfl) kF_X9_27 ⟨by decide, rfl⟩ rfl rfl rfl rfl rfl ?_
        refine zS_iload_n (zdec eX9_drawn 15 rfl) rfl ?_
        refine zS_i2l (zdec eX9_drawn 16 rfl) ?_
        refine zvI (M' := mX2_draw) (As := [zA 15, zJ x]) (st := []) (zdec eX9_drawn 17 rfl) kM_X9_366 kV_X2_draw ⟨by decide, rfl⟩ rfl rfl rfl rfl rfl (by omega) (c_draw VD RD (by omega) (by omega)) ?_
        refine zS_istore_n (zdec eX9_drawn 18 rfl) rfl ?_
        refine zS_iload_n (zdec eX9_drawn 19 rfl) rfl ?_
        refine zS_if_ne (tgt := 44) (zdec eX9_drawn 20 rfl) rfl (fun c4 => ?_) (fun c4 => ?_)
        · refine zS_aload_n (zdec eX9_drawn 23 rfl) rfl rfl ?_
          refine zS_iload_n (zdec eX9_drawn 24 rfl) rfl ?_
          have hd0 : 0 < D 0 0 := by first | omega
          refine zvMV (M' := mX9_planWithIncomes) (As := [zI (drI D x)]) (st := []) (zdec eX9_drawn 25 rfl) kM_X9_370 kV_X9_planWithIncomes ⟨by decide, rfl⟩ rfl rfl rfl rfl rfl (by omega) (c_withIncomes (by omega) VD hd0 RD) (fun h3 ⟨L3, g3⟩ => ?_)
          have f3 : Fr sQ h h3 := g3.mono (fun k j z => by omega)
          have V3 : PV (wT (pb0 D) 2 (bitB (drI D x))) := (pb0_V VD hd0).set' 2 _
          refine zS_aload_n (zdec eX9_drawn 26 rfl) rfl rfl ?_
          refine zS_getref (i := 1) (zdec eX9_drawn 27 rfl) kF_X9_19 ⟨by decide, rfl⟩ rfl rfl rfl rfl rfl ?_
          refine zvI (M' := mX8_whole) (As := []) (st := []) (zdec eX9_drawn 28 rfl) kM_X9_214 kV_X8_whole ⟨by decide, rfl⟩ rfl rfl rfl rfl rfl (by omega) (c_wholeL (by omega) V3 L3) ?_
          exact zlMI (zdec eX9_drawn 29 rfl) rfl ⟨by unfold a_drawn; rw [if_pos (by omega), if_neg (by omega)], f3⟩
        · refine zS_iload_n (zdec eX9_drawn 21 rfl) rfl ?_
          exact zlMI (zdec eX9_drawn 22 rfl) rfl ⟨by unfold a_drawn; rw [if_pos (by omega), if_pos (by omega)], Fr.rf⟩
      · have z3 := d2i_0.mp c3
        refine zS_bipush (zdec eX9_drawn 9 rfl) rfl rfl ?_
        exact zlMI (zdec eX9_drawn 10 rfl) rfl ⟨by unfold a_drawn; rw [if_neg (by omega)], Fr.rf⟩

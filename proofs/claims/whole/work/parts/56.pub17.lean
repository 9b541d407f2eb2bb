def weN (D : Dk) (v : Int) : Nat → Int
  | 0 => 1
  | n + 1 => weN D v n * (if bitB v n then D 0 3 else 10 - D 0 3)
def weI (D : Dk) (v k : Int) : Int := weN D v k.toNat
theorem weI_s (D : Dk) (v : Int) {k : Int} (h : 0 ≤ k) : weI D v (k + 1) = weI D v k * (if bitB v k then D 0 3 else 10 - D 0 3) := by
  unfold weI
  rw [show (k + 1).toNat = k.toNat + 1 by omega]
  show weN D v k.toNat * (if bitB v (k.toNat : Int) then D 0 3 else 10 - D 0 3) = _
  rw [Int.toNat_of_nonneg h]
def pwN : Nat → Int
  | 0 => 1
  | n + 1 => pwN n * 10
def pwI (k : Int) : Int := pwN k.toNat
theorem pwI_s {k : Int} (h : 0 ≤ k) : pwI (k + 1) = pwI k * 10 := by
  unfold pwI
  rw [show (k + 1).toNat = k.toNat + 1 by omega]
  rfl
theorem pwB0 : ∀ k : Fin 7, 1 ≤ pwI (k.val : Int) ∧ pwI (k.val : Int) ≤ 1000000 := by decide
theorem pwB {k : Int} (h0 : 0 ≤ k) (h1 : k ≤ 6) : 1 ≤ pwI k ∧ pwI k ≤ 1000000 := by
  obtain ⟨k, rfl⟩ := fin_of (n := 7) h0 (by omega)
  exact pwB0 k
theorem weB {D : Dk} (VD : DV D) (v : Int) : ∀ k : Int, 0 ≤ k → 0 ≤ weI D v k ∧ weI D v k ≤ pwI k := by
  have od := VD.odds
  refine up_ind ⟨show (0 : Int) ≤ 1 by decide, show (1 : Int) ≤ 1 by decide⟩ (fun j hj ih => ?_)
  rw [weI_s _ _ hj, pwI_s hj]
  have f : 0 ≤ (if bitB v j then D 0 3 else 10 - D 0 3) ∧ (if bitB v j then D 0 3 else 10 - D 0 3) ≤ 10 := by split <;> omega
  have m := mulB ih.1 ih.2 f.1 f.2
  exact m
def chX (D : Dk) (v : Int) : Pb := wT (pb0 D) 2 (bitB v)
noncomputable def vaL (D : Dk) (b v : Int) : Int := if b = -1 then totL (chX D v) else if planP (chX D v) b < D 0 1 then 1 else 0
noncomputable def odT (D : Dk) (b v : Int) : Int := weI D v (D 0 9) * vaL D b v
noncomputable def odA (D : Dk) (b : Int) : Int := sumI (odT D b) (zShl 1 (D 0 9))
theorem chV {D : Dk} (VD : DV D) (hd0 : 0 < D 0 0) (v : Int) : PV (chX D v) := (pb0_V VD hd0).set' 2 _
theorem vaB {D : Dk} (VD : DV D) (hd0 : 0 < D 0 0) (b v : Int) : 0 ≤ vaL D b v ∧ vaL D b v ≤ 20000 := by
  have t := totLB (chV VD hd0 v)
  unfold vaL
  split
  · exact t
  · split <;> omega
theorem odTB {D : Dk} (VD : DV D) (hd0 : 0 < D 0 0) (b v : Int) : 0 ≤ odT D b v ∧ odT D b v ≤ 20000000000 := by
  have nl := VD.nl
  have w := weB VD v (D 0 9) nl.1
  have p := pwB nl.1 nl.2
  have x := vaB VD hd0 b v
  have m := mulB w.1 (show weI D v (D 0 9) ≤ 1000000 by omega) x.1 x.2
  unfold odT
  omega
theorem odAB {D : Dk} (VD : DV D) (hd0 : 0 < D 0 0) (b : Int) {k : Int} (k0 : 0 ≤ k) (k1 : k ≤ 64) : 0 ≤ sumI (odT D b) k ∧ sumI (odT D b) k ≤ 1280000000000 := by
  have s0 := sumI_nn (f := odT D b) (k := k) (fun j _ _ => (odTB VD hd0 b j).1)
  have s1 := sumI_le (f := odT D b) (k := k) (B := 20000000000) k0 (fun j _ _ => (odTB VD hd0 b j).2)
  omega
theorem L_weight {d : Nat} {h : zH} {D : Dk} {v : Int} (V : DV D) (R : DC h 15 D) : ∀ (n : Nat) (e : Int), 0 ≤ e → e + n = D 0 9 → zS mX2_weight (zr d) 5 [zA 15, zI v, zJ (weI D v e), zN, zI e] [] TT h (zOnJ (weI D v (D 0 9)) h) := by
  intro n
  induction n with
  | zero =>
    intro e a1 a2
    refine zS_iload (zdec eX2_weight 4 rfl) rfl ?_
    refine zS_aload_n (zdec eX2_weight 5 rfl) rfl rfl ?_
    refine zS_getfieldE (x := 9) (v := (D 0 9)) (zdec eX2_weight 6 rfl) kF_X2_24 ⟨by decide, rfl⟩ rfl rfl rfl (R.s (by decide) (by decide)) ?_
    refine zS_icmp_ge (tgt := 49) (zdec eX2_weight 7 rfl) rfl (fun cz => ?_) (fun cz => absurd (by omega) cz)
    refine zS_lload_n (zdec eX2_weight 29 rfl) rfl ?_
    exact zlJ (zdec eX2_weight 30 rfl) rfl (by rw [show e = D 0 9 by omega])
  | succ n ih =>
    intro e a1 a2
    have nl := V.nl
    have od := V.odds
    have wb := weB V v e a1
    have pb := pwB a1 (show e ≤ 6 by omega)
    refine zS_iload (zdec eX2_weight 4 rfl) rfl ?_
    refine zS_aload_n (zdec eX2_weight 5 rfl) rfl rfl ?_
    refine zS_getfieldE (x := 9) (v := (D 0 9)) (zdec eX2_weight 6 rfl) kF_X2_24 ⟨by decide, rfl⟩ rfl rfl rfl (R.s (by decide) (by decide)) ?_
    refine zS_icmp_ge (tgt := 49) (zdec eX2_weight 7 rfl) rfl (fun cz => absurd cz (by omega)) (fun cz => ?_)
    refine zS_lload_n (zdec eX2_weight 8 rfl) rfl ?_
    refine zS_iload_n (zdec eX2_weight 9 rfl) rfl ?_
    refine zS_iload (zdec eX2_weight 10 rfl) rfl ?_
    refine zS_ishr (zdec eX2_weight 11 rfl) ?_
    refine zS_iconst (zdec eX2_weight 12 rfl) rfl ?_
    refine zS_iand (zdec eX2_weight 13 rfl) ?_
    refine zS_iconst (zdec eX2_weight 14 rfl) rfl ?_
    refine zS_icmp_ne (tgt := 33) (zdec eX2_weight 15 rfl) rfl (fun c1 => ?_) (fun c1 => ?_)
    · refine zS_bipush (zdec eX2_weight 20 rfl) rfl rfl ?_
      refine zS_aload_n (zdec eX2_weight 21 rfl) rfl rfl ?_
      refine zS_getfieldE (x := 3) (v := (D 0 3)) (zdec eX2_weight 22 rfl) kF_X2_57 ⟨by decide, rfl⟩ rfl rfl rfl (R.s (by decide) (by decide)) ?_
      refine zS_isub (zdec eX2_weight 23 rfl) ⟨by omega, by omega⟩ ?_
      refine zS_i2l (zdec eX2_weight 24 rfl) ?_
      have mz := mulB wb.1 (show weI D v e ≤ 1000000 by omega) (show 0 ≤ (10 - (D 0 3)) by omega) (show (10 - (D 0 3)) ≤ 10 by omega)
      refine zS_lmul (zdec eX2_weight 25 rfl) ⟨by omega, by omega⟩ ?_
      refine zS_lstore_n (zdec eX2_weight 26 rfl) rfl ?_
      refine zS_iinc (zdec eX2_weight 27 rfl) rfl rfl ⟨by omega, by omega⟩ ?_
      refine zS_goto (tgt := 5) (zdec eX2_weight 28 rfl) rfl ?_
      have k := ih (e + 1) (by omega) (by omega)
      rw [weI_s _ _ a1] at k
      rw [if_neg (by rw [bitB_f.mpr c1]; decide)] at k
      exact k
    · refine zS_aload_n (zdec eX2_weight 16 rfl) rfl rfl ?_
      refine zS_getfieldE (x := 3) (v := (D 0 3)) (zdec eX2_weight 17 rfl) kF_X2_57 ⟨by decide, rfl⟩ rfl rfl rfl (R.s (by decide) (by decide)) ?_
      refine zS_i2l (zdec eX2_weight 18 rfl) ?_
      refine zS_goto (tgt := 41) (zdec eX2_weight 19 rfl) rfl ?_
      have mz := mulB wb.1 (show weI D v e ≤ 1000000 by omega) (show 0 ≤ (D 0 3) by omega) (show (D 0 3) ≤ 10 by omega)
      refine zS_lmul (zdec eX2_weight 25 rfl) ⟨by omega, by omega⟩ ?_
      refine zS_lstore_n (zdec eX2_weight 26 rfl) rfl ?_
      refine zS_iinc (zdec eX2_weight 27 rfl) rfl rfl ⟨by omega, by omega⟩ ?_
      refine zS_goto (tgt := 5) (zdec eX2_weight 28 rfl) rfl ?_
      have k := ih (e + 1) (by omega) (by omega)
      rw [weI_s _ _ a1] at k
      rw [if_pos (bitB_t.mpr c1)] at k
      exact k
theorem c_weight {d : Nat} {h : zH} {D : Dk} {v : Int} (V : DV D) (R : DC h 15 D) : zPJ d mX2_weight [zA 15, zI v] h (weI D v (D 0 9)) := by
  have nl := V.nl
  refine zmet rfl rfl rfl ?_
  refine zS_lconst (zdec eX2_weight 0 rfl) ?_
  refine zS_lstore_n (zdec eX2_weight 1 rfl) rfl ?_
  refine zS_iconst (zdec eX2_weight 2 rfl) rfl ?_
  refine zS_istore (zdec eX2_weight 3 rfl) rfl ?_
  exact L_weight V R (D 0 9).toNat 0 (by omega) (by omega)
theorem c_valueOf {d : Nat} {h : zH} {D : Dk} {b v : Int} (hd : 3 ≤ d) (V : PV (chX D v)) (L : Ln h (chX D v)) (hb : b = -1 ∨ (0 ≤ b ∧ b < D 0 8)) : zPI d mX2_valueOf [zA 14, zI b] h (vaL D b v) := by
  refine zmet rfl rfl rfl ?_
  refine zS_iload_n (zdec eX2_valueOf 0 rfl) rfl ?_
  refine zS_iconst (zdec eX2_valueOf 1 rfl) rfl ?_
  refine zS_icmp_ne (tgt := 10) (zdec eX2_valueOf 2 rfl) rfl (fun c1 => ?_) (fun c1 => ?_)
  · refine zS_aload_n (zdec eX2_valueOf 6 rfl) rfl rfl ?_
    refine zS_iload_n (zdec eX2_valueOf 7 rfl) rfl ?_
    refine zvI (M' := mX8_isPaid) (As := [zI b]) (st := []) (zdec eX2_valueOf 8 rfl) kM_X2_53 kV_X8_isPaid ⟨by decide, rfl⟩ rfl rfl rfl rfl rfl (by omega) (c_isPaid V L.1 (show 0 ≤ b by omega) (show b < D 0 8 by omega) L.2.1 ((planP_rng V b).1)) ?_
    refine zS_if_eq (tgt := 22) (zdec eX2_valueOf 9 rfl) rfl (fun c2 => ?_) (fun c2 => ?_)
    · refine zS_iconst (zdec eX2_valueOf 12 rfl) rfl ?_
      exact zlI (zdec eX2_valueOf 13 rfl) rfl (by unfold vaL; rw [if_neg (by omega), if_neg (show ¬ planP (chX D v) b < D 0 1 from d2i_0.mp c2)])
    · refine zS_iconst (zdec eX2_valueOf 10 rfl) rfl ?_
      refine zS_goto (tgt := 23) (zdec eX2_valueOf 11 rfl) rfl ?_
      exact zlI (zdec eX2_valueOf 13 rfl) rfl (by unfold vaL; rw [if_neg (by omega), if_pos (show planP (chX D v) b < D 0 1 from d2i_n.mp c2)])
  · refine zS_aload_n (zdec eX2_valueOf 3 rfl) rfl rfl ?_
    refine zvI (M' := mX8_whole) (As := []) (st := []) (zdec eX2_valueOf 4 rfl) kM_X2_49 kV_X8_whole ⟨by decide, rfl⟩ rfl rfl rfl rfl rfl (by omega) (c_wholeL (by omega) V L) ?_
    exact zlI (zdec eX2_valueOf 5 rfl) rfl (by unfold vaL; rw [if_pos (by omega)])

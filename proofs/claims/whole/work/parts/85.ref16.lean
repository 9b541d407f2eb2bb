def pwP (a : Int) : Nat → Int
  | 0 => 1
  | n + 1 => a * pwP a n
theorem pwP_b {a : Int} (a0 : 0 ≤ a) (a1 : a ≤ 10) : ∀ n : Nat, 0 ≤ pwP a n ∧ pwP a n ≤ pwN n
  | 0 => by show (0 : Int) ≤ 1 ∧ (1 : Int) ≤ 1; omega
  | n + 1 => by
    have ih := pwP_b a0 a1 n
    have m := mulB a0 a1 ih.1 ih.2
    show 0 ≤ a * pwP a n ∧ a * pwP a n ≤ pwN n * 10
    omega
theorem pwN_b : ∀ n : Fin 7, 1 ≤ pwN n.val ∧ pwN n.val ≤ 1000000 := by decide
theorem pwP_10 : ∀ n : Nat, pwP 10 n = pwN n
  | 0 => rfl
  | n + 1 => by show 10 * pwP 10 n = pwN n * 10; rw [pwP_10 n]; omega
theorem we_pw (D : Dk) (v : Int) : ∀ k : Int, 0 ≤ k → weI D v k = pwP (10 - D 0 3) (k - ctI (bitB v) k).toNat * pwP (D 0 3) (ctI (bitB v) k).toNat := by
  refine up_ind rfl (fun j hj ih => ?_)
  have cb := ctB (bitB v) hj
  rw [weI_s _ _ hj, ih, ct_s _ hj]
  cases c : bitB v j
  · rw [if_neg (by decide)]
    show _ = pwP (10 - D 0 3) (j + 1 - (ctI (bitB v) j + 0)).toNat * pwP (D 0 3) (ctI (bitB v) j + 0).toNat
    rw [Int.add_zero, show (j + 1 - ctI (bitB v) j).toNat = (j - ctI (bitB v) j).toNat + 1 by omega]
    show _ = (10 - D 0 3) * pwP (10 - D 0 3) (j - ctI (bitB v) j).toNat * pwP (D 0 3) (ctI (bitB v) j).toNat
    rw [Int.mul_comm, ← Int.mul_assoc]
  · rw [if_pos rfl]
    show _ = pwP (10 - D 0 3) (j + 1 - (ctI (bitB v) j + 1)).toNat * pwP (D 0 3) (ctI (bitB v) j + 1).toNat
    rw [show j + 1 - (ctI (bitB v) j + 1) = j - ctI (bitB v) j by omega, show (ctI (bitB v) j + 1).toNat = (ctI (bitB v) j).toNat + 1 by omega]
    show _ = pwP (10 - D 0 3) (j - ctI (bitB v) j).toNat * (D 0 3 * pwP (D 0 3) (ctI (bitB v) j).toNat)
    rw [Int.mul_assoc, Int.mul_comm (pwP (D 0 3) (ctI (bitB v) j).toNat)]
theorem cmpB : ∀ (n : Fin 7) (s : Fin 64) (i : Fin 6), i.val < n.val → (s.val : Int) < zShl 1 (n.val : Int) → bitB (s.val : Int) (i.val : Int) = !bitB (zShl 1 (n.val : Int) - 1 - (s.val : Int)) (i.val : Int) := by decide +kernel
theorem cmp_bit {n s i : Int} (n0 : 0 ≤ n) (n1 : n ≤ 6) (s0 : 0 ≤ s) (s1 : s < zShl 1 n) (i0 : 0 ≤ i) (i1 : i < n) : bitB s i = !bitB (zShl 1 n - 1 - s) i := by
  have ar := all_rng n0 n1
  obtain ⟨n, rfl⟩ := fin_of (n := 7) n0 (by omega)
  obtain ⟨s, rfl⟩ := fin_of (n := 64) s0 (by omega)
  obtain ⟨i, rfl⟩ := fin_of (n := 6) i0 (by omega)
  exact cmpB n s i (by omega) s1
theorem xorB : ∀ (s : Fin 64) (i : Fin 6), bitB (zXor (s.val : Int) (-1)) (i.val : Int) = !bitB (s.val : Int) (i.val : Int) := by decide +kernel
theorem xor_bit {s i : Int} (s0 : 0 ≤ s) (s1 : s < 64) (i0 : 0 ≤ i) (i1 : i < 6) : bitB (zXor s (-1)) i = !bitB s i := by
  obtain ⟨s, rfl⟩ := fin_of (n := 64) s0 s1
  obtain ⟨i, rfl⟩ := fin_of (n := 6) i0 i1
  exact xorB s i
theorem ct_not {f g : Int → Bool} : ∀ k : Int, 0 ≤ k → (∀ i, 0 ≤ i → i < k → f i = !g i) → ctI f k = k - ctI g k := by
  refine up_ind (fun _ => by show (0 : Int) = 0 - 0; omega) (fun j hj ih h => ?_)
  rw [ct_s _ hj, ct_s _ hj, ih (fun i a b => h i a (by omega)), h j hj (by omega)]
  cases g j
  · show _ + (1 : Int) = _ - (_ + (0 : Int)); omega
  · show _ + (0 : Int) = _ - (_ + (1 : Int)); omega
theorem sumI_rev (f : Int → Int) : ∀ k : Int, 0 ≤ k → sumI (fun j => f (k - 1 - j)) k = sumI f k := by
  have g : ∀ k : Int, 0 ≤ k → ∀ m : Int, 0 ≤ m → m ≤ k → sumI (fun j => f (k - 1 - j)) m + sumI f (k - m) = sumI f k := by
    intro k hk
    refine up_ind (fun _ => by rw [sumI_0 _ (by omega), Int.sub_zero]; omega) (fun m hm ih h => ?_)
    have i := ih (by omega)
    have e := sumI_s f (show 0 ≤ k - (m + 1) by omega)
    rw [show k - (m + 1) + 1 = k - m by omega] at e
    rw [sumI_s _ hm]
    show sumI (fun j => f (k - 1 - j)) m + f (k - 1 - m) + sumI f (k - (m + 1)) = sumI f k
    rw [show k - 1 - m = k - (m + 1) by omega]
    omega
  intro k hk
  have := g k hk k hk (Int.le_refl _)
  rw [show k - k = 0 by omega, sumI_0 f (by omega)] at this
  omega
theorem ct_hi6 {n s : Int} (n0 : 0 ≤ n) (n1 : n ≤ 6) (s0 : 0 ≤ s) (s1 : s < zShl 1 n) : ctI (bitB s) 30 = ctI (bitB s) n := by
  have hp : zShl 1 n = 2 ^ n.toNat := by
    obtain ⟨m, hm⟩ := Int.eq_ofNat_of_zero_le n0
    rw [hm, zShl_nat (by omega), Int.toNat_natCast, Int.natCast_pow]
    rfl
  rw [hp] at s1
  exact ct30 n0 (by omega) s0 (fun i i0 i1 => bit_hi n0 (by omega) s0 s1 i0 i1)
/-- what a set that stays out weighs -/
theorem we_set {D : Dk} {n s : Int} (n0 : 0 ≤ n) (n1 : n ≤ 6) (s0 : 0 ≤ s) (s1 : s < zShl 1 n) : weI D (zShl 1 n - 1 - s) n = pwP (10 - D 0 3) (ctI (bitB s) n).toNat * pwP (D 0 3) (n - ctI (bitB s) n).toNat := by
  have e : ctI (bitB s) n = n - ctI (bitB (zShl 1 n - 1 - s)) n := ct_not n n0 (fun i i0 i1 => cmp_bit n0 n1 s0 s1 i0 i1)
  rw [we_pw _ _ n n0, e]
  congr 2
  omega
theorem r_power {h : zH} {a : Int} (a0 : 0 ≤ a) (a1 : a ≤ 10) : ∀ (n : Nat) {d : Nat}, n ≤ 6 → n ≤ d → zPJ d mX10_power [zJ a, zI (n : Int)] h (pwP a n) := by
  intro n
  induction n with
  | zero =>
    intro d hn hd
    refine zmet rfl rfl rfl ?_
    refine zS_iload_n (zdec eX10_power 0 rfl) rfl ?_
    refine zS_if_ne (tgt := 8) (zdec eX10_power 1 rfl) rfl (fun cz => absurd rfl cz) (fun cz => ?_)
    refine zS_lconst (zdec eX10_power 2 rfl) ?_
    refine zS_goto (tgt := 17) (zdec eX10_power 3 rfl) rfl ?_
    exact zlJ (zdec eX10_power 11 rfl) rfl rfl
  | succ n ih =>
    intro d hn hd
    have pb := pwP_b a0 a1 n
    have nb := pwN_b ⟨n, by omega⟩
    have nb2 : pwN n ≤ 1000000 := nb.2
    have mm := mulB a0 a1 pb.1 (show pwP a n ≤ 1000000 by omega)
    refine zmet rfl rfl rfl ?_
    refine zS_iload_n (zdec eX10_power 0 rfl) rfl ?_
    refine zS_if_ne (tgt := 8) (zdec eX10_power 1 rfl) rfl (fun cz => ?_) (fun cz => absurd cz (by omega))
    refine zS_lload_n (zdec eX10_power 4 rfl) rfl ?_
    refine zS_lload_n (zdec eX10_power 5 rfl) rfl ?_
    refine zS_iload_n (zdec eX10_power 6 rfl) rfl ?_
    refine zS_iconst (zdec eX10_power 7 rfl) rfl ?_
    refine zS_isub (zdec eX10_power 8 rfl) ⟨by omega, by omega⟩ ?_
    refine zsJ (M' := mX10_power) (As := [zJ a, zI (((n + 1 : Nat) : Int) - 1)]) (st := [zJ a]) (zdec eX10_power 9 rfl) kM_X10_451 kS_X10_power rfl rfl rfl (by omega) (show zPJ (d - 1) mX10_power [zJ a, zI (((n + 1 : Nat) : Int) - 1)] h (pwP a n) from by rw [show ((n + 1 : Nat) : Int) - 1 = (n : Int) by omega]; exact ih (by omega) (by omega)) ?_
    refine zS_lmul (zdec eX10_power 10 rfl) ⟨by omega, by omega⟩ ?_
    exact zlJ (zdec eX10_power 11 rfl) rfl rfl
theorem r_pow {d : Nat} {h : zH} {a n : Int} (hd : 6 ≤ d) (a0 : 0 ≤ a) (a1 : a ≤ 10) (n0 : 0 ≤ n) (n1 : n ≤ 6) : zPJ d mX10_power [zJ a, zI n] h (pwP a n.toNat) := by
  have k := r_power (h := h) a0 a1 n.toNat (d := d) (by omega) (by omega)
  rw [Int.toNat_of_nonneg n0] at k
  exact k
theorem L_rwe {d : Nat} {h : zH} {D : Dk} {x : Int} (hd : 30 ≤ d) (VD : DV D) (hd0 : 0 < D 0 0) (RD : DR h 0 D) (hx : x = -1 ∨ (0 ≤ x ∧ x < D 0 8)) : ∀ (n : Nat) (e : Int) (h1 : zH) (w : Int), 0 ≤ e → e + n = zShl 1 (D 0 9) → Fr sQR h h1 → WR h1 (chX D w) → zS mX10_weightOf (zr d) 9 [zA 108, zI x, zJ (sumI (fun s => odT D x (zShl 1 (D 0 9) - 1 - s)) e), zN, zI e, zN, zN, zN] [] TT h1 (zAnJ (fun r h' => r = odA D x ∧ Fr sQR h h')) := by
  intro n
  induction n with
  | zero =>
    intro e h1 w a1 a2 i1 R
    have nb := VD.nb
    have RD1 : DR h1 0 D := RD.fr i1 (fun k j z => by omega)
    have nl := VD.nl
    have od := VD.odds
    have ar := all_rng (k := D 0 9) nl.1 nl.2
    refine zS_iload (zdec eX10_weightOf 6 rfl) rfl ?_
    refine zS_iconst (zdec eX10_weightOf 7 rfl) rfl ?_
    refine zS_aload_n (zdec eX10_weightOf 8 rfl) rfl rfl ?_
    refine zS_getref (i := 61) (zdec eX10_weightOf 9 rfl) kF_X10_34 ⟨by decide, rfl⟩ rfl rfl rfl rfl rfl ?_
    refine zS_bipush (zdec eX10_weightOf 10 rfl) rfl rfl ?_
    refine zS_ialoadE (v := (D 0 9)) (zdec eX10_weightOf 11 rfl) ⟨by decide, rfl⟩ (by decide) (by decide) (RD1.s (by decide) (by decide) (by decide)) ?_
    refine zS_ishl (zdec eX10_weightOf 12 rfl) ?_
    refine zS_icmp_ge (tgt := 121) (zdec eX10_weightOf 13 rfl) rfl (fun cz => ?_) (fun cz => absurd (by omega) cz)
    refine zS_lload_n (zdec eX10_weightOf 68 rfl) rfl ?_
    exact zlMJ (zdec eX10_weightOf 69 rfl) rfl ⟨by unfold odA; rw [← sumI_rev (odT D x) (zShl 1 (D 0 9)) (by omega), show e = zShl 1 (D 0 9) by omega], i1⟩
  | succ n ih =>
    intro e h1 w a1 a2 i1 R
    have nb := VD.nb
    have RD1 : DR h1 0 D := RD.fr i1 (fun k j z => by omega)
    have nl := VD.nl
    have od := VD.odds
    have ar := all_rng (k := D 0 9) nl.1 nl.2
    refine zS_iload (zdec eX10_weightOf 6 rfl) rfl ?_
    refine zS_iconst (zdec eX10_weightOf 7 rfl) rfl ?_
    refine zS_aload_n (zdec eX10_weightOf 8 rfl) rfl rfl ?_
    refine zS_getref (i := 61) (zdec eX10_weightOf 9 rfl) kF_X10_34 ⟨by decide, rfl⟩ rfl rfl rfl rfl rfl ?_
    refine zS_bipush (zdec eX10_weightOf 10 rfl) rfl rfl ?_
    refine zS_ialoadE (v := (D 0 9)) (zdec eX10_weightOf 11 rfl) ⟨by decide, rfl⟩ (by decide) (by decide) (RD1.s (by decide) (by decide) (by decide)) ?_
    refine zS_ishl (zdec eX10_weightOf 12 rfl) ?_
    refine zS_icmp_ge (tgt := 121) (zdec eX10_weightOf 13 rfl) rfl (fun cz => absurd cz (by omega)) (fun cz => ?_)
    refine zS_aload_n (zdec eX10_weightOf 14 rfl) rfl rfl ?_
    refine zS_iload (zdec eX10_weightOf 15 rfl) rfl ?_
    refine zS_putfield (x := 28) (zdec eX10_weightOf 16 rfl) kF_X10_258 (Or.inl kf10_28) ⟨by decide, rfl⟩ rfl rfl rfl (Or.inl (fun q => by cases q)) ?_
    have R4 : WR (zset h1 108 28 e) (chX D (zShl 1 (D 0 9) - 1 - e)) := by
        have t := R.cm' (v := e) (f := bitB (zShl 1 (D 0 9) - 1 - e)) (fun i i0 i1 => cmp_bit nl.1 nl.2 a1 (by omega) i0 i1)
        exact ⟨t.1, t.2.1, t.2.2.1, t.2.2.2.1, t.2.2.2.2.1, t.2.2.2.2.2.1, t.2.2.2.2.2.2.1, t.2.2.2.2.2.2.2.1, t.2.2.2.2.2.2.2.2.1, t.2.2.2.2.2.2.2.2.2.1, t.2.2.2.2.2.2.2.2.2.2.1, t.2.2.2.2.2.2.2.2.2.2.2⟩
    have V4 : PV (chX D (zShl 1 (D 0 9) - 1 - e)) := chV VD hd0 _
    have ff : Fr sQR h (zset h1 108 28 e) := i1.set (by omega)
    have cb := ctB (bitB e) nl.1
    have ws := we_set (D := D) nl.1 nl.2 a1 (show e < zShl 1 (D 0 9) by omega)
    have tb := odTB VD hd0 x (zShl 1 (D 0 9) - 1 - e)
    have td : odT D x (zShl 1 (D 0 9) - 1 - e) = weI D (zShl 1 (D 0 9) - 1 - e) (D 0 9) * vaL D x (zShl 1 (D 0 9) - 1 - e) := rfl
    have wb := weB VD (zShl 1 (D 0 9) - 1 - e) (D 0 9) nl.1
    have pw := pwB nl.1 nl.2
    have s0 := sumI_nn (f := (fun s => odT D x (zShl 1 (D 0 9) - 1 - s))) (k := e) (fun j _ _ => (odTB VD hd0 x _).1)
    have s1 := sumI_le (f := (fun s => odT D x (zShl 1 (D 0 9) - 1 - s))) (k := e) (B := 20000000000) a1 (fun j _ _ => (odTB VD hd0 x _).2)
    refine zS_aload_n (zdec eX10_weightOf 17 rfl) rfl rfl ?_
    refine zvMI (M' := mX10_totalBy) (As := []) (st := []) (zdec eX10_weightOf 18 rfl) kM_X10_406 kV_X10_totalBy ⟨by decide, rfl⟩ rfl rfl rfl rfl rfl (by omega) (r_totalBy (p := (chX D (zShl 1 (D 0 9) - 1 - e))) (by omega) V4 R4) (fun x3 h3 ⟨hx3, L3, g3⟩ => ?_)
    have f3 : Fr sQR h h3 := ff.tr g3 (fun k j z => z) (fun k j z => by omega)
    have RD3 : DR h3 0 D := RD.fr f3 (fun k j z => by omega)
    refine zS_istore (zdec eX10_weightOf 19 rfl) rfl ?_
    refine zS_ldc2_w (zdec eX10_weightOf 20 rfl) kj_X10_454 rfl ?_
    refine zS_aload_n (zdec eX10_weightOf 21 rfl) rfl rfl ?_
    refine zS_getref (i := 61) (zdec eX10_weightOf 22 rfl) kF_X10_34 ⟨by decide, rfl⟩ rfl rfl rfl rfl rfl ?_
    refine zS_iconst (zdec eX10_weightOf 23 rfl) rfl ?_
    refine zS_ialoadE (v := (D 0 3)) (zdec eX10_weightOf 24 rfl) ⟨by decide, rfl⟩ (by decide) (by decide) (RD3.s (by decide) (by decide) (by decide)) ?_
    refine zS_i2l (zdec eX10_weightOf 25 rfl) ?_
    refine zS_lsub (zdec eX10_weightOf 26 rfl) ⟨by omega, by omega⟩ ?_
    refine zS_iload (zdec eX10_weightOf 27 rfl) rfl ?_
    refine zsI (M' := mX10_sizeOf) (As := [zI e]) (st := [zJ (10 - (D 0 3))]) (zdec eX10_weightOf 28 rfl) kM_X10_364 kS_X10_sizeOf rfl rfl rfl (by omega) (show zPI (d - 1) mX10_sizeOf [zI e] h3 (ctI (bitB e) (D 0 9)) from by rw [← ct_hi6 nl.1 nl.2 a1 (by omega)]; exact r_sizeOf a1 (by omega)) ?_
    refine zsJ (M' := mX10_power) (As := [zJ (10 - (D 0 3)), zI (ctI (bitB e) (D 0 9))]) (st := []) (zdec eX10_weightOf 29 rfl) kM_X10_451 kS_X10_power rfl rfl rfl (by omega) (r_pow (by omega) (by omega) (by omega) (by omega) (by omega)) ?_
    refine zS_aload_n (zdec eX10_weightOf 30 rfl) rfl rfl ?_
    refine zS_getref (i := 61) (zdec eX10_weightOf 31 rfl) kF_X10_34 ⟨by decide, rfl⟩ rfl rfl rfl rfl rfl ?_
    refine zS_iconst (zdec eX10_weightOf 32 rfl) rfl ?_
    refine zS_ialoadE (v := (D 0 3)) (zdec eX10_weightOf 33 rfl) ⟨by decide, rfl⟩ (by decide) (by decide) (RD3.s (by decide) (by decide) (by decide)) ?_
    refine zS_i2l (zdec eX10_weightOf 34 rfl) ?_
    refine zS_aload_n (zdec eX10_weightOf 35 rfl) rfl rfl ?_
    refine zS_getref (i := 61) (zdec eX10_weightOf 36 rfl) kF_X10_34 ⟨by decide, rfl⟩ rfl rfl rfl rfl rfl ?_
    refine zS_bipush (zdec eX10_weightOf 37 rfl) rfl rfl ?_
    refine zS_ialoadE (v := (D 0 9)) (zdec eX10_weightOf 38 rfl) ⟨by decide, rfl⟩ (by decide) (by decide) (RD3.s (by decide) (by decide) (by decide)) ?_
    refine zS_iload (zdec eX10_weightOf 39 rfl) rfl ?_
    refine zsI (M' := mX10_sizeOf) (As := [zI e]) (st := [zI (D 0 9), zJ (D 0 3), zJ (pwP (10 - (D 0 3)) ((ctI (bitB e) (D 0 9))).toNat)]) (zdec eX10_weightOf 40 rfl) kM_X10_364 kS_X10_sizeOf rfl rfl rfl (by omega) (show zPI (d - 1) mX10_sizeOf [zI e] h3 (ctI (bitB e) (D 0 9)) from by rw [← ct_hi6 nl.1 nl.2 a1 (by omega)]; exact r_sizeOf a1 (by omega)) ?_
    refine zS_isub (zdec eX10_weightOf 41 rfl) ⟨by omega, by omega⟩ ?_
    refine zsJ (M' := mX10_power) (As := [zJ (D 0 3), zI ((D 0 9) - (ctI (bitB e) (D 0 9)))]) (st := [zJ (pwP (10 - (D 0 3)) ((ctI (bitB e) (D 0 9))).toNat)]) (zdec eX10_weightOf 42 rfl) kM_X10_451 kS_X10_power rfl rfl rfl (by omega) (r_pow (by omega) (by omega) (by omega) (by omega) (by omega)) ?_
    have b1 := pwP_b (a := 10 - D 0 3) (by omega) (by omega) (ctI (bitB e) (D 0 9)).toNat
    have b2 := pwP_b (a := D 0 3) (by omega) (by omega) (D 0 9 - ctI (bitB e) (D 0 9)).toNat
    refine zS_lmul (zdec eX10_weightOf 43 rfl) ⟨by rw [← ws]; omega, by rw [← ws]; omega⟩ ?_
    rw [← ws]
    refine zS_lstore (zdec eX10_weightOf 44 rfl) rfl ?_
    refine zS_lload_n (zdec eX10_weightOf 45 rfl) rfl ?_
    refine zS_lload (zdec eX10_weightOf 46 rfl) rfl ?_
    refine zS_iload_n (zdec eX10_weightOf 47 rfl) rfl ?_
    refine zS_iconst (zdec eX10_weightOf 48 rfl) rfl ?_
    refine zS_icmp_ne (tgt := 93) (zdec eX10_weightOf 49 rfl) rfl (fun c1 => ?_) (fun c1 => ?_)
    · refine zS_aload_n (zdec eX10_weightOf 52 rfl) rfl rfl ?_
      refine zS_getref (i := 69) (zdec eX10_weightOf 53 rfl) kF_X10_59 ⟨by decide, rfl⟩ rfl rfl rfl rfl rfl ?_
      refine zS_iload_n (zdec eX10_weightOf 54 rfl) rfl ?_
      refine zS_ialoadE (v := (planP (chX D (zShl 1 (D 0 9) - 1 - e)) x)) (zdec eX10_weightOf 55 rfl) ⟨by decide, rfl⟩ (by omega) (by omega) (L3.2 _ (by omega) (show _ < D 0 8 by omega)) ?_
      refine zS_aload_n (zdec eX10_weightOf 56 rfl) rfl rfl ?_
      refine zvI (M' := mX10_days) (As := []) (st := [zI (planP (chX D (zShl 1 (D 0 9) - 1 - e)) x), zJ (weI D (zShl 1 (D 0 9) - 1 - e) (D 0 9)), zJ (sumI (fun s => odT D x (zShl 1 (D 0 9) - 1 - s)) e)]) (zdec eX10_weightOf 57 rfl) kM_X10_240 kV_X10_days ⟨by decide, rfl⟩ rfl rfl rfl rfl rfl (by omega) (r_days L3.1) ?_
      refine zS_icmp_ge (tgt := 110) (zdec eX10_weightOf 58 rfl) rfl (fun c2 => ?_) (fun c2 => ?_)
      · refine zS_iconst (zdec eX10_weightOf 61 rfl) rfl ?_
        have ve : (0 : Int) = vaL D x (zShl 1 (D 0 9) - 1 - e) := by unfold vaL; rw [if_neg (by omega), if_neg (show ¬ (planP (chX D (zShl 1 (D 0 9) - 1 - e)) x < D 0 1) by have : pDays (chX D (zShl 1 (D 0 9) - 1 - e)) = D 0 1 := rfl; omega)]
        rw [show (zI 0 : zV) = zI (vaL D x (zShl 1 (D 0 9) - 1 - e)) from by rw [← ve]]
        refine zS_i2l (zdec eX10_weightOf 62 rfl) ?_
        refine zS_lmul (zdec eX10_weightOf 63 rfl) ⟨by omega, by omega⟩ ?_
        refine zS_ladd (zdec eX10_weightOf 64 rfl) ⟨by omega, by omega⟩ ?_
        refine zS_lstore_n (zdec eX10_weightOf 65 rfl) rfl ?_
        refine zS_iinc (zdec eX10_weightOf 66 rfl) rfl rfl ⟨by omega, by omega⟩ ?_
        refine zS_goto (tgt := 9) (zdec eX10_weightOf 67 rfl) rfl ?_
        refine zS_forget (i := 5) ?_
        refine zS_forget (i := 6) ?_
        have k := ih (e + 1) h3 _ (by omega) (by omega) f3 L3.1
        rw [sumI_s _ a1] at k
        exact k
      · refine zS_iconst (zdec eX10_weightOf 59 rfl) rfl ?_
        refine zS_goto (tgt := 111) (zdec eX10_weightOf 60 rfl) rfl ?_
        have ve : (1 : Int) = vaL D x (zShl 1 (D 0 9) - 1 - e) := by unfold vaL; rw [if_neg (by omega), if_pos (show planP (chX D (zShl 1 (D 0 9) - 1 - e)) x < D 0 1 by have : pDays (chX D (zShl 1 (D 0 9) - 1 - e)) = D 0 1 := rfl; omega)]
        rw [show (zI 1 : zV) = zI (vaL D x (zShl 1 (D 0 9) - 1 - e)) from by rw [← ve]]
        refine zS_i2l (zdec eX10_weightOf 62 rfl) ?_
        refine zS_lmul (zdec eX10_weightOf 63 rfl) ⟨by omega, by omega⟩ ?_
        refine zS_ladd (zdec eX10_weightOf 64 rfl) ⟨by omega, by omega⟩ ?_
        refine zS_lstore_n (zdec eX10_weightOf 65 rfl) rfl ?_
        refine zS_iinc (zdec eX10_weightOf 66 rfl) rfl rfl ⟨by omega, by omega⟩ ?_
        refine zS_goto (tgt := 9) (zdec eX10_weightOf 67 rfl) rfl ?_
        refine zS_forget (i := 5) ?_
        refine zS_forget (i := 6) ?_
        have k := ih (e + 1) h3 _ (by omega) (by omega) f3 L3.1
        rw [sumI_s _ a1] at k
        exact k
    · refine zS_iload (zdec eX10_weightOf 50 rfl) rfl ?_
      refine zS_goto (tgt := 111) (zdec eX10_weightOf 51 rfl) rfl ?_
      have ve : (x3 : Int) = vaL D x (zShl 1 (D 0 9) - 1 - e) := by rw [hx3]; unfold vaL; rw [if_pos (by omega)]
      rw [show (zI x3 : zV) = zI (vaL D x (zShl 1 (D 0 9) - 1 - e)) from by rw [← ve]]
      refine zS_i2l (zdec eX10_weightOf 62 rfl) ?_
      refine zS_lmul (zdec eX10_weightOf 63 rfl) ⟨by omega, by omega⟩ ?_
      refine zS_ladd (zdec eX10_weightOf 64 rfl) ⟨by omega, by omega⟩ ?_
      refine zS_lstore_n (zdec eX10_weightOf 65 rfl) rfl ?_
      refine zS_iinc (zdec eX10_weightOf 66 rfl) rfl rfl ⟨by omega, by omega⟩ ?_
      refine zS_goto (tgt := 9) (zdec eX10_weightOf 67 rfl) rfl ?_
      refine zS_forget (i := 5) ?_
      refine zS_forget (i := 6) ?_
      have k := ih (e + 1) h3 _ (by omega) (by omega) f3 L3.1
      rw [sumI_s _ a1] at k
      exact k
theorem r_weightOf {d : Nat} {h : zH} {D : Dk} {x : Int} (hd : 30 ≤ d) (VD : DV D) (hd0 : 0 < D 0 0) (RD : DR h 0 D) (hx : x = -1 ∨ (0 ≤ x ∧ x < D 0 8)) : zMJ d mX10_weightOf [zA 108, zI x] h (fun r h' => r = odA D x ∧ Fr sQR h h') := by
  have nl := VD.nl
  have ar := all_rng (k := D 0 9) nl.1 nl.2
  refine zmet rfl rfl rfl ?_
  refine zS_aload_n (zdec eX10_weightOf 0 rfl) rfl rfl ?_
  refine zvMV (M' := mX10_lays) (As := []) (st := []) (zdec eX10_weightOf 1 rfl) kM_X10_314 kV_X10_lays ⟨by decide, rfl⟩ rfl rfl rfl rfl rfl (by omega) (r_lays (by omega) VD hd0 RD) (fun h2 ⟨R, cl2, g2⟩ => ?_)
  have RD2 : DR h2 0 D := RD.fr g2 (fun k j z => by omega)
  refine zS_lconst (zdec eX10_weightOf 2 rfl) ?_
  refine zS_lstore_n (zdec eX10_weightOf 3 rfl) rfl ?_
  refine zS_iconst (zdec eX10_weightOf 4 rfl) rfl ?_
  refine zS_istore (zdec eX10_weightOf 5 rfl) rfl ?_
  have R2 : WR h2 (chX D (zShl 1 (D 0 9) - 1)) := ⟨R.1, R.2.1, R.2.2.1, R.2.2.2.1, R.2.2.2.2.1, R.2.2.2.2.2.1, R.2.2.2.2.2.2.1, R.2.2.2.2.2.2.2.1, R.2.2.2.2.2.2.2.2.1, R.2.2.2.2.2.2.2.2.2.1, R.2.2.2.2.2.2.2.2.2.2.1, fun i i0 i1 => (R.2.2.2.2.2.2.2.2.2.2.2 i i0 i1).trans (by show (!true) = !bitB (zShl 1 (D 0 9) - 1) i; rw [all_bit nl.1 nl.2 i0 i1])⟩
  exact L_rwe hd VD hd0 RD hx (zShl 1 (D 0 9)).toNat 0 h2 _ (by omega) (by omega) (g2.mono (fun k j z => by omega)) R2

theorem nI_and (a b : Nat) : nI a &&& nI b = nI (a &&& b) := by
  apply Int32.toBitVec_inj.mp
  show BitVec.ofNat 32 a &&& BitVec.ofNat 32 b = BitVec.ofNat 32 (a &&& b)
  exact (BitVec.ofNat_and).symm
theorem zAnd_nat {a b : Nat} (ha : a < 2 ^ 31) : zAnd a b = (a &&& b : Nat) := by
  unfold zAnd
  rw [ofInt_nat, ofInt_nat, nI_and, nI_int (Nat.lt_of_le_of_lt Nat.and_le_left ha)]
theorem and_odd (m : Nat) : (2 * m + 1) &&& (2 * m) = 2 * m := by
  apply Nat.eq_of_testBit_eq
  intro i
  rw [Nat.testBit_and]
  cases i with
  | zero => simp
  | succ i =>
    rw [Nat.testBit_succ, Nat.testBit_succ, show (2 * m + 1) / 2 = m by omega, show 2 * m / 2 = m by omega, Bool.and_self]
theorem and_even {m : Nat} (h : 0 < m) : (2 * m) &&& (2 * m - 1) = 2 * (m &&& (m - 1)) := by
  apply Nat.eq_of_testBit_eq
  intro i
  rw [Nat.testBit_and]
  cases i with
  | zero => simp
  | succ i =>
    rw [Nat.testBit_succ, Nat.testBit_succ, Nat.testBit_succ, show 2 * m / 2 = m by omega, show (2 * m - 1) / 2 = m - 1 by omega, show 2 * (m &&& (m - 1)) / 2 = m &&& (m - 1) by omega, Nat.testBit_and]
/-- how many bits below 2^k -/
def pcN : Nat → Nat → Nat
  | 0, _ => 0
  | k + 1, v => v % 2 + pcN k (v / 2)
theorem pc_zero : ∀ k, pcN k 0 = 0
  | 0 => rfl
  | k + 1 => by unfold pcN; rw [pc_zero k]
theorem pc_step : ∀ (k v : Nat), v < 2 ^ k → v ≠ 0 → pcN k (v &&& (v - 1)) + 1 = pcN k v
  | 0, v, h, hn => by omega
  | k + 1, v, h, hn => by
    have h2 : v / 2 < 2 ^ k := by rw [Nat.pow_succ] at h; omega
    rcases Nat.mod_two_eq_zero_or_one v with z | z
    · have e : v = 2 * (v / 2) := by omega
      have hm : 0 < v / 2 := by omega
      have ih := pc_step k (v / 2) h2 (by omega)
      have a : v &&& (v - 1) = 2 * (v / 2 &&& (v / 2 - 1)) := by
        conv => lhs; rw [e]
        exact and_even hm
      rw [a]
      unfold pcN
      rw [show 2 * (v / 2 &&& (v / 2 - 1)) % 2 = 0 by omega, show 2 * (v / 2 &&& (v / 2 - 1)) / 2 = (v / 2 &&& (v / 2 - 1)) by omega, z]
      omega
    · have e : v = 2 * (v / 2) + 1 := by omega
      have a : v &&& (v - 1) = 2 * (v / 2) := by
        conv => lhs; rw [e]
        exact and_odd _
      rw [a]
      unfold pcN
      rw [show 2 * (v / 2) % 2 = 0 by omega, show 2 * (v / 2) / 2 = v / 2 by omega, z]
      omega
theorem pc_le : ∀ (k v : Nat), pcN k v ≤ k
  | 0, _ => by unfold pcN; omega
  | k + 1, v => by have := pc_le k (v / 2); unfold pcN; omega
theorem pc_bits : ∀ (k : Nat), k ≤ 30 → ∀ v : Nat, v < 2 ^ 31 → (pcN k v : Int) = sumI (fun i => b2i (bitB v i)) k := by
  intro k
  induction k with
  | zero => intro _ v _; rw [sumI_0 _ (by omega)]; rfl
  | succ k ih =>
    intro hk v hv
    have hd : v / 2 < 2 ^ 31 := by omega
    unfold pcN
    have i := ih (by omega) (v / 2) hd
    have sh : ∀ n : Nat, n ≤ 30 → sumI (fun i => b2i (bitB v i)) ((n + 1 : Nat) : Int) = b2i (bitB v 0) + sumI (fun i => b2i (bitB ((v / 2 : Nat) : Int) i)) n := by
      intro n
      induction n with
      | zero =>
        intro _
        rw [show ((0 + 1 : Nat) : Int) = 0 + 1 from rfl, sumI_s _ (by omega), sumI_0 _ (by omega), sumI_0 _ (by omega)]
        omega
      | succ n ih2 =>
        intro hn
        rw [show ((n + 1 + 1 : Nat) : Int) = ((n + 1 : Nat) : Int) + 1 from rfl, sumI_s _ (by omega), ih2 (by omega), show ((n + 1 : Nat) : Int) = (n : Int) + 1 from rfl, sumI_s _ (by omega)]
        have e : bitB v ((n : Int) + 1) = bitB ((v / 2 : Nat) : Int) n := by
          rw [show (n : Int) + 1 = ((n + 1 : Nat) : Int) from rfl, bitB_nat hv (by omega), bitB_nat hd (by omega), Nat.testBit_succ]
        rw [e]
        omega
    rw [sh k (by omega), ← i]
    have b0 : b2i (bitB v 0) = ((v % 2 : Nat) : Int) := by
      rw [show (0 : Int) = ((0 : Nat) : Int) from rfl, bitB_nat hv (by decide), Nat.testBit_zero]
      unfold b2i
      rcases Nat.mod_two_eq_zero_or_one v with z | z <;> rw [z] <;> rfl
    rw [b0]
    omega
theorem pc_ct {x : Int} {k : Int} (k0 : 0 ≤ k) (k1 : k ≤ 30) (x0 : 0 ≤ x) (x1 : x < 2147483648) : (pcN k.toNat x.toNat : Int) = ctI (bitB x) k := by
  have := pc_bits k.toNat (by omega) x.toNat (by omega)
  rw [Int.toNat_of_nonneg x0, Int.toNat_of_nonneg k0] at this
  exact this
theorem L_size {d : Nat} {h : zH} {a : Int} {w : Nat} : ∀ (n : Nat) (v : Nat), v < 2 ^ 30 → pcN 30 v ≤ n → zS mX10_sizeOf (zr d) 4 [zI a, zI (((pcN 30 w : Nat) : Int) - ((pcN 30 v : Nat) : Int)), zI (v : Int)] [] TT h (zOne ((pcN 30 w : Nat) : Int) h) := by
  intro n
  induction n with
  | zero =>
    intro v v1 vn
    refine zS_iload_n (zdec eX10_sizeOf 4 rfl) rfl ?_
    refine zS_if_eq (tgt := 20) (zdec eX10_sizeOf 5 rfl) rfl (fun cz => ?_) (fun cz => absurd (by rw [show v = 0 from Decidable.byContradiction (fun q => by have := pc_step 30 v v1 q; omega)]; rfl) cz)
    refine zS_iload_n (zdec eX10_sizeOf 14 rfl) rfl ?_
    exact zlI (zdec eX10_sizeOf 15 rfl) rfl (by rw [show v = 0 from Decidable.byContradiction (fun q => by have := pc_step 30 v v1 q; omega), pc_zero]; omega)
  | succ n ih =>
    intro v v1 vn
    have l1 := pc_le 30 w
    have l2 := pc_le 30 v
    refine zS_iload_n (zdec eX10_sizeOf 4 rfl) rfl ?_
    refine zS_if_eq (tgt := 20) (zdec eX10_sizeOf 5 rfl) rfl (fun c1 => ?_) (fun c1 => ?_)
    · refine zS_iload_n (zdec eX10_sizeOf 14 rfl) rfl ?_
      exact zlI (zdec eX10_sizeOf 15 rfl) rfl (by rw [show v = 0 by omega, pc_zero]; omega)
    · refine zS_iinc (zdec eX10_sizeOf 6 rfl) rfl rfl ⟨by omega, by omega⟩ ?_
      refine zS_iload_n (zdec eX10_sizeOf 7 rfl) rfl ?_
      refine zS_iload_n (zdec eX10_sizeOf 8 rfl) rfl ?_
      refine zS_iconst (zdec eX10_sizeOf 9 rfl) rfl ?_
      refine zS_isub (zdec eX10_sizeOf 10 rfl) ⟨by omega, by omega⟩ ?_
      refine zS_iand (zdec eX10_sizeOf 11 rfl) ?_
      refine zS_istore_n (zdec eX10_sizeOf 12 rfl) rfl ?_
      refine zS_goto (tgt := 4) (zdec eX10_sizeOf 13 rfl) rfl ?_
      have e1 : zAnd (v : Int) ((v : Int) - 1) = ((v &&& (v - 1) : Nat) : Int) := by rw [show (v : Int) - 1 = ((v - 1 : Nat) : Int) by omega]; exact zAnd_nat (by omega)
      have ps := pc_step 30 v (by omega) (by omega)
      rw [e1, show ((pcN 30 w : Nat) : Int) - ((pcN 30 v : Nat) : Int) + 1 = ((pcN 30 w : Nat) : Int) - ((pcN 30 (v &&& (v - 1)) : Nat) : Int) by omega]
      exact ih (v &&& (v - 1)) (Nat.lt_of_le_of_lt Nat.and_le_left v1) (by omega)
theorem r_sizeOf {d : Nat} {h : zH} {a : Int} (a0 : 0 ≤ a) (a1 : a < 1073741824) : zPI d mX10_sizeOf [zI a] h (ctI (bitB a) 30) := by
  have e := pc_ct (x := a) (k := 30) (by decide) (by decide) a0 (by omega)
  refine zmet rfl rfl rfl ?_
  refine zS_iconst (zdec eX10_sizeOf 0 rfl) rfl ?_
  refine zS_istore_n (zdec eX10_sizeOf 1 rfl) rfl ?_
  refine zS_iload_n (zdec eX10_sizeOf 2 rfl) rfl ?_
  refine zS_istore_n (zdec eX10_sizeOf 3 rfl) rfl ?_
  have k := L_size (d := d) (h := h) (a := a) (w := a.toNat) 30 a.toNat (by omega) (pc_le _ _)
  rw [Int.sub_self, Int.toNat_of_nonneg a0] at k
  rw [← e]
  exact k
theorem ct30 {a k : Int} (k0 : 0 ≤ k) (k1 : k ≤ 30) (a0 : 0 ≤ a) (h : ∀ i, k ≤ i → i < 30 → bitB a i = false) : ctI (bitB a) 30 = ctI (bitB a) k := by
  have g : ∀ j : Int, 0 ≤ j → k + j ≤ 30 → ctI (bitB a) (k + j) = ctI (bitB a) k := by
    refine up_ind (fun _ => by rw [Int.add_zero]) (fun j hj ih hk => ?_)
    have i := ih (by omega)
    unfold ctI at i ⊢
    rw [← Int.add_assoc, sumI_s _ (by omega), i, h (k + j) (by omega) (by omega)]
    show _ + (0 : Int) = _
    omega
  have := g (30 - k) (by omega) (by omega)
  rw [show k + (30 - k) = 30 by omega] at this
  exact this
theorem ct_bits {f : Int → Bool} {k : Int} (k0 : 0 ≤ k) (k1 : k ≤ 30) : ctI (bitB (bitsI f k)) 30 = ctI f k := by
  have r := bitsI_rng (f := f) k0 k1
  rw [ct30 k0 k1 r.1 (fun i i0 i1 => by rw [bitsI_bit k0 k1 (by omega) (by omega), decide_eq_false (by omega), Bool.false_and])]
  unfold ctI
  exact sumI_congr (fun j j0 j1 => by rw [bitsI_bit k0 k1 j0 (by omega), decide_eq_true j1, Bool.true_and])
theorem ct5 : ∀ x : Fin 32, cnt5 (x.val : Int) = ctI (bitB (x.val : Int)) 5 := by decide +kernel
theorem bit_hi {a m i : Int} (m0 : 0 ≤ m) (m1 : m ≤ 30) (a0 : 0 ≤ a) (a1 : a < 2 ^ m.toNat) (i0 : m ≤ i) (i1 : i < 30) : bitB a i = false := by
  obtain ⟨n, rfl⟩ := Int.eq_ofNat_of_zero_le a0
  obtain ⟨j, rfl⟩ := Int.eq_ofNat_of_zero_le (show 0 ≤ i by omega)
  have hp : 2 ^ m.toNat ≤ 2 ^ 30 := Nat.pow_le_pow_right (by decide) (by omega)
  have hn : n < 2 ^ m.toNat := by exact_mod_cast a1
  rw [bitB_nat (by omega) (by omega)]
  exact Nat.testBit_lt_two_pow (Nat.lt_of_lt_of_le hn (Nat.pow_le_pow_right (by decide) (by omega)))
theorem ct_cnt5 {a : Int} (a0 : 0 ≤ a) (a1 : a < 32) : ctI (bitB a) 30 = cnt5 a := by
  rw [ct30 (k := 5) (by decide) (by decide) a0 (fun i i0 i1 => bit_hi (m := 5) (by decide) (by decide) a0 (by show a < 32; exact a1) i0 i1)]
  obtain ⟨x, rfl⟩ := fin_of (n := 32) a0 a1
  exact (ct5 x).symm
theorem r_common {h : zH} : ∀ (n : Nat) {d : Nat} {a b : Int}, n ≤ d → gcC n a.natAbs b.natAbs → a.natAbs < 2 ^ 50 → b.natAbs < 2 ^ 50 → zPJ d mX10_common [zJ a, zJ b] h ((Int.gcd a b : Nat) : Int) := by
  intro n
  induction n with
  | zero =>
    intro d a b hd g x1 y1
    have hb : b = 0 := Decidable.byContradiction (fun w => by
      have bp : 0 < b.natAbs := by omega
      rcases g with z | z
      · have : 0 < a.natAbs * b.natAbs := Nat.mul_pos (by omega) bp
        omega
      · omega)
    refine zmet rfl rfl rfl ?_
    refine zS_lload_n (zdec eX10_common 0 rfl) rfl ?_
    refine zS_lconst (zdec eX10_common 1 rfl) ?_
    refine zS_lcmp (zdec eX10_common 2 rfl) ?_
    refine zS_if_ne (tgt := 21) (zdec eX10_common 3 rfl) rfl (fun cz => absurd cz (by rw [hb]; exact fun q => q rfl)) (fun cz => ?_)
    refine zS_lload_n (zdec eX10_common 4 rfl) rfl ?_
    refine zS_lconst (zdec eX10_common 5 rfl) ?_
    refine zS_lcmp (zdec eX10_common 6 rfl) ?_
    refine zS_if_ge (tgt := 17) (zdec eX10_common 7 rfl) rfl (fun c1 => ?_) (fun c1 => ?_)
    · refine zS_lload_n (zdec eX10_common 11 rfl) rfl ?_
      refine zS_goto (tgt := 28) (zdec eX10_common 12 rfl) rfl ?_
      exact zlJ (zdec eX10_common 18 rfl) rfl (by rw [hb, Int.gcd_zero_right]; have := zCmp_ge.mp c1; omega)
    · refine zS_lload_n (zdec eX10_common 8 rfl) rfl ?_
      refine zS_lneg (zdec eX10_common 9 rfl) ⟨by omega, by omega⟩ ?_
      refine zS_goto (tgt := 28) (zdec eX10_common 10 rfl) rfl ?_
      exact zlJ (zdec eX10_common 18 rfl) rfl (by rw [hb, Int.gcd_zero_right]; have := mt zCmp_ge.mpr c1; omega)
  | succ n ih =>
    intro d a b hd g x1 y1
    refine zmet rfl rfl rfl ?_
    refine zS_lload_n (zdec eX10_common 0 rfl) rfl ?_
    refine zS_lconst (zdec eX10_common 1 rfl) ?_
    refine zS_lcmp (zdec eX10_common 2 rfl) ?_
    refine zS_if_ne (tgt := 21) (zdec eX10_common 3 rfl) rfl (fun c1 => ?_) (fun c1 => ?_)
    · have bn : b ≠ 0 := fun w => c1 (by rw [w]; rfl)
      have ge : (Int.gcd b (a.tmod b)) = Int.gcd a b := by show Nat.gcd b.natAbs (a.tmod b).natAbs = Nat.gcd a.natAbs b.natAbs; rw [Int.natAbs_tmod]; exact gcd_step
      have nm : (a.tmod b).natAbs = a.natAbs % b.natAbs := Int.natAbs_tmod a b
      have lt := Nat.mod_lt a.natAbs (show 0 < b.natAbs by omega)
      have g1 : gcC n b.natAbs (a.tmod b).natAbs := by rw [nm]; exact gcC_s g (by omega)
      refine zS_lload_n (zdec eX10_common 13 rfl) rfl ?_
      refine zS_lload_n (zdec eX10_common 14 rfl) rfl ?_
      refine zS_lload_n (zdec eX10_common 15 rfl) rfl ?_
      refine zS_lrem (zdec eX10_common 16 rfl) (by omega) (fun q => by omega) ?_
      refine zsJ (M' := mX10_common) (As := [zJ b, zJ (a.tmod b)]) (st := []) (zdec eX10_common 17 rfl) kM_X10_320 kS_X10_common rfl rfl rfl (by omega) (ih (d := d - 1) (by omega) g1 (by omega) (by omega)) ?_
      exact zlJ (zdec eX10_common 18 rfl) rfl (by rw [ge])
    · refine zS_lload_n (zdec eX10_common 4 rfl) rfl ?_
      refine zS_lconst (zdec eX10_common 5 rfl) ?_
      refine zS_lcmp (zdec eX10_common 6 rfl) ?_
      refine zS_if_ge (tgt := 17) (zdec eX10_common 7 rfl) rfl (fun c2 => ?_) (fun c2 => ?_)
      · refine zS_lload_n (zdec eX10_common 11 rfl) rfl ?_
        refine zS_goto (tgt := 28) (zdec eX10_common 12 rfl) rfl ?_
        exact zlJ (zdec eX10_common 18 rfl) rfl (by rw [zCmp0.mp c1, Int.gcd_zero_right]; have := zCmp_ge.mp c2; omega)
      · refine zS_lload_n (zdec eX10_common 8 rfl) rfl ?_
        refine zS_lneg (zdec eX10_common 9 rfl) ⟨by omega, by omega⟩ ?_
        refine zS_goto (tgt := 28) (zdec eX10_common 10 rfl) rfl ?_
        exact zlJ (zdec eX10_common 18 rfl) rfl (by rw [zCmp0.mp c1, Int.gcd_zero_right]; have := mt zCmp_ge.mpr c2; omega)
theorem r_partOf {d : Nat} {h : zH} {a b w : Int} (hd : 91 ≤ d) (a0 : -35184372088832 < a) (a1 : a < 35184372088832) (b0 : 1 ≤ b) (b1 : b < 1099511627776) : zPJ d mX10_partOf [zJ a, zJ b, zI w] h (partP a b w) := by
  have m1 : a.natAbs * b.natAbs ≤ 2 ^ 45 * 2 ^ 40 := Nat.mul_le_mul (by omega) (by omega)
  have t2 : (2 : Nat) ^ 45 * 2 ^ 40 * 2 < 2 ^ 90 := by decide
  have cc : gcC 90 a.natAbs b.natAbs := by unfold gcC; rcases Nat.lt_or_ge a.natAbs b.natAbs with z | z <;> omega
  have gp : 0 < Int.gcd a b := Nat.gcd_pos_of_pos_right _ (by omega)
  refine zmet rfl rfl rfl ?_
  refine zS_iload (zdec eX10_partOf 0 rfl) rfl ?_
  refine zS_if_ne (tgt := 9) (zdec eX10_partOf 1 rfl) rfl (fun c1 => ?_) (fun c1 => ?_)
  · refine zS_lload_n (zdec eX10_partOf 4 rfl) rfl ?_
    refine zS_lload_n (zdec eX10_partOf 5 rfl) rfl ?_
    refine zS_lload_n (zdec eX10_partOf 6 rfl) rfl ?_
    refine zsJ (M' := mX10_common) (As := [zJ a, zJ b]) (st := [zJ b]) (zdec eX10_partOf 7 rfl) kM_X10_320 kS_X10_common rfl rfl rfl (by omega) (r_common 90 (by omega) cc (by omega) (by omega)) ?_
    refine zS_ldiv (zdec eX10_partOf 8 rfl) (by omega) (fun q => by omega) ?_
    exact zlJ (zdec eX10_partOf 9 rfl) rfl (by unfold partP; rw [if_neg c1])
  · refine zS_lload_n (zdec eX10_partOf 2 rfl) rfl ?_
    refine zS_goto (tgt := 10) (zdec eX10_partOf 3 rfl) rfl ?_
    refine zS_lload_n (zdec eX10_partOf 5 rfl) rfl ?_
    refine zS_lload_n (zdec eX10_partOf 6 rfl) rfl ?_
    refine zsJ (M' := mX10_common) (As := [zJ a, zJ b]) (st := [zJ a]) (zdec eX10_partOf 7 rfl) kM_X10_320 kS_X10_common rfl rfl rfl (by omega) (r_common 90 (by omega) cc (by omega) (by omega)) ?_
    refine zS_ldiv (zdec eX10_partOf 8 rfl) (by omega) (fun q => by omega) ?_
    exact zlJ (zdec eX10_partOf 9 rfl) rfl (by unfold partP; rw [if_pos c1])

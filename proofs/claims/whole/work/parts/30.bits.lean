/-! BITS of numbers below 2^31 -/
theorem ofInt_nat (n : Nat) : Int32.ofInt (n : Int) = nI n := Int32.ofInt_eq_ofNat
theorem shamt : ∀ k : Fin 31, ((nI k.val &&& 31).toBitVec.smod 32).toNat = k.val := by decide +kernel
theorem nI_int {n : Nat} (h : n < 2 ^ 31) : (nI n).toInt = n := nI_toInt h
theorem zShr_nat {n k : Nat} (hn : n < 2 ^ 31) (hk : k < 31) : zShr n k = (n / 2 ^ k : Nat) := by
  unfold zShr
  rw [ofInt_nat, ofInt_nat, pk_shrN hn _ k (shamt ⟨k, hk⟩), nI_int (Nat.lt_of_le_of_lt (Nat.div_le_self _ _) hn)]
theorem zShl_nat {k : Nat} (hk : k < 31) : zShl 1 k = (2 ^ k : Nat) := by
  unfold zShl
  have e : (1 : Int) = ((1 : Nat) : Int) := rfl
  have l : 2 ^ k < 2 ^ 31 := Nat.pow_lt_pow_right (by omega) hk
  rw [e, ofInt_nat, ofInt_nat, pk_shlN _ k (shamt ⟨k, hk⟩) (by omega), Nat.one_mul, nI_int l]
theorem zAnd_1 {n : Nat} (hn : n < 2 ^ 31) : zAnd n 1 = (n % 2 : Nat) := by
  unfold zAnd
  rw [ofInt_nat, show Int32.ofInt 1 = nI 1 from rfl, pk_andN (by omega) 1 (by decide), nI_int (by omega)]
theorem nI_or (a b : Nat) : nI a ||| nI b = nI (a ||| b) := by
  apply Int32.toBitVec_inj.mp
  show BitVec.ofNat 32 a ||| BitVec.ofNat 32 b = BitVec.ofNat 32 (a ||| b)
  exact (BitVec.ofNat_or).symm
theorem zOr_nat {a b : Nat} (ha : a < 2 ^ 31) (hb : b < 2 ^ 31) : zOr a b = (a ||| b : Nat) := by
  unfold zOr
  rw [ofInt_nat, ofInt_nat, nI_or, nI_int (Nat.or_lt_two_pow ha hb)]
theorem bitB_nat {n k : Nat} (hn : n < 2 ^ 31) (hk : k < 31) : bitB n k = n.testBit k := by
  unfold bitB
  rw [zShr_nat hn hk, zAnd_1 (Nat.lt_of_le_of_lt (Nat.div_le_self _ _) hn), Nat.testBit_eq_decide_div_mod_eq]
  apply Bool.eq_iff_iff.mpr
  rw [beq_iff_eq, decide_eq_true_eq]
  omega
/-- a set of n (n at most 30) as a number: zOr with a bit -/
theorem orN {x b m : Nat} (hm : m ≤ 30) (hx : x < 2 ^ m) (hb : b < m) : ∃ y : Nat, zOr x (zShl 1 b) = y ∧ y < 2 ^ m ∧ ∀ c : Nat, c < 31 → bitB y c = (bitB x c || decide (c = b)) := by
  have l1 : 2 ^ m ≤ 2 ^ 30 := Nat.pow_le_pow_right (by omega) hm
  have l2 : 2 ^ b < 2 ^ m := Nat.pow_lt_pow_right (by omega) hb
  have l3 : x ||| 2 ^ b < 2 ^ m := Nat.or_lt_two_pow hx l2
  refine ⟨x ||| 2 ^ b, ?_, l3, fun c hc => ?_⟩
  · rw [zShl_nat (by omega), zOr_nat (by omega) (by omega)]
  · rw [bitB_nat (by omega) hc, bitB_nat (by omega) hc, Nat.testBit_or, Nat.testBit_two_pow]
    congr 1
    by_cases e : b = c
    · subst e; simp
    · have : ¬ c = b := fun z => e z.symm
      simp [e, this]
theorem bitsNN {f : Int → Bool} {m : Nat} (hm : m ≤ 30) : ∀ {k : Nat}, k ≤ m → ∃ y : Nat, bitsN f k = y ∧ y < 2 ^ k ∧ ∀ c : Nat, c < 31 → bitB y c = (decide (c < k) && f c)
  | 0, _ => ⟨0, rfl, by decide, fun c hc => by rw [show ((0 : Nat) : Int) = 0 from rfl, ← show ((0 : Nat) : Int) = 0 from rfl, bitB_nat (by decide) hc]; simp⟩
  | k + 1, h => by
    obtain ⟨y, e1, e2, e3⟩ := bitsNN (f := f) hm (k := k) (by omega)
    have l : 2 ^ k < 2 ^ (k + 1) := Nat.pow_lt_pow_right (by omega) (by omega)
    show ∃ z : Nat, (if f k then zOr (bitsN f k) (zShl 1 k) else bitsN f k) = (z : Int) ∧ z < 2 ^ (k + 1) ∧ _
    cases c : f k with
    | true =>
      rw [if_pos rfl, e1]
      obtain ⟨z, z1, z2, z3⟩ := orN (x := y) (b := k) (m := k + 1) (by omega) (by omega) (by omega)
      refine ⟨z, z1, z2, fun c9 hc => ?_⟩
      rw [z3 c9 hc, e3 c9 hc]
      by_cases e : c9 = k
      · subst e; simp [c]
      · by_cases l : c9 < k
        · have l2 : c9 < k + 1 := by omega
          simp [e, l, l2]
        · have l2 : ¬ c9 < k + 1 := by omega
          simp [e, l, l2]
    | false =>
      rw [if_neg (by decide), e1]
      refine ⟨y, rfl, by omega, fun c9 hc => ?_⟩
      rw [e3 c9 hc]
      by_cases e : c9 = k
      · subst e; simp [c]
      · by_cases l : c9 < k
        · have l2 : c9 < k + 1 := by omega
          simp [l, l2]
        · have l2 : ¬ c9 < k + 1 := by omega
          simp [l, l2]
/-- all bits of a bitsI -/
theorem bitsI_bit {f : Int → Bool} {k : Int} (h0 : 0 ≤ k) (h1 : k ≤ 30) {c : Int} (c0 : 0 ≤ c) (c1 : c < 31) : bitB (bitsI f k) c = (decide (c < k) && f c) := by
  obtain ⟨y, e1, e2, e3⟩ := bitsNN (f := f) (m := 30) (by omega) (k := k.toNat) (by omega)
  unfold bitsI
  rw [e1]
  have := e3 c.toNat (by omega)
  rw [Int.toNat_of_nonneg c0] at this
  rw [this]
  congr 1
  apply Bool.eq_iff_iff.mpr
  rw [decide_eq_true_eq, decide_eq_true_eq]
  omega
theorem bitsI_rng {f : Int → Bool} {k : Int} (h0 : 0 ≤ k) (h1 : k ≤ 30) : 0 ≤ bitsI f k ∧ bitsI f k < 2 ^ k.toNat := by
  obtain ⟨y, e1, e2, e3⟩ := bitsNN (f := f) (m := 30) (by omega) (k := k.toNat) (by omega)
  unfold bitsI
  rw [e1]
  have := Int.ofNat_lt.mpr e2
  simp at this
  omega
/-- a number below 2^31 is its bits -/
theorem bit_ext {x y : Int} (h0 : 0 ≤ x) (h1 : x < 2147483648) (g0 : 0 ≤ y) (g1 : y < 2147483648) (h : ∀ c, 0 ≤ c → c < 31 → bitB x c = bitB y c) : x = y := by
  obtain ⟨a, rfl⟩ := Int.eq_ofNat_of_zero_le h0
  obtain ⟨b, rfl⟩ := Int.eq_ofNat_of_zero_le g0
  have : a = b := by
    apply Nat.eq_of_testBit_eq
    intro i
    by_cases hi : i < 31
    · have := h i (by omega) (by omega)
      rw [bitB_nat (by omega) hi, bitB_nat (by omega) hi] at this
      exact this
    · have l : 2 ^ 31 ≤ 2 ^ i := Nat.pow_le_pow_right (by omega) (by omega)
      rw [Nat.testBit_lt_two_pow (by omega), Nat.testBit_lt_two_pow (by omega)]
  rw [this]

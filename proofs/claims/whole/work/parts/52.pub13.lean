theorem cntB : ∀ (n : Fin 6) (x : Fin 5) (k : Fin 32), x.val < n.val → (k.val : Int) < zShl 1 (n.val : Int) → bitB (k.val : Int) (x.val : Int) = false → 0 ≤ cnt5 (k.val : Int) ∧ cnt5 (k.val : Int) ≤ (n.val : Int) - 1 := by decide +kernel
theorem cnt_le {n x k : Int} (n1 : n ≤ 5) (x0 : 0 ≤ x) (x1 : x < n) (k0 : 0 ≤ k) (k1 : k < zShl 1 n) (k2 : k < 32) (h : bitB k x = false) : 0 ≤ cnt5 k ∧ cnt5 k ≤ n - 1 := by
  obtain ⟨n, rfl⟩ := fin_of (n := 6) (show 0 ≤ n by omega) (by omega)
  obtain ⟨x, rfl⟩ := fin_of (n := 5) x0 (by omega)
  obtain ⟨k, rfl⟩ := fin_of (n := 32) k0 (by omega)
  exact cntB n x k (by omega) k1 h
theorem zfB : ∀ n : Fin 6, 1 ≤ zfa (n.val : Int) ∧ zfa (n.val : Int) ≤ 120 := by decide +kernel
theorem zfa_b {n : Int} (h0 : 0 ≤ n) (h1 : n ≤ 5) : 1 ≤ zfa n ∧ zfa n ≤ 120 := by
  obtain ⟨n, rfl⟩ := fin_of (n := 6) h0 (by omega)
  exact zfB n
theorem worB {D : Dk} (VD : DV D) (hd0 : 0 < D 0 0) (v : Int) : -20000 ≤ worL D v ∧ worL D v ≤ 15000 := by
  have nb := VD.nb
  have t := totLB ((pb0_V VD hd0).set' 1 (bitB v))
  have s0 := sumI_nn (f := fun b => if bitB v b then netD D b else 0) (k := D 0 8) (fun j j0 j1 => by have := netB VD j0 j1; split <;> omega)
  have s1 := sumI_le (f := fun b => if bitB v b then netD D b else 0) (k := D 0 8) (B := 3000) nb.1 (fun j j0 j1 => by have := netB VD j0 j1; split <;> omega)
  unfold worL
  omega
theorem zf2 : ∀ (n : Fin 6) (c : Fin 5), c.val + 1 ≤ n.val → 0 ≤ zfa (c.val : Int) * zfa ((n.val : Int) - 1 - (c.val : Int)) ∧ zfa (c.val : Int) * zfa ((n.val : Int) - 1 - (c.val : Int)) ≤ 24 := by decide +kernel
theorem zf2_b {n c : Int} (n1 : n ≤ 5) (c0 : 0 ≤ c) (c1 : c ≤ n - 1) : 0 ≤ zfa c * zfa (n - 1 - c) ∧ zfa c * zfa (n - 1 - c) ≤ 24 := by
  obtain ⟨n, rfl⟩ := fin_of (n := 6) (show 0 ≤ n by omega) (by omega)
  obtain ⟨c, rfl⟩ := fin_of (n := 5) c0 (by omega)
  exact zf2 n c (by omega)
noncomputable def shT (D : Dk) (x k : Int) : Int := (if bitB k x then 0 else zfa (cnt5 k) * zfa (D 0 8 - 1 - cnt5 k) * (worL D (zOr k (zShl 1 x)) - worL D k))
noncomputable def shA (D : Dk) (x : Int) : Int := sumI (shT D x) (zShl 1 (D 0 8))
theorem mulAB {a b A B : Int} (h0 : 0 ≤ a) (h1 : a ≤ A) (g0 : -B ≤ b) (g1 : b ≤ B) : -(A * B) ≤ a * b ∧ a * b ≤ A * B := by
  have e1 : a * b ≤ a * B := Int.mul_le_mul_of_nonneg_left g1 h0
  have e2 : a * (-B) ≤ a * b := Int.mul_le_mul_of_nonneg_left g0 h0
  have e3 : a * B ≤ A * B := Int.mul_le_mul_of_nonneg_right h1 (by omega)
  rw [Int.mul_neg] at e2
  omega
theorem shTB {D : Dk} (VD : DV D) (hd0 : 0 < D 0 0) {x k : Int} (x0 : 0 ≤ x) (x1 : x < D 0 8) (k0 : 0 ≤ k) (k1 : k < zShl 1 (D 0 8)) : -960000 ≤ shT D x k ∧ shT D x k ≤ 960000 := by
  have nb := VD.nb
  have a5 := allB5 nb.1 nb.2
  unfold shT
  by_cases h : bitB k x = true
  · rw [if_pos h]; omega
  · rw [if_neg h]
    have c := cnt_le nb.2 x0 x1 k0 k1 (by omega) (Bool.eq_false_iff.mpr h)
    have w1 := worB VD hd0 (zOr k (zShl 1 x))
    have w2 := worB VD hd0 k
    have m1 := zf2_b nb.2 c.1 c.2
    have m2 := mulAB (B := 40000) m1.1 m1.2 (show -40000 ≤ worL D (zOr k (zShl 1 x)) - worL D k by omega) (by omega)
    omega
theorem shAB {D : Dk} (VD : DV D) (hd0 : 0 < D 0 0) {x : Int} (x0 : 0 ≤ x) (x1 : x < D 0 8) {k : Int} (k0 : 0 ≤ k) (k1 : k ≤ zShl 1 (D 0 8)) : -30720000 ≤ sumI (shT D x) k ∧ sumI (shT D x) k ≤ 30720000 := by
  have nb := VD.nb
  have a5 := allB5 nb.1 nb.2
  have s1 := sumI_le (f := shT D x) (k := k) (B := 960000) k0 (fun j j0 j1 => (shTB VD hd0 x0 x1 j0 (by omega)).2)
  have s2 := sumI_le (f := fun j => -shT D x j) (k := k) (B := 960000) k0 (fun j j0 j1 => by have := (shTB VD hd0 x0 x1 j0 (show j < zShl 1 (D 0 8) by omega)).1; omega)
  have s3 : sumI (fun j => -shT D x j) k = -sumI (shT D x) k := by
    have h := sumI_add (shT D x) (fun j => -shT D x j) k
    rw [sumI_zero (f := fun j => shT D x j + -shT D x j) (fun j _ _ => by omega)] at h
    omega
  omega

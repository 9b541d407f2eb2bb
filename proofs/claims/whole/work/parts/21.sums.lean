/-! WHAT IS READ OFF A PLAN: pure -/
def bitsN (f : Int → Bool) : Nat → Int
  | 0 => 0
  | n + 1 => if f n then zOr (bitsN f n) (zShl 1 n) else bitsN f n
def bitsI (f : Int → Bool) (k : Int) : Int := bitsN f k.toNat
theorem bitsI_0 (f : Int → Bool) {k : Int} (h : k ≤ 0) : bitsI f k = 0 := by
  unfold bitsI
  rw [show k.toNat = 0 by omega]
  rfl
theorem bitsI_s (f : Int → Bool) {k : Int} (h : 0 ≤ k) : bitsI f (k + 1) = if f k then zOr (bitsI f k) (zShl 1 k) else bitsI f k := by
  unfold bitsI
  rw [show (k + 1).toNat = k.toNat + 1 by omega]
  show (if f (k.toNat : Int) then zOr (bitsN f k.toNat) (zShl 1 (k.toNat : Int)) else bitsN f k.toNat) = _
  rw [Int.toNat_of_nonneg h]
theorem bitsI_is {f : Int → Bool} {k : Int} (h0 : 0 ≤ k) (h5 : k ≤ 5) : (0 ≤ bitsI f k ∧ bitsI f k < 32) ∧ ∀ b, 0 ≤ b → b < 5 → bitB (bitsI f k) b = (decide (b < k) && f b) := by
  refine up_ind (P := fun k => k ≤ 5 → (0 ≤ bitsI f k ∧ bitsI f k < 32) ∧ ∀ b, 0 ≤ b → b < 5 → bitB (bitsI f k) b = (decide (b < k) && f b)) (fun _ => ?_) (fun j hj ih h => ?_) k h0 h5
  · rw [bitsI_0 _ (by omega)]
    refine ⟨⟨by omega, by omega⟩, fun b b0 b1 => ?_⟩
    rw [bits_zero b0 b1, decide_eq_false (by omega), Bool.false_and]
  · obtain ⟨⟨a0, a1⟩, a2⟩ := ih (by omega)
    rw [bitsI_s _ hj]
    by_cases c : f j = true
    · rw [if_pos c]
      obtain ⟨g, g2⟩ := or_bit a0 a1 hj (show j < 5 by omega)
      refine ⟨g, fun b b0 b1 => ?_⟩
      rw [g2 b b0 b1, a2 b b0 b1]
      by_cases e : b = j
      · subst e; simp [c]; omega
      · by_cases l : b < j
        · have l2 : b < j + 1 := by omega
          simp [e, l, l2]
        · have l2 : ¬ b < j + 1 := by omega
          simp [e, l, l2]
    · rw [if_neg c]
      refine ⟨⟨a0, a1⟩, fun b b0 b1 => ?_⟩
      rw [a2 b b0 b1]
      by_cases e : b = j
      · subst e
        have c : f b = false := by simpa using c
        simp [c]
      · by_cases l : b < j
        · have l2 : b < j + 1 := by omega
          simp [l, l2]
        · have l2 : ¬ b < j + 1 := by omega
          simp [l, l2]
theorem bitsI_congr {f g : Int → Bool} {k : Int} (h : ∀ j, 0 ≤ j → j < k → f j = g j) : bitsI f k = bitsI g k := by
  by_cases hk : 0 ≤ k
  · have key : ∀ m, 0 ≤ m → m ≤ k → bitsI f m = bitsI g m := fun m hm => up_ind (P := fun m => m ≤ k → bitsI f m = bitsI g m) (fun _ => by rw [bitsI_0 _ (by omega), bitsI_0 _ (by omega)]) (fun j hj ih hk2 => by rw [bitsI_s _ hj, bitsI_s _ hj, ih (by omega), h j hj (by omega)]) m hm
    exact key k hk (by omega)
  · rw [bitsI_0 _ (by omega), bitsI_0 _ (by omega)]
/-- the number that holds a day's bills -/
theorem FB.eq {x : Int} {p : Pb} {q : Int → Int} {d : Int} (V : PV p) (f : FB x p q d) : x = bitsI (onP p q d) (pNb p) := by
  have nb := V.nb
  obtain ⟨g, g2⟩ := bitsI_is (f := onP p q d) nb.1 nb.2
  exact bits_eq f.1 f.2.1 g.1 g.2 (fun b b0 b1 => by rw [f.2.2 b b0 b1, g2 b b0 b1])
theorem FB.of {p : Pb} {q : Int → Int} {d : Int} (V : PV p) : FB (bitsI (onP p q d) (pNb p)) p q d := by
  have nb := V.nb
  obtain ⟨g, g2⟩ := bitsI_is (f := onP p q d) nb.1 nb.2
  exact ⟨g.1, g.2, g2⟩
def feesP (p : Pb) (q : Int → Int) : Int := sumI (fun d => if usedP p q d then pFee p else 0) (pDays p)
def costsP (p : Pb) (q : Int → Int) : Int := sumI (fun b => if pIn p b then priceP p b (q b) else 0) (pNb p)
def totalP (p : Pb) (q : Int → Int) : Int := feesP p q + costsP p q
def toP (p : Pb) (q : Int → Int) (s : Int) : Int := sumI (fun b => if pOf p b = s ∧ q b < pDays p then priceP p b (q b) else 0) (pNb p)
def openP (p : Pb) (q : Int → Int) : Int := bitsI (onP p q (pDays p)) (pNb p)
theorem feesB {p : Pb} (V : PV p) (q : Int → Int) {k : Int} (h0 : 0 ≤ k) (h1 : k ≤ 7) : 0 ≤ sumI (fun d => if usedP p q d then pFee p else 0) k ∧ sumI (fun d => if usedP p q d then pFee p else 0) k ≤ 1400 := by
  have f := V.fee
  have a : 0 ≤ sumI (fun d => if usedP p q d then pFee p else 0) k := sumI_nn (fun j _ _ => by split <;> omega)
  have b : sumI (fun d => if usedP p q d then pFee p else 0) k ≤ 200 * k := sumI_le h0 (fun j _ _ => by split <;> omega)
  omega
theorem costsB {p : Pb} (V : PV p) {q : Int → Int} (hq : ∀ b, q b ≤ 7) {k : Int} (h0 : 0 ≤ k) (h1 : k ≤ pNb p) : 0 ≤ sumI (fun b => if pIn p b then priceP p b (q b) else 0) k ∧ sumI (fun b => if pIn p b then priceP p b (q b) else 0) k ≤ 18465 := by
  have nb := V.nb
  have a : 0 ≤ sumI (fun b => if pIn p b then priceP p b (q b) else 0) k := sumI_nn (fun j j0 j1 => by have := priceB V j0 (show j < pNb p by omega) (hq j); split <;> omega)
  have b : sumI (fun b => if pIn p b then priceP p b (q b) else 0) k ≤ 3693 * k := sumI_le h0 (fun j j0 j1 => by have := priceB V j0 (show j < pNb p by omega) (hq j); split <;> omega)
  omega
theorem toB {p : Pb} (V : PV p) {q : Int → Int} (hq : ∀ b, q b ≤ 7) (s : Int) {k : Int} (h0 : 0 ≤ k) (h1 : k ≤ pNb p) : 0 ≤ sumI (fun b => if pOf p b = s ∧ q b < pDays p then priceP p b (q b) else 0) k ∧ sumI (fun b => if pOf p b = s ∧ q b < pDays p then priceP p b (q b) else 0) k ≤ 18465 := by
  have nb := V.nb
  have a : 0 ≤ sumI (fun b => if pOf p b = s ∧ q b < pDays p then priceP p b (q b) else 0) k := sumI_nn (fun j j0 j1 => by have := priceB V j0 (show j < pNb p by omega) (hq j); split <;> omega)
  have b : sumI (fun b => if pOf p b = s ∧ q b < pDays p then priceP p b (q b) else 0) k ≤ 3693 * k := sumI_le h0 (fun j j0 j1 => by have := priceB V j0 (show j < pNb p by omega) (hq j); split <;> omega)
  omega
theorem onB {p : Pb} (V : PV p) (q : Int → Int) {d : Int} (hd : d ≤ 7) {k : Int} (h0 : 0 ≤ k) (h1 : k ≤ pNb p) : 0 ≤ sumI (fun b => if onP p q d b then priceP p b d else 0) k ∧ sumI (fun b => if onP p q d b then priceP p b d else 0) k ≤ 18465 := by
  have nb := V.nb
  have a : 0 ≤ sumI (fun b => if onP p q d b then priceP p b d else 0) k := sumI_nn (fun j j0 j1 => by have := priceB V j0 (show j < pNb p by omega) hd; split <;> omega)
  have b : sumI (fun b => if onP p q d b then priceP p b d else 0) k ≤ 3693 * k := sumI_le h0 (fun j j0 j1 => by have := priceB V j0 (show j < pNb p by omega) hd; split <;> omega)
  omega
/-- the first place of the least, of the first k (k at least 1) -/
def amN (f : Int → Int) : Nat → Int
  | 0 => 0
  | n + 1 => if f (n + 1 : Nat) < f (amN f n) then ((n + 1 : Nat) : Int) else amN f n
def amI (f : Int → Int) (k : Int) : Int := amN f (k - 1).toNat
theorem amI_1 (f : Int → Int) : amI f 1 = 0 := rfl
theorem amI_s (f : Int → Int) {k : Int} (h : 1 ≤ k) : amI f (k + 1) = if f k < f (amI f k) then k else amI f k := by
  unfold amI
  rw [show (k + 1 - 1).toNat = (k - 1).toNat + 1 by omega]
  show (if f (((k - 1).toNat + 1 : Nat) : Int) < f (amN f (k - 1).toNat) then (((k - 1).toNat + 1 : Nat) : Int) else amN f (k - 1).toNat) = _
  rw [show (((k - 1).toNat + 1 : Nat) : Int) = k by omega]
theorem amI_rng {f : Int → Int} {k : Int} (h : 1 ≤ k) : 0 ≤ amI f k ∧ amI f k < k := by
  have key := up_ind (P := fun k => 0 ≤ amI f (k + 1) ∧ amI f (k + 1) < k + 1) (show 0 ≤ amI f 1 ∧ amI f 1 < 1 by rw [amI_1]; omega) (fun j hj ih => by
    rw [amI_s f (k := j + 1) (by omega)]
    split <;> omega) (k - 1) (by omega)
  rw [show k - 1 + 1 = k by omega] at key
  exact key
theorem amI_congr {f g : Int → Int} {k : Int} (h1 : 1 ≤ k) (h : ∀ j, 0 ≤ j → j < k → f j = g j) : amI f k = amI g k := by
  have key := up_ind (P := fun m => m + 1 ≤ k → amI f (m + 1) = amI g (m + 1)) (fun _ => rfl) (fun j hj ih hk => by
    have r := amI_rng (f := g) (k := j + 1) (by omega)
    rw [amI_s f (k := j + 1) (by omega), amI_s g (k := j + 1) (by omega), ih (by omega), h (j + 1) (by omega) (by omega), h _ r.1 (by omega)]) (k - 1) (by omega)
  rw [show k - 1 + 1 = k by omega] at key
  exact key (by omega)

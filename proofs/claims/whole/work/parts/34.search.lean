/-! SEARCHING: plans by number, the first of the best -/
def preN (p : Pb) : Nat → Int → Int → Int
  | 0, _ => fun _ => pDays p
  | n + 1, m => updI (preN p n (m / (pDays p + 1))) (n : Int) (m % (pDays p + 1))
def preP (p : Pb) (b m : Int) : Int → Int := preN p b.toNat m
def bwN (p : Pb) : Nat → Int
  | 0 => 1
  | n + 1 => bwN p n * (pDays p + 1)
theorem preP_0 (p : Pb) (m : Int) : preP p 0 m = fun _ => pDays p := rfl
theorem preP_p {p : Pb} {b m : Int} (h0 : 0 ≤ b) : preP p (b + 1) m = updI (preP p b (m / (pDays p + 1))) b (m % (pDays p + 1)) := by
  unfold preP
  rw [show (b + 1).toNat = b.toNat + 1 by omega]
  show updI (preN p b.toNat (m / (pDays p + 1))) (b.toNat : Int) (m % (pDays p + 1)) = _
  rw [Int.toNat_of_nonneg h0]
theorem divmod {B m d : Int} (hB : 0 < B) (d0 : 0 ≤ d) (d1 : d < B) : (m * B + d) / B = m ∧ (m * B + d) % B = d := by
  have h := (Int.ediv_emod_unique (a := m * B + d) (q := m) (r := d) hB).mpr ⟨by rw [Int.mul_comm]; omega, d0, d1⟩
  exact h
theorem preP_s {p : Pb} {b m d : Int} (V : PV p) (h0 : 0 ≤ b) (d0 : 0 ≤ d) (d1 : d ≤ pDays p) : preP p (b + 1) (m * (pDays p + 1) + d) = updI (preP p b m) b d := by
  have dy := V.days
  have h := divmod (B := pDays p + 1) (m := m) (d := d) (by omega) d0 (by omega)
  rw [preP_p h0, h.1, h.2]
theorem preP_rng {p : Pb} (V : PV p) (b m c : Int) : 0 ≤ preP p b m c ∧ preP p b m c ≤ pDays p := by
  have dy := V.days
  have h : ∀ (n : Nat) (m : Int), 0 ≤ preN p n m c ∧ preN p n m c ≤ pDays p := by
    intro n
    induction n with
    | zero => intro m; show 0 ≤ pDays p ∧ pDays p ≤ pDays p; omega
    | succ n ih =>
      intro m
      show 0 ≤ updI (preN p n (m / (pDays p + 1))) (n : Int) (m % (pDays p + 1)) c ∧ updI (preN p n (m / (pDays p + 1))) (n : Int) (m % (pDays p + 1)) c ≤ pDays p
      unfold updI
      split
      · have h1 := Int.emod_nonneg m (show pDays p + 1 ≠ 0 by omega)
        have h2 := Int.emod_lt_of_pos m (show 0 < pDays p + 1 by omega)
        omega
      · exact ih _
  exact h _ _
theorem preP_out {p : Pb} {b m c : Int} (hc : b ≤ c) (h0 : 0 ≤ b) : preP p b m c = pDays p := by
  have h : ∀ (n : Nat) (m : Int), (n : Int) ≤ c → preN p n m c = pDays p := by
    intro n
    induction n with
    | zero => intro m _; rfl
    | succ n ih =>
      intro m hn
      show updI (preN p n (m / (pDays p + 1))) (n : Int) (m % (pDays p + 1)) c = pDays p
      rw [updI_n (by omega)]
      exact ih _ (by omega)
  exact h _ _ (by omega)
theorem bw_pos {p : Pb} (V : PV p) : ∀ n, 0 < bwN p n := by
  have dy := V.days
  intro n
  induction n with
  | zero => show (0 : Int) < 1; decide
  | succ n ih => exact Int.mul_pos ih (by omega)
theorem blk_pre {p : Pb} (V : PV p) : ∀ (k : Nat) (b m n : Int), 0 ≤ b → b + k = pNb p → m * bwN p k ≤ n → n < (m + 1) * bwN p k → ∀ c, 0 ≤ c → c < b → preP p (pNb p) n c = preP p b m c := by
  have dy := V.days
  intro k
  induction k with
  | zero =>
    intro b m n h0 hk h1 h2 c c0 c1
    have e : n = m := by
      have e1 : bwN p 0 = 1 := rfl
      rw [e1] at h1 h2
      omega
    rw [e, show pNb p = b by omega]
  | succ k ih =>
    intro b m n h0 hk h1 h2 c c0 c1
    have wp := bw_pos V k
    have ws : bwN p (k + 1) = bwN p k * (pDays p + 1) := rfl
    rw [ws] at h1 h2
    have x1 := Int.ediv_mul_le n (show bwN p k ≠ 0 by omega)
    have x2 := Int.lt_ediv_add_one_mul_self n wp
    have x3 : m * (pDays p + 1) ≤ n / bwN p k := (Int.le_ediv_iff_mul_le wp).mpr (by rw [Int.mul_assoc, Int.mul_comm (pDays p + 1)]; exact h1)
    have x4 : n / bwN p k < (m + 1) * (pDays p + 1) := (Int.ediv_lt_iff_lt_mul wp).mpr (by rw [Int.mul_assoc, Int.mul_comm (pDays p + 1)]; exact h2)
    have x5 : (m + 1) * (pDays p + 1) = m * (pDays p + 1) + (pDays p + 1) := by rw [Int.add_mul, Int.one_mul]
    obtain ⟨d, hd⟩ : ∃ d, n / bwN p k = m * (pDays p + 1) + d := ⟨n / bwN p k - m * (pDays p + 1), by omega⟩
    rw [hd] at x1 x2 x3 x4
    rw [ih (b + 1) (m * (pDays p + 1) + d) n (by omega) (by omega) x1 x2 c c0 (by omega), preP_s V h0 (by omega) (by omega), updI_n (by omega)]
def okN (p : Pb) (fb fd n : Int) : Bool := (fb == -1 || preP p (pNb p) n fb == fd) && lawP p (preP p (pNb p) n)
def totN (p : Pb) (n : Int) : Int := totalP p (preP p (pNb p) n)
def stN (p : Pb) (fb fd L : Int) : Nat → Int × Int
  | 0 => (L, -1)
  | n + 1 => if (okN p fb fd n && decide (totN p n < (stN p fb fd L n).1)) = true then (totN p n, (n : Int)) else stN p fb fd L n
def stI (p : Pb) (fb fd L k : Int) : Int × Int := stN p fb fd L k.toNat
theorem stI_s {p : Pb} {fb fd L k : Int} (h : 0 ≤ k) : stI p fb fd L (k + 1) = if (okN p fb fd k && decide (totN p k < (stI p fb fd L k).1)) = true then (totN p k, k) else stI p fb fd L k := by
  unfold stI
  rw [show (k + 1).toNat = k.toNat + 1 by omega]
  show (if (okN p fb fd (k.toNat : Int) && decide (totN p (k.toNat : Int) < (stN p fb fd L k.toNat).1)) = true then (totN p (k.toNat : Int), (k.toNat : Int)) else stN p fb fd L k.toNat) = _
  rw [Int.toNat_of_nonneg h]
theorem stI_blk {p : Pb} {fb fd L : Int} {a c : Int} (h0 : 0 ≤ a) (h1 : a ≤ c) (h : ∀ n, a ≤ n → n < c → okN p fb fd n = true → (stI p fb fd L a).1 ≤ totN p n) : stI p fb fd L c = stI p fb fd L a := by
  have k : ∀ j : Int, 0 ≤ j → a + j ≤ c → stI p fb fd L (a + j) = stI p fb fd L a := by
    refine up_ind (fun _ => by rw [Int.add_zero]) (fun j hj ih hc => ?_)
    have ih := ih (by omega)
    rw [show a + (j + 1) = a + j + 1 by omega, stI_s (by omega), ih, if_neg]
    intro z
    rw [Bool.and_eq_true, decide_eq_true_eq] at z
    have := h (a + j) (by omega) (by omega) z.1
    omega
  have := k (c - a) (by omega) (by omega)
  rw [show a + (c - a) = c by omega] at this
  exact this
/-! plans that pay more -/
def extP (p : Pb) (q q' : Int → Int) : Prop := ∀ c, 0 ≤ c → c < pNb p → q c < pDays p → q' c = q c
theorem on_ext {p : Pb} {q q' : Int → Int} {d c : Int} (E : extP p q q') (hd : d < pDays p) (c0 : 0 ≤ c) (c1 : c < pNb p) (h : onP p q d c = true) : onP p q' d c = true := by
  unfold onP at h ⊢
  rw [Bool.and_eq_true, beq_iff_eq] at h ⊢
  exact ⟨h.1, by rw [E c c0 c1 (by omega)]; exact h.2⟩
theorem used_ext {p : Pb} {q q' : Int → Int} {d : Int} (E : extP p q q') (hd : d < pDays p) (h : usedP p q d = true) : usedP p q' d = true := by
  obtain ⟨c, c0, c1, hc⟩ := anyI_iff.mp h
  exact anyI_iff.mpr ⟨c, c0, c1, on_ext E hd c0 c1 hc⟩
theorem fee_ext {p : Pb} {q q' : Int → Int} {d : Int} (V : PV p) (E : extP p q q') (hd : d < pDays p) : (if usedP p q d then pFee p else 0) ≤ (if usedP p q' d then pFee p else 0) := by
  have f := V.fee
  by_cases u : usedP p q d = true
  · rw [if_pos u, if_pos (used_ext E hd u)]; omega
  · rw [if_neg u]; split <;> omega
theorem out_ext {p : Pb} {q q' : Int → Int} {d : Int} (V : PV p) (E : extP p q q') (hd : d < pDays p) : outP p q d ≤ outP p q' d := by
  have dy := V.days
  have f := fee_ext V E hd
  have s : sumI (fun b => if onP p q d b then priceP p b d else 0) (pNb p) ≤ sumI (fun b => if onP p q' d b then priceP p b d else 0) (pNb p) := sumI_mono (fun c c0 c1 => by
    have pb := priceB V c0 c1 (show d ≤ 7 by omega)
    by_cases u : onP p q d c = true
    · rw [if_pos u, if_pos (on_ext E hd c0 c1 u)]; omega
    · rw [if_neg u]; split <;> omega)
  unfold outP
  omega
theorem cash_ext {p : Pb} {q q' : Int → Int} {d : Int} (V : PV p) (E : extP p q q') (hd : d < pDays p) : cashP p q' d ≤ cashP p q d := by
  have s : sumI (outP p q) (d + 1) ≤ sumI (outP p q') (d + 1) := sumI_mono (fun j j0 j1 => out_ext V E (by omega))
  unfold cashP
  omega
theorem fees_ext {p : Pb} {q q' : Int → Int} (V : PV p) (E : extP p q q') : feesP p q ≤ feesP p q' := sumI_mono (fun j j0 j1 => fee_ext V E j1)
theorem law_ext {p : Pb} {q q' : Int → Int} (V : PV p) (E : extP p q q') (h : lawP p q = false) : lawP p q' = false := by
  unfold lawP at h ⊢
  rw [Bool.not_eq_false'] at h ⊢
  obtain ⟨d, d0, d1, hd⟩ := anyI_iff.mp h
  refine anyI_iff.mpr ⟨d, d0, d1, ?_⟩
  unfold badP at hd ⊢
  rw [Bool.or_eq_true, Bool.and_eq_true, Bool.and_eq_true, decide_eq_true_eq] at hd ⊢
  rcases hd with ⟨a, b⟩ | ⟨a, b⟩
  · exact Or.inl ⟨used_ext E d1 a, b⟩
  · refine Or.inr ⟨?_, by have := cash_ext V E d1; omega⟩
    obtain ⟨j, j0, j1, hj⟩ := anyI_iff.mp a
    exact anyI_iff.mpr ⟨j, j0, j1, used_ext E (by omega) hj⟩
/-! the sum of a part, and what the rest costs at least -/
def parS (p : Pb) (q : Int → Int) (b : Int) : Int := feesP p q + sumI (fun c => priceP p c (q c)) b
def mnN (f : Int → Int) : Nat → Int
  | 0 => 2147483647
  | n + 1 => min (mnN f n) (f n)
def mnI (f : Int → Int) (k : Int) : Int := mnN f k.toNat
theorem mnI_0 (f : Int → Int) : mnI f 0 = 2147483647 := rfl
theorem mnI_s (f : Int → Int) {k : Int} (h : 0 ≤ k) : mnI f (k + 1) = min (mnI f k) (f k) := by
  unfold mnI
  rw [show (k + 1).toNat = k.toNat + 1 by omega]
  show min (mnN f k.toNat) (f (k.toNat : Int)) = _
  rw [Int.toNat_of_nonneg h]
theorem mnI_le {f : Int → Int} {k j : Int} (j0 : 0 ≤ j) (j1 : j < k) : mnI f k ≤ f j := by
  have h : ∀ k : Int, 0 ≤ k → j < k → mnI f k ≤ f j := up_ind (fun z => by omega) (fun i hi ih hj => by
    rw [mnI_s _ hi]
    by_cases e : j = i
    · subst e; omega
    · have := ih (by omega); omega)
  exact h k (by omega) j1
theorem mnI_nn {f : Int → Int} {k : Int} (k0 : 0 ≤ k) (h : ∀ j, 0 ≤ j → j < k → 0 ≤ f j) : 0 ≤ mnI f k ∧ mnI f k ≤ 2147483647 := by
  refine up_ind (P := fun k => (∀ j, 0 ≤ j → j < k → 0 ≤ f j) → 0 ≤ mnI f k ∧ mnI f k ≤ 2147483647) (fun _ => by rw [mnI_0]; omega) (fun i hi ih hj => ?_) k k0 h
  rw [mnI_s _ hi]
  have := ih (fun j a b => hj j a (by omega))
  have := hj i hi (by omega)
  omega
def minP (p : Pb) (c : Int) : Int := mnI (priceP p c) (pDays p + 1)
def restP (p : Pb) (b : Int) : Int := sumI (minP p) (pNb p) - sumI (minP p) b
theorem minB {p : Pb} (V : PV p) {c : Int} (c0 : 0 ≤ c) (c1 : c < pNb p) : 0 ≤ minP p c ∧ minP p c ≤ 3693 := by
  have dy := V.days
  have a := mnI_nn (f := priceP p c) (k := pDays p + 1) (by omega) (fun j j0 j1 => (priceB V c0 c1 (show j ≤ 7 by omega)).1)
  have b := mnI_le (f := priceP p c) (k := pDays p + 1) (j := 0) (by omega) (by omega)
  have e := priceB V c0 c1 (show (0 : Int) ≤ 7 by omega)
  unfold minP
  omega
theorem sumI_tail {f g : Int → Int} {b : Int} (b0 : 0 ≤ b) : ∀ j : Int, 0 ≤ j → (∀ i, b ≤ i → i < b + j → g i ≤ f i) → sumI g (b + j) - sumI g b ≤ sumI f (b + j) - sumI f b := by
  refine up_ind (fun _ => by rw [Int.add_zero]; omega) (fun j hj ih h => ?_)
  have := ih (fun i a c => h i a (by omega))
  rw [show b + (j + 1) = b + j + 1 by omega, sumI_s _ (by omega), sumI_s _ (by omega)]
  have := h (b + j) (by omega) (by omega)
  omega
theorem restB {p : Pb} (V : PV p) {b : Int} (b0 : 0 ≤ b) (b1 : b ≤ pNb p) : 0 ≤ restP p b ∧ restP p b ≤ 18465 := by
  have nb := V.nb
  have t := sumI_tail (f := minP p) (g := fun _ => 0) b0 (pNb p - b) (by omega) (fun i i0 i1 => (minB V (c := i) (by omega) (by omega)).1)
  rw [show b + (pNb p - b) = pNb p by omega, sumI_zero (f := fun _ => (0 : Int)) (fun _ _ _ => rfl), sumI_zero (f := fun _ => (0 : Int)) (fun _ _ _ => rfl)] at t
  have u := sumI_le (f := minP p) (k := pNb p) (B := 3693) nb.1 (fun j j0 j1 => (minB V j0 j1).2)
  have w := sumI_nn (f := minP p) (k := b) (fun j j0 j1 => (minB V j0 (by omega)).1)
  unfold restP
  omega
theorem rest_s {p : Pb} {b : Int} (b0 : 0 ≤ b) : restP p b = restP p (b + 1) + minP p b := by
  unfold restP
  rw [sumI_s _ b0]
  omega
theorem rest_n (p : Pb) : restP p (pNb p) = 0 := by unfold restP; omega
theorem total_par {p : Pb} {q : Int → Int} (hin : ∀ c, 0 ≤ c → c < pNb p → pIn p c = true) : totalP p q = parS p q (pNb p) := by
  unfold totalP parS costsP
  rw [sumI_congr (fun c c0 c1 => by rw [if_pos (hin c c0 c1)])]
theorem fees_upd {p : Pb} {q : Int → Int} {b d : Int} (h0 : 0 ≤ b) (h1 : b < pNb p) (hi : pIn p b = true) (hq : q b = pDays p) (d0 : 0 ≤ d) (d1 : d < pDays p) : feesP p (updI q b d) = feesP p q + (if usedP p q d then 0 else pFee p) := by
  unfold feesP
  rw [sumI_one (b := d) (g := fun j => if usedP p q j then pFee p else 0) d0 d1 (fun j j0 j1 hj => by
    have : (d == j) = false := by simp; omega
    rw [usedP_upd h0 h1 hi (by omega), this, Bool.or_false])]
  rw [usedP_upd h0 h1 hi (by omega)]
  simp only [beq_self_eq_true, Bool.or_true, if_true]
  split <;> omega
theorem par_pay {p : Pb} {q : Int → Int} {b d : Int} (h0 : 0 ≤ b) (h1 : b < pNb p) (hi : pIn p b = true) (hq : q b = pDays p) (d0 : 0 ≤ d) (d1 : d < pDays p) : parS p (updI q b d) (b + 1) = parS p q b + (priceP p b d + (if usedP p q d then 0 else pFee p)) := by
  unfold parS
  rw [fees_upd h0 h1 hi hq d0 d1, sumI_s _ h0, updI_s, sumI_congr (f := fun c => priceP p c (updI q b d c)) (g := fun c => priceP p c (q c)) (fun j j0 j1 => by rw [updI_n (by omega)])]
  omega
theorem par_non {p : Pb} {q : Int → Int} {b : Int} (h0 : 0 ≤ b) (hq : q b = pDays p) : parS p q (b + 1) = parS p q b + priceP p b (pDays p) := by
  unfold parS
  rw [sumI_s _ h0, hq]
  omega
theorem parB {p : Pb} {q : Int → Int} (V : PV p) (hq : ∀ c, 0 ≤ q c ∧ q c ≤ pDays p) {b : Int} (h0 : 0 ≤ b) (h1 : b ≤ pNb p) : 0 ≤ parS p q b ∧ parS p q b ≤ 20000 := by
  have nb := V.nb
  have dy := V.days
  have f := feesB V q (k := pDays p) (by omega) (by omega)
  have s1 := sumI_nn (f := fun c => priceP p c (q c)) (k := b) (fun j j0 j1 => (priceB V j0 (by omega) (by have := hq j; omega)).1)
  have s2 := sumI_le (f := fun c => priceP p c (q c)) (k := b) (B := 3693) h0 (fun j j0 j1 => (priceB V j0 (by omega) (by have := hq j; omega)).2)
  unfold parS feesP
  omega
theorem tot_ge {p : Pb} {q q' : Int → Int} (V : PV p) (hin : ∀ c, 0 ≤ c → c < pNb p → pIn p c = true) {b : Int} (b0 : 0 ≤ b) (b1 : b ≤ pNb p) (E : extP p q q') (hp : ∀ c, 0 ≤ c → c < b → q' c = q c) (hr : ∀ c, 0 ≤ q' c ∧ q' c ≤ pDays p) : parS p q b + restP p b ≤ totalP p q' := by
  have f := fees_ext V E
  have t := sumI_tail (f := fun c => priceP p c (q' c)) (g := minP p) b0 (pNb p - b) (by omega) (fun i i0 i1 => mnI_le (f := priceP p i) (hr i).1 (by have := hr i; omega))
  rw [show b + (pNb p - b) = pNb p by omega, sumI_congr (f := fun c => priceP p c (q' c)) (k := b) (g := fun c => priceP p c (q c)) (fun j j0 j1 => by rw [hp j j0 j1])] at t
  rw [total_par hin]
  unfold parS restP
  omega
theorem pre_extP {p : Pb} (V : PV p) {k : Nat} {b m n : Int} (h0 : 0 ≤ b) (hk : b + k = pNb p) (h1 : m * bwN p k ≤ n) (h2 : n < (m + 1) * bwN p k) : extP p (preP p b m) (preP p (pNb p) n) := fun c c0 c1 hc => by
  by_cases e : c < b
  · exact blk_pre V k b m n h0 hk h1 h2 c c0 e
  · rw [preP_out (by omega) h0] at hc; omega

theorem anyI_congr {f g : Int → Bool} {k : Int} (h : ∀ j, 0 ≤ j → j < k → f j = g j) : anyI f k = anyI g k := by
  apply Bool.eq_iff_iff.mpr
  rw [anyI_iff, anyI_iff]
  constructor
  · rintro ⟨j, a, b, c⟩; exact ⟨j, a, b, by rw [← h j a b]; exact c⟩
  · rintro ⟨j, a, b, c⟩; exact ⟨j, a, b, by rw [h j a b]; exact c⟩
section Cg
variable {p : Pb} {q q' : Int → Int} (e : ∀ b, 0 ≤ b → b < pNb p → q b = q' b)
theorem on_cg (e : ∀ b, 0 ≤ b → b < pNb p → q b = q' b) (d : Int) {b : Int} (b0 : 0 ≤ b) (b1 : b < pNb p) : onP p q d b = onP p q' d b := by unfold onP; rw [e b b0 b1]
theorem used_cg (e : ∀ b, 0 ≤ b → b < pNb p → q b = q' b) (d : Int) : usedP p q d = usedP p q' d := anyI_congr (fun b b0 b1 => on_cg e d b0 b1)
theorem out_cg (e : ∀ b, 0 ≤ b → b < pNb p → q b = q' b) (d : Int) : outP p q d = outP p q' d := by
  unfold outP
  rw [used_cg e d, sumI_congr (fun b b0 b1 => by rw [on_cg e d b0 b1])]
theorem cash_cg (e : ∀ b, 0 ≤ b → b < pNb p → q b = q' b) (d : Int) : cashP p q d = cashP p q' d := by
  unfold cashP
  rw [sumI_congr (fun j _ _ => out_cg e j)]
theorem total_cg (e : ∀ b, 0 ≤ b → b < pNb p → q b = q' b) : totalP p q = totalP p q' := by
  unfold totalP feesP costsP
  rw [sumI_congr (fun j _ _ => by rw [used_cg e j]), sumI_congr (f := fun b => if pIn p b then priceP p b (q b) else 0) (fun b b0 b1 => by rw [e b b0 b1])]
theorem law_cg (e : ∀ b, 0 ≤ b → b < pNb p → q b = q' b) : lawP p q = lawP p q' := by
  unfold lawP
  rw [anyI_congr (fun d _ _ => by
    unfold badP
    rw [used_cg e d, cash_cg e d, anyI_congr (fun j _ _ => used_cg e j)])]
  rfl
end Cg
theorem pre_surj {p : Pb} (V : PV p) {q : Int → Int} (hq : ∀ b, 0 ≤ q b ∧ q b ≤ pDays p) : ∀ k : Int, 0 ≤ k → ∃ n, 0 ≤ n ∧ n < bwN p k.toNat ∧ ∀ c, 0 ≤ c → c < k → preP p k n c = q c := by
  have dy := V.days
  refine up_ind ⟨0, by omega, by show (0 : Int) < 1; omega, fun c a b => by omega⟩ (fun j hj ih => ?_)
  obtain ⟨n, n0, n1, n2⟩ := ih
  have qj := hq j
  refine ⟨n * (pDays p + 1) + q j, ?_, ?_, fun c c0 c1 => ?_⟩
  · have := Int.mul_nonneg n0 (show 0 ≤ pDays p + 1 by omega); omega
  · rw [show (j + 1).toNat = j.toNat + 1 by omega]
    show _ < bwN p j.toNat * (pDays p + 1)
    have m : (n + 1) * (pDays p + 1) ≤ bwN p j.toNat * (pDays p + 1) := Int.mul_le_mul_of_nonneg_right (by omega) (by omega)
    rw [Int.add_mul] at m
    omega
  · rw [preP_s V hj qj.1 qj.2]
    by_cases w : c = j
    · rw [w, updI_s]
    · rw [updI_n w]; exact n2 c c0 (by omega)
theorem ct_s (f : Int → Bool) {k : Int} (h : 0 ≤ k) : ctI f (k + 1) = ctI f k + b2i (f k) := sumI_s _ h
theorem ct_mono (f : Int → Bool) {a : Int} (a0 : 0 ≤ a) : ∀ j : Int, 0 ≤ j → ctI f a ≤ ctI f (a + j) := by
  refine up_ind (by rw [Int.add_zero]; omega) (fun j hj ih => ?_)
  rw [← Int.add_assoc, ct_s f (by omega)]
  rcases b2i_01 (f (a + j)) with z | z <;> omega
theorem ct_two {f : Int → Bool} {i j k : Int} (i0 : 0 ≤ i) (ij : i < j) (jk : j < k) (fi : f i = true) (fj : f j = true) : 2 ≤ ctI f k := by
  have a := ct_s f i0
  have b := ct_s f (show 0 ≤ j by omega)
  have m1 := ct_mono f (show 0 ≤ i + 1 by omega) (j - (i + 1)) (by omega)
  have m2 := ct_mono f (show 0 ≤ j + 1 by omega) (k - (j + 1)) (by omega)
  rw [show i + 1 + (j - (i + 1)) = j by omega] at m1
  rw [show j + 1 + (k - (j + 1)) = k by omega] at m2
  have c0 := (ctB f i0).1
  rw [fi] at a
  rw [fj] at b
  have : b2i true = 1 := rfl
  omega
theorem ct_one {f : Int → Bool} : ∀ k : Int, 0 ≤ k → (∀ i j, 0 ≤ i → i < k → 0 ≤ j → j < k → f i = true → f j = true → i = j) → ctI f k ≤ 1 := by
  refine up_ind (fun _ => by show (0 : Int) ≤ 1; omega) (fun k hk ih h => ?_)
  rw [ct_s f hk]
  cases c : f k
  · have := ih (fun i j a b d e => h i j a (by omega) d (by omega))
    show _ + (0 : Int) ≤ 1
    omega
  · have z : ctI f k = 0 := sumI_zero (fun j j0 j1 => by
      show b2i (f j) = 0
      rw [b2i_0]
      cases cj : f j
      · rfl
      · have := h j k j0 (by omega) hk (by omega) cj c; omega)
    show _ + (1 : Int) ≤ 1
    omega
def lsN (f : Int → Bool) : Nat → Int
  | 0 => -1
  | n + 1 => if f n then (n : Int) else lsN f n
def lsI (f : Int → Bool) (k : Int) : Int := lsN f k.toNat
theorem lsI_s (f : Int → Bool) {k : Int} (h : 0 ≤ k) : lsI f (k + 1) = if f k then k else lsI f k := by
  unfold lsI
  rw [show (k + 1).toNat = k.toNat + 1 by omega]
  show (if f (k.toNat : Int) then (k.toNat : Int) else lsN f k.toNat) = _
  rw [Int.toNat_of_nonneg h]
theorem lsI_is {f : Int → Bool} : ∀ k : Int, 0 ≤ k → (lsI f k = -1 ∧ ∀ j, 0 ≤ j → j < k → f j = false) ∨ ((0 ≤ lsI f k ∧ lsI f k < k) ∧ f (lsI f k) = true) := by
  refine up_ind (Or.inl ⟨rfl, fun j a b => by omega⟩) (fun k hk ih => ?_)
  rw [lsI_s f hk]
  cases c : f k
  · rw [if_neg (by decide)]
    rcases ih with z | z
    · refine Or.inl ⟨z.1, fun j a b => ?_⟩
      by_cases w : j = k
      · rw [w]; exact c
      · exact z.2 j a (by omega)
    · exact Or.inr ⟨⟨z.1.1, by omega⟩, z.2⟩
  · rw [if_pos rfl]
    exact Or.inr ⟨⟨hk, by omega⟩, c⟩
theorem slI_c {f : Int → Int} {L : Int} : ∀ k : Int, 0 ≤ k → ((slI (fun _ => true) f L k).1 = -1 ∧ (slI (fun _ => true) f L k).2 = L ∧ ∀ j, 0 ≤ j → j < k → L ≤ f j) ∨ ((0 ≤ (slI (fun _ => true) f L k).1 ∧ (slI (fun _ => true) f L k).1 < k) ∧ (slI (fun _ => true) f L k).2 = f (slI (fun _ => true) f L k).1 ∧ f (slI (fun _ => true) f L k).1 < L ∧ (∀ j, 0 ≤ j → j < k → f (slI (fun _ => true) f L k).1 ≤ f j) ∧ ∀ j, 0 ≤ j → j < (slI (fun _ => true) f L k).1 → f (slI (fun _ => true) f L k).1 < f j) := by
  refine up_ind (Or.inl ⟨rfl, rfl, fun j a b => by omega⟩) (fun k hk ih => ?_)
  rw [slI_s _ _ _ hk]
  by_cases c : f k < (slI (fun _ => true) f L k).2
  · rw [if_pos ⟨rfl, c⟩]
    rcases ih with ⟨z1, z2, z3⟩ | ⟨z1, z2, z3, z4, z5⟩
    · refine Or.inr ⟨⟨hk, by show k < k + 1; omega⟩, rfl, by show f k < L; omega, fun j a b => ?_, fun j a b => ?_⟩
      · show f k ≤ f j
        by_cases w : j = k
        · rw [w]; omega
        · have := z3 j a (by omega); omega
      · show f k < f j
        have b : j < k := b
        have := z3 j a b; omega
    · refine Or.inr ⟨⟨hk, by show k < k + 1; omega⟩, rfl, by show f k < L; omega, fun j a b => ?_, fun j a b => ?_⟩
      · show f k ≤ f j
        by_cases w : j = k
        · rw [w]; omega
        · have := z4 j a (by omega); omega
      · show f k < f j
        have b : j < k := b
        have := z4 j a b; omega
  · rw [if_neg (fun w => c w.2)]
    rcases ih with ⟨z1, z2, z3⟩ | ⟨z1, z2, z3, z4, z5⟩
    · refine Or.inl ⟨z1, z2, fun j a b => ?_⟩
      by_cases w : j = k
      · rw [w]; omega
      · exact z3 j a (by omega)
    · refine Or.inr ⟨⟨z1.1, by omega⟩, z2, z3, fun j a b => ?_, z5⟩
      by_cases w : j = k
      · rw [w]; omega
      · exact z4 j a (by omega)
theorem mnI_at {f : Int → Int} : ∀ k : Int, 0 ≤ k → mnI f k = 2147483647 ∨ ∃ j, 0 ≤ j ∧ j < k ∧ mnI f k = f j := by
  refine up_ind (Or.inl rfl) (fun k hk ih => ?_)
  rw [mnI_s f hk]
  by_cases c : f k < mnI f k
  · exact Or.inr ⟨k, hk, by omega, by omega⟩
  · rcases ih with z | ⟨j, j0, j1, j2⟩
    · exact Or.inl (by omega)
    · exact Or.inr ⟨j, j0, by omega, by omega⟩
/-- plan i pays on one day at most, and is lawful -/
def btS (p : Pb) (i : Int) : Prop := ctI (usedP p (preP p (pNb p) i)) (pDays p) ≤ 1 ∧ lawP p (preP p (pNb p) i) = true
def btD (p : Pb) (i : Int) : Int := lsI (usedP p (preP p (pNb p) i)) (pDays p)
def btI (p : Pb) (n T x : Int) : Prop := (∀ i, 0 ≤ i → i < n → btS p i → T ≤ totN p i) ∧ (T = 100000000 ∨ ∃ i, 0 ≤ i ∧ i < n ∧ btS p i ∧ totN p i = T) ∧ (x = -1 → ∀ i, 0 ≤ i → i < n → btS p i → totN p i = T → btD p i = -1) ∧ (x ≠ -1 → (∃ i, 0 ≤ i ∧ i < n ∧ btS p i ∧ totN p i = T ∧ btD p i = x) ∧ ∀ i, 0 ≤ i → i < n → btS p i → totN p i = T → btD p i ≠ -1 → x ≤ btD p i)
theorem bt_keep {p : Pb} {n T x : Int} (n0 : 0 ≤ n) (h : btI p n T x) (hn : btS p n → T ≤ totN p n ∧ (totN p n = T → btD p n ≠ -1 → x ≠ -1 ∧ x ≤ btD p n)) : btI p (n + 1) T x := by
  obtain ⟨h1, h2, h3, h4⟩ := h
  refine ⟨fun i i0 i1 s => ?_, ?_, fun hx i i0 i1 s t => ?_, fun hx => ⟨?_, fun i i0 i1 s t dn => ?_⟩⟩
  · by_cases w : i = n
    · subst w; exact (hn s).1
    · exact h1 i i0 (by omega) s
  · rcases h2 with z | ⟨i, i0, i1, i2, i3⟩
    · exact Or.inl z
    · exact Or.inr ⟨i, i0, by omega, i2, i3⟩
  · by_cases w : i = n
    · subst w
      by_cases u : btD p i = -1
      · exact u
      · exact absurd hx ((hn s).2 t u).1
    · exact h3 hx i i0 (by omega) s t
  · obtain ⟨i, i0, i1, i2⟩ := (h4 hx).1
    exact ⟨i, i0, by omega, i2⟩
  · by_cases w : i = n
    · subst w; exact ((hn s).2 t dn).2
    · exact (h4 hx).2 i i0 (by omega) s t dn
theorem bt_less {p : Pb} {n T x : Int} (n0 : 0 ≤ n) (h : btI p n T x) (s : btS p n) (ht : totN p n < T) : btI p (n + 1) (totN p n) (btD p n) := by
  obtain ⟨h1, h2, h3, h4⟩ := h
  have old : ∀ i, 0 ≤ i → i < n + 1 → btS p i → totN p i = totN p n → i = n := fun i i0 i1 si t => Decidable.byContradiction (fun w => by have := h1 i i0 (by omega) si; omega)
  refine ⟨fun i i0 i1 si => ?_, Or.inr ⟨n, n0, by omega, s, rfl⟩, fun hx i i0 i1 si t => by rw [old i i0 i1 si t]; exact hx, fun hx => ⟨⟨n, n0, by omega, s, rfl, rfl⟩, fun i i0 i1 si t dn => by rw [old i i0 i1 si t]; omega⟩⟩
  by_cases w : i = n
  · rw [w]; omega
  · have := h1 i i0 (by omega) si; omega
theorem bt_same {p : Pb} {n T x : Int} (n0 : 0 ≤ n) (h : btI p n T x) (s : btS p n) (ht : totN p n = T) (hd : btD p n ≠ -1) (hx : x = -1 ∨ btD p n < x) : btI p (n + 1) T (btD p n) := by
  obtain ⟨h1, h2, h3, h4⟩ := h
  refine ⟨fun i i0 i1 si => ?_, Or.inr ⟨n, n0, by omega, s, ht⟩, fun z => absurd z hd, fun _ => ⟨⟨n, n0, by omega, s, ht, rfl⟩, fun i i0 i1 si t dn => ?_⟩⟩
  · by_cases w : i = n
    · rw [w]; omega
    · exact h1 i i0 (by omega) si
  · by_cases w : i = n
    · rw [w]; omega
    · by_cases u : x = -1
      · exact absurd (h3 u i i0 (by omega) si t) dn
      · have := (h4 u).2 i i0 (by omega) si t dn
        rcases hx with z | z
        · exact absurd z u
        · omega
section Bt
variable {p : Pb} (V : PV p) (hin : ∀ b, 0 ≤ b → b < pNb p → pIn p b = true)
theorem bt_idle {p : Pb} (V : PV p) : ∃ i, 0 ≤ i ∧ i < bwN p (pNb p).toNat ∧ btS p i ∧ totN p i = totalP p (fun _ => pDays p) ∧ btD p i = -1 := by
  have dy := V.days
  have bp := bw_pos V (pNb p).toNat
  refine ⟨bwN p (pNb p).toNat - 1, by omega, by omega, ?_⟩
  have e : preP p (pNb p) (bwN p (pNb p).toNat - 1) = fun _ => pDays p := pre_last V _
  have u : ∀ j, 0 ≤ j → j < pDays p → usedP p (fun _ => pDays p) j = false := fun j j0 j1 => used_none (by omega)
  unfold btS totN btD
  rw [e]
  refine ⟨⟨ct_one _ (by omega) (fun i j i0 i1 j0 j1 a b => by rw [u i i0 i1] at a; cases a), law_none p⟩, rfl, ?_⟩
  rcases lsI_is (f := usedP p (fun _ => pDays p)) (pDays p) (by omega) with z | z
  · exact z.1
  · rw [u _ z.1.1 z.1.2] at z; cases z.2
theorem bt_set {p : Pb} (V : PV p) (hin : ∀ b, 0 ≤ b → b < pNb p → pIn p b = true) {x : Int} (x0 : 0 ≤ x) (x1 : x < pDays p) (h : loP p x ≠ 2147483647) : ∃ i, 0 ≤ i ∧ i < bwN p (pNb p).toNat ∧ btS p i ∧ totN p i = loP p x ∧ btD p i = x := by
  have dy := V.days
  have nb := V.nb
  have ar := all_rng (k := pNb p) nb.1 (by omega)
  rcases mnI_at (f := loT p x) (zShl 1 (pNb p)) (by omega) with z | ⟨k, k0, k1, k2⟩
  · exact absurd z h
  · have k2 : loP p x = loT p x k := k2
    unfold loT at k2
    split at k2
    · rename_i c
      obtain ⟨i, i0, i1, i2⟩ := pre_surj V (q := stQ p k x (pNb p)) (fun b => stQ_rng V x0 x1 b) (pNb p) nb.1
      have us : ∀ j, 0 ≤ j → j < pDays p → usedP p (preP p (pNb p) i) j = true → j = x := fun j j0 j1 hu => by
        rw [used_cg i2] at hu
        obtain ⟨b, b0, b1, b2⟩ := (used_iff hin).mp hu
        unfold stQ at b2
        split at b2 <;> omega
      have hb : ∃ b, 0 ≤ b ∧ b < pNb p ∧ bitB k b = true := Classical.byContradiction (fun w => by
        have z : k = 0 := bit_ext k0 (by omega) (by omega) (by omega) (fun c c0 c1 => by
          rw [bit0 c0 c1]
          by_cases cb : c < pNb p
          · cases hh : bitB k c
            · rfl
            · exact absurd ⟨c, c0, cb, hh⟩ w
          · have hp : zShl 1 (pNb p) = 2 ^ (pNb p).toNat := by
              obtain ⟨m, hm⟩ := Int.eq_ofNat_of_zero_le nb.1
              rw [hm, zShl_nat (by omega), Int.toNat_natCast, Int.natCast_pow]
              rfl
            rw [hp] at k1
            by_cases c30 : c < 30
            · exact bit_hi nb.1 (by omega) k0 k1 (by omega) c30
            · obtain ⟨m, hm⟩ := Int.eq_ofNat_of_zero_le k0
              obtain ⟨t, ht⟩ := Int.eq_ofNat_of_zero_le c0
              subst hm ht
              rw [bitB_nat (by omega) (by omega)]
              exact Nat.testBit_lt_two_pow (Nat.lt_of_lt_of_le (show m < 2 ^ 30 by omega) (Nat.pow_le_pow_right (by decide) (by omega))))
        omega)
      have ux : usedP p (preP p (pNb p) i) x = true := by
        rw [used_cg i2]
        obtain ⟨b, b0, b1, b2⟩ := hb
        refine (used_iff hin).mpr ⟨b, b0, b1, ?_⟩
        unfold stQ
        rw [if_pos ⟨b0, b1, b2⟩]
      refine ⟨i, i0, i1, ⟨ct_one _ (by omega) (fun a b a0 a1 b0 b1 c d => (us a a0 a1 c).trans (us b b0 b1 d).symm), by rw [law_cg i2]; exact c.2⟩, by unfold totN; rw [total_cg i2, k2], ?_⟩
      unfold btD
      rcases lsI_is (f := usedP p (preP p (pNb p) i)) (pDays p) (by omega) with z | z
      · rw [z.2 x x0 x1] at ux; cases ux
      · exact us _ z.1.1 z.1.2 z.2
    · exact absurd k2 h
theorem bt_cls {p : Pb} (V : PV p) (hin : ∀ b, 0 ≤ b → b < pNb p → pIn p b = true) {i : Int} (s : btS p i) : (btD p i = -1 ∧ totN p i = totalP p (fun _ => pDays p)) ∨ ((0 ≤ btD p i ∧ btD p i < pDays p) ∧ loP p (btD p i) ≤ totN p i) := by
  have dy := V.days
  have nb := V.nb
  have rg := preP_rng V (pNb p) i
  rcases lsI_is (f := usedP p (preP p (pNb p) i)) (pDays p) (by omega) with z | z
  · left
    refine ⟨z.1, ?_⟩
    unfold totN
    refine total_cg (fun b b0 b1 => ?_)
    have r := rg b
    by_cases w : preP p (pNb p) i b < pDays p
    · have := z.2 _ r.1 w
      rw [(used_iff hin).mpr ⟨b, b0, b1, rfl⟩] at this; cases this
    · omega
  · right
    refine ⟨z.1, ?_⟩
    have hx : lsI (usedP p (preP p (pNb p) i)) (pDays p) = btD p i := rfl
    rw [hx] at z
    have one : ∀ b, 0 ≤ b → b < pNb p → preP p (pNb p) i b < pDays p → preP p (pNb p) i b = btD p i := fun b b0 b1 w => Decidable.byContradiction (fun ne => by
      have u := (used_iff (q := preP p (pNb p) i) hin).mpr ⟨b, b0, b1, rfl⟩
      have r := rg b
      have t : 2 ≤ ctI (usedP p (preP p (pNb p) i)) (pDays p) := by
        rcases Int.lt_or_gt_of_ne ne with y | y
        · exact ct_two r.1 y z.1.2 u z.2
        · exact ct_two z.1.1 y w z.2 u
      have := s.1
      omega)
    have kb := bitsI_rng (f := fun b => decide (preP p (pNb p) i b = btD p i)) nb.1 (show pNb p ≤ 30 by omega)
    have kk : ∀ b, 0 ≤ b → b < pNb p → bitB (bitsI (fun b => decide (preP p (pNb p) i b = btD p i)) (pNb p)) b = decide (preP p (pNb p) i b = btD p i) := fun b b0 b1 => by rw [bitsI_bit nb.1 (by omega) b0 (by omega), decide_eq_true b1, Bool.true_and]
    obtain ⟨k, hk⟩ : ∃ k, k = bitsI (fun b => decide (preP p (pNb p) i b = btD p i)) (pNb p) := ⟨_, rfl⟩
    rw [← hk] at kb kk
    have e : ∀ b, 0 ≤ b → b < pNb p → preP p (pNb p) i b = stQ p k (btD p i) (pNb p) b := fun b b0 b1 => by
      unfold stQ
      by_cases w : preP p (pNb p) i b = btD p i
      · rw [if_pos ⟨b0, b1, by rw [kk b b0 b1]; exact decide_eq_true w⟩, w]
      · rw [if_neg (fun y => by rw [kk b b0 b1] at y; exact w (of_decide_eq_true y.2.2))]
        have r := rg b
        by_cases v : preP p (pNb p) i b < pDays p
        · exact absurd (one b b0 b1 v) w
        · omega
    have k1 : 1 ≤ k := by
      obtain ⟨b, b0, b1, b2⟩ := (used_iff hin).mp z.2
      have t := kk b b0 b1
      rw [decide_eq_true b2] at t
      rcases Int.lt_or_eq_of_le kb.1 with y | y
      · omega
      · rw [← y, bit0 b0 (by omega)] at t; cases t
    have hp : zShl 1 (pNb p) = 2 ^ (pNb p).toNat := by
      obtain ⟨m, hm⟩ := Int.eq_ofNat_of_zero_le nb.1
      rw [hm, zShl_nat (by omega), Int.toNat_natCast, Int.natCast_pow]
      rfl
    have le : loP p (btD p i) ≤ loT p (btD p i) k := mnI_le kb.1 (by rw [hp]; exact kb.2)
    have lt : loT p (btD p i) k = totN p i := by
      unfold loT totN
      rw [if_pos ⟨k1, by rw [← law_cg e]; exact s.2⟩, total_cg e]
    omega
end Bt
theorem bt_end {p : Pb} (V : PV p) (hin : ∀ b, 0 ≤ b → b < pNb p → pIn p b = true) {T x : Int} (h : btI p (bwN p (pNb p).toNat) T x) : T = min (totalP p (fun _ => pDays p)) (mnI (loP p) (pDays p)) ∧ x = (slI (fun _ => true) (loP p) (totalP p (fun _ => pDays p) + 1) (pDays p)).1 := by
  have dy := V.days
  have tb := totB V (q := fun _ => pDays p) (fun c => ⟨by show 0 ≤ pDays p; omega, Int.le_refl _⟩)
  obtain ⟨h1, h2, h3, h4⟩ := h
  obtain ⟨i, i0, i1, i2, i3, i4⟩ := bt_idle V
  have t1 : T ≤ totalP p (fun _ => pDays p) := by have := h1 i i0 i1 i2; omega
  have t2 : ∀ y, 0 ≤ y → y < pDays p → T ≤ loP p y := fun y y0 y1 => by
    by_cases c : loP p y = 2147483647
    · omega
    · obtain ⟨j, j0, j1, j2, j3, j4⟩ := bt_set V hin y0 y1 c
      have := h1 j j0 j1 j2; omega
  obtain ⟨j, j0, j1, j2, j3⟩ := h2.resolve_left (by omega)
  have cj := bt_cls V hin j2
  have tm : T = min (totalP p (fun _ => pDays p)) (mnI (loP p) (pDays p)) := by
    have lo : T ≤ mnI (loP p) (pDays p) := by
      rcases mnI_at (f := loP p) (pDays p) (by omega) with z | ⟨y, y0, y1, y2⟩
      · omega
      · have := t2 y y0 y1; omega
    rcases cj with z | z
    · omega
    · have := mnI_le (f := loP p) z.1.1 z.1.2
      omega
  refine ⟨tm, ?_⟩
  rcases slI_c (f := loP p) (L := totalP p (fun _ => pDays p) + 1) (pDays p) (by omega) with ⟨z1, _, z3⟩ | ⟨z1, z2, z3, z4, z5⟩
  · rw [z1]
    refine Decidable.byContradiction (fun w => ?_)
    obtain ⟨k, k0, k1, k2, k3, k4⟩ := (h4 w).1
    rcases bt_cls V hin k2 with y | y
    · omega
    · have := z3 _ y.1.1 y.1.2; omega
  · obtain ⟨w, hw⟩ : ∃ w, w = (slI (fun _ => true) (loP p) (totalP p (fun _ => pDays p) + 1) (pDays p)).1 := ⟨_, rfl⟩
    rw [← hw] at z1 z2 z3 z4 z5 ⊢
    obtain ⟨k, k0, k1, k2, k3, k4⟩ := bt_set V hin z1.1 z1.2 (by omega)
    have tw : T = loP p w := by
      have a := t2 w z1.1 z1.2
      rcases cj with y | y
      · omega
      · have := z4 _ y.1.1 y.1.2; omega
    have xn : x ≠ -1 := fun e => by have := h3 e k k0 k1 k2 (by omega); omega
    have xw := (h4 xn).2 k k0 k1 k2 (by omega) (by omega)
    obtain ⟨m, m0, m1, m2, m3, m4⟩ := (h4 xn).1
    rcases bt_cls V hin m2 with y | y
    · omega
    · rw [m4] at y
      rcases Int.lt_or_eq_of_le xw with v | v
      · have := z5 x y.1.1 (by omega); omega
      · omega

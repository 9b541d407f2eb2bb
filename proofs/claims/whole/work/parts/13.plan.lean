/-! SUMS, PLANS, CASH: pure -/
def sumN (f : Int → Int) : Nat → Int
  | 0 => 0
  | n + 1 => sumN f n + f n
def sumI (f : Int → Int) (k : Int) : Int := sumN f k.toNat
theorem sumI_0 (f : Int → Int) {k : Int} (h : k ≤ 0) : sumI f k = 0 := by
  unfold sumI
  rw [show k.toNat = 0 by omega]
  rfl
theorem sumI_s (f : Int → Int) {k : Int} (h : 0 ≤ k) : sumI f (k + 1) = sumI f k + f k := by
  unfold sumI
  rw [show (k + 1).toNat = k.toNat + 1 by omega]
  show sumN f k.toNat + f (k.toNat : Int) = _
  rw [Int.toNat_of_nonneg h]
theorem sumI_p (f : Int → Int) {k : Int} (h : 0 < k) : sumI f k = sumI f (k - 1) + f (k - 1) := by
  have := sumI_s f (k := k - 1) (by omega)
  rw [show k - 1 + 1 = k by omega] at this
  exact this
/-- by steps: what holds at 0 and goes on holds at k -/
theorem up_ind {P : Int → Prop} (h0 : P 0) (hs : ∀ j, 0 ≤ j → P j → P (j + 1)) : ∀ k, 0 ≤ k → P k := by
  intro k hk
  obtain ⟨n, rfl⟩ := Int.eq_ofNat_of_zero_le hk
  induction n with
  | zero => exact h0
  | succ n ih => exact hs n (by omega) (ih (by omega))
theorem sumI_congr {f g : Int → Int} {k : Int} (h : ∀ j, 0 ≤ j → j < k → f j = g j) : sumI f k = sumI g k := by
  by_cases hk : 0 ≤ k
  · have key : ∀ m, 0 ≤ m → m ≤ k → sumI f m = sumI g m := fun m hm => up_ind (P := fun m => m ≤ k → sumI f m = sumI g m) (fun _ => by rw [sumI_0 _ (by omega), sumI_0 _ (by omega)]) (fun j hj ih hk2 => by rw [sumI_s _ hj, sumI_s _ hj, ih (by omega), h j hj (by omega)]) m hm
    exact key k hk (by omega)
  · rw [sumI_0 _ (by omega), sumI_0 _ (by omega)]
theorem sumI_add (f g : Int → Int) (k : Int) : sumI (fun j => f j + g j) k = sumI f k + sumI g k := by
  by_cases hk : 0 ≤ k
  · exact up_ind (P := fun k => sumI (fun j => f j + g j) k = sumI f k + sumI g k) (by rw [sumI_0 _ (by omega), sumI_0 _ (by omega), sumI_0 _ (by omega)]; rfl) (fun j hj ih => by rw [sumI_s _ hj, sumI_s _ hj, sumI_s _ hj, ih]; omega) k hk
  · rw [sumI_0 _ (by omega), sumI_0 _ (by omega), sumI_0 _ (by omega)]; rfl
theorem sumI_zero {f : Int → Int} {k : Int} (h : ∀ j, 0 ≤ j → j < k → f j = 0) : sumI f k = 0 := by
  rw [sumI_congr (g := fun _ => 0) h]
  by_cases hk : 0 ≤ k
  · exact up_ind (P := fun k => sumI (fun _ => 0) k = 0) (sumI_0 _ (by omega)) (fun j hj ih => by rw [sumI_s _ hj, ih]; rfl) k hk
  · exact sumI_0 _ (by omega)
theorem sumI_nn {f : Int → Int} {k : Int} (h : ∀ j, 0 ≤ j → j < k → 0 ≤ f j) : 0 ≤ sumI f k := by
  by_cases hk : 0 ≤ k
  · have key : ∀ m, 0 ≤ m → m ≤ k → 0 ≤ sumI f m := fun m hm => up_ind (P := fun m => m ≤ k → 0 ≤ sumI f m) (fun _ => by rw [sumI_0 _ (by omega)]; omega) (fun j hj ih hk2 => by rw [sumI_s _ hj]; have := ih (by omega); have := h j hj (by omega); omega) m hm
    exact key k hk (by omega)
  · rw [sumI_0 _ (by omega)]; omega
theorem sumI_le {f : Int → Int} {k B : Int} (hk : 0 ≤ k) (h : ∀ j, 0 ≤ j → j < k → f j ≤ B) : sumI f k ≤ B * k := by
  have key : ∀ m, 0 ≤ m → m ≤ k → sumI f m ≤ B * m := fun m hm => up_ind (P := fun m => m ≤ k → sumI f m ≤ B * m) (fun _ => by rw [sumI_0 _ (by omega)]; omega) (fun j hj ih hk2 => by rw [sumI_s _ hj, Int.mul_add]; have := ih (by omega); have := h j hj (by omega); omega) m hm
  exact key k hk (by omega)
theorem sumI_mono {f g : Int → Int} {k : Int} (h : ∀ j, 0 ≤ j → j < k → f j ≤ g j) : sumI f k ≤ sumI g k := by
  have h1 : 0 ≤ sumI (fun j => g j - f j) k := sumI_nn (fun j a b => by have := h j a b; omega)
  have h2 := sumI_add f (fun j => g j - f j) k
  rw [sumI_congr (g := g) (fun j _ _ => by omega)] at h2
  omega
/-- one term of a sum differs -/
theorem sumI_one {f g : Int → Int} {k b : Int} (h0 : 0 ≤ b) (h1 : b < k) (h : ∀ j, 0 ≤ j → j < k → j ≠ b → f j = g j) : sumI f k = sumI g k + (f b - g b) := by
  have key : ∀ m, 0 ≤ m → m ≤ k → sumI f m = sumI g m + (if b < m then f b - g b else 0) := fun m hm => up_ind (P := fun m => m ≤ k → sumI f m = sumI g m + (if b < m then f b - g b else 0)) (fun _ => by rw [sumI_0 _ (by omega), sumI_0 _ (by omega), if_neg (by omega)]; rfl) (fun j hj ih hk2 => by
    rw [sumI_s _ hj, sumI_s _ hj, ih (by omega)]
    by_cases e : j = b
    · subst e; rw [if_neg (by omega), if_pos (by omega)]; omega
    · rw [h j hj (by omega) e]
      by_cases l : b < j
      · rw [if_pos l, if_pos (by omega)]; omega
      · rw [if_neg l, if_neg (by omega)]; omega) m hm
  rw [key k (by omega) (by omega), if_pos h1]
def anyN (f : Int → Bool) : Nat → Bool
  | 0 => false
  | n + 1 => anyN f n || f n
def anyI (f : Int → Bool) (k : Int) : Bool := anyN f k.toNat
theorem anyI_0 (f : Int → Bool) {k : Int} (h : k ≤ 0) : anyI f k = false := by
  unfold anyI
  rw [show k.toNat = 0 by omega]
  rfl
theorem anyI_s (f : Int → Bool) {k : Int} (h : 0 ≤ k) : anyI f (k + 1) = (anyI f k || f k) := by
  unfold anyI
  rw [show (k + 1).toNat = k.toNat + 1 by omega]
  show (anyN f k.toNat || f (k.toNat : Int)) = _
  rw [Int.toNat_of_nonneg h]
theorem anyI_iff {f : Int → Bool} {k : Int} : anyI f k = true ↔ ∃ j, 0 ≤ j ∧ j < k ∧ f j = true := by
  by_cases hk : 0 ≤ k
  · refine up_ind (P := fun k => anyI f k = true ↔ ∃ j, 0 ≤ j ∧ j < k ∧ f j = true) ?_ (fun j hj ih => ?_) k hk
    · rw [anyI_0 _ (by omega)]
      exact ⟨(fun h => by cases h), (fun ⟨j, h1, h2, _⟩ => by omega)⟩
    · rw [anyI_s _ hj, Bool.or_eq_true, ih]
      constructor
      · rintro (⟨i, h1, h2, h3⟩ | h3)
        · exact ⟨i, h1, by omega, h3⟩
        · exact ⟨j, hj, by omega, h3⟩
      · rintro ⟨i, h1, h2, h3⟩
        by_cases e : i = j
        · subst e; exact Or.inr h3
        · exact Or.inl ⟨i, h1, by omega, h3⟩
  · rw [anyI_0 _ (by omega)]
    exact ⟨(fun h => by cases h), (fun ⟨j, h1, h2, _⟩ => by omega)⟩
theorem anyI_f {f : Int → Bool} {k : Int} : anyI f k = false ↔ ∀ j, 0 ≤ j → j < k → f j = false := by
  constructor
  · intro h j h1 h2
    cases e : f j with
    | false => rfl
    | true => rw [anyI_iff.mpr ⟨j, h1, h2, e⟩] at h; cases h
  · intro h
    cases e : anyI f k with
    | false => rfl
    | true =>
      obtain ⟨j, h1, h2, h3⟩ := anyI_iff.mp e
      rw [h j h1 h2] at h3; cases h3
/-! a plan q: the day of each bill, pDays p: not at all -/
def onP (p : Pb) (q : Int → Int) (d b : Int) : Bool := pIn p b && q b == d
def usedP (p : Pb) (q : Int → Int) (d : Int) : Bool := anyI (onP p q d) (pNb p)
def outP (p : Pb) (q : Int → Int) (d : Int) : Int := (if usedP p q d then pFee p else 0) + sumI (fun b => if onP p q d b then priceP p b d else 0) (pNb p)
def cameP (p : Pb) (d : Int) : Int := pCash p + sumI (fun i => if pOn p i ≤ d ∧ pCm p i = true then pAmt p i else 0) (pNl p)
def cashP (p : Pb) (q : Int → Int) (d : Int) : Int := cameP p d - sumI (outP p q) (d + 1)
def goesP (p : Pb) (q : Int → Int) (b d : Int) : Int := priceP p b d + (if usedP p q d then 0 else pFee p)
def updI {α : Type} (f : Int → α) (k : Int) (v : α) : Int → α := fun j => if j = k then v else f j
theorem updI_s {α : Type} (f : Int → α) (k : Int) (v : α) : updI f k v k = v := if_pos rfl
theorem updI_n {α : Type} {f : Int → α} {k j : Int} {v : α} (h : j ≠ k) : updI f k v j = f j := if_neg h
theorem onP_upd {p : Pb} {q : Int → Int} {b c d x : Int} : onP p (updI q b x) d c = if c = b then pIn p b && x == d else onP p q d c := by
  unfold onP updI
  by_cases h : c = b
  · subst h; simp
  · simp [h]
theorem usedP_upd {p : Pb} {q : Int → Int} {b x d : Int} (h0 : 0 ≤ b) (h1 : b < pNb p) (hi : pIn p b = true) (hq : q b ≠ d) : usedP p (updI q b x) d = (usedP p q d || x == d) := by
  have hb : onP p q d b = false := by unfold onP; rw [hi]; simpa using hq
  apply Bool.eq_iff_iff.mpr
  unfold usedP
  rw [Bool.or_eq_true, anyI_iff, anyI_iff]
  constructor
  · rintro ⟨j, a1, a2, a3⟩
    rw [onP_upd] at a3
    by_cases e : j = b
    · rw [if_pos e, hi] at a3; exact Or.inr (by simpa using a3)
    · rw [if_neg e] at a3; exact Or.inl ⟨j, a1, a2, a3⟩
  · rintro (⟨j, a1, a2, a3⟩ | a3)
    · refine ⟨j, a1, a2, ?_⟩
      rw [onP_upd, if_neg (fun e => by rw [e, hb] at a3; cases a3)]
      exact a3
    · refine ⟨b, h0, h1, ?_⟩
      rw [onP_upd, if_pos rfl, hi]
      simpa using a3
/-- paying a bill that isn't paid -/
theorem outP_upd {p : Pb} {q : Int → Int} {b x d : Int} (h0 : 0 ≤ b) (h1 : b < pNb p) (hi : pIn p b = true) (hq : q b ≠ d) : outP p (updI q b x) d = outP p q d + (if x = d then goesP p q b d else 0) := by
  have hb : onP p q d b = false := by unfold onP; rw [hi]; simpa using hq
  unfold outP goesP
  rw [usedP_upd h0 h1 hi hq, sumI_one (g := fun c => if onP p q d c then priceP p c d else 0) h0 h1 (fun j _ _ e => by rw [onP_upd, if_neg e])]
  rw [onP_upd, if_pos rfl, hi, hb]
  by_cases e : x = d
  · subst e
    simp only [BEq.rfl, Bool.or_true, Bool.and_true, if_true]
    cases usedP p q x <;> simp <;> omega
  · have : (x == d) = false := by simpa using e
    simp [this, e]
theorem cashP_upd {p : Pb} {q : Int → Int} {b x e : Int} (h0 : 0 ≤ b) (h1 : b < pNb p) (hi : pIn p b = true) (hq : q b = pDays p) (hx0 : 0 ≤ x) (he : e < pDays p) : cashP p (updI q b x) e = cashP p q e - (if x ≤ e then goesP p q b x else 0) := by
  unfold cashP
  rw [sumI_congr (f := outP p (updI q b x)) (g := fun d => outP p q d + (if x = d then goesP p q b d else 0)) (fun j j0 j1 => outP_upd h0 h1 hi (by omega)), sumI_add]
  by_cases hxe : x ≤ e
  · rw [if_pos hxe, sumI_one (f := fun d => if x = d then goesP p q b d else 0) (g := fun _ => 0) (b := x) (k := e + 1) hx0 (by omega) (fun j _ _ n => if_neg (fun z => n z.symm)), sumI_zero (f := fun _ => (0 : Int)) (fun _ _ _ => rfl)]
    rw [if_pos rfl]
    omega
  · rw [if_neg hxe, sumI_zero (f := fun d => if x = d then goesP p q b d else 0) (fun j _ _ => if_neg (by omega))]
    omega

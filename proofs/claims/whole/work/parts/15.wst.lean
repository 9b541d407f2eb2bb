/-! the plan as Week holds it -/
def b2i (x : Bool) : Int := if x then 1 else 0
theorem b2i_0 {x : Bool} : b2i x = 0 ↔ x = false := by cases x <;> simp [b2i]
theorem b2i_n {x : Bool} : b2i x ≠ 0 ↔ x = true := by cases x <;> simp [b2i]
theorem b2i_01 (x : Bool) : b2i x = 0 ∨ b2i x = 1 := by cases x <;> simp [b2i]
def d2i (c : Prop) [Decidable c] : Int := if c then 1 else 0
theorem d2i_0 {c : Prop} [Decidable c] : d2i c = 0 ↔ ¬ c := by unfold d2i; split <;> simp_all
theorem d2i_n {c : Prop} [Decidable c] : d2i c ≠ 0 ↔ c := by unfold d2i; split <;> simp_all
theorem d2i_t {c : Prop} [Decidable c] (h : c) : d2i c = 1 := if_pos h
theorem d2i_f {c : Prop} [Decidable c] (h : ¬ c) : d2i c = 0 := if_neg h
theorem bitB_t {x k : Int} : bitB x k = true ↔ zAnd (zShr x k) 1 = 1 := by unfold bitB; simp
theorem bitB_f {x k : Int} : bitB x k = false ↔ ¬ zAnd (zShr x k) 1 = 1 := by unfold bitB; simp
def dayC (p : Pb) (q : Int → Int) (b : Int) : Int := if q b < pDays p then q b else -1
def FB (x : Int) (p : Pb) (q : Int → Int) (d : Int) : Prop := 0 ≤ x ∧ x < 32 ∧ ∀ b, 0 ≤ b → b < 5 → bitB x b = (decide (b < pNb p) && onP p q d b)
def PlC (h : zH) (p : Pb) (q : Int → Int) : Prop := (∀ b, 0 ≤ b → b < pNb p → h 28 b = dayC p q b) ∧ ∀ d, 0 ≤ d → d < pDays p → h 30 d = cashP p q d ∧ FB (h 31 d) p q d
theorem PlC.day {h : zH} {p : Pb} {q : Int → Int} (S : PlC h p q) {b : Int} (h0 : 0 ≤ b) (h1 : b < pNb p) : h 28 b = dayC p q b := S.1 b h0 h1
theorem PlC.cash {h : zH} {p : Pb} {q : Int → Int} (S : PlC h p q) {d : Int} (h0 : 0 ≤ d) (h1 : d < pDays p) : h 30 d = cashP p q d := (S.2 d h0 h1).1
theorem PlC.file {h : zH} {p : Pb} {q : Int → Int} (S : PlC h p q) {d : Int} (h0 : 0 ≤ d) (h1 : d < pDays p) : FB (h 31 d) p q d := (S.2 d h0 h1).2
/-- a set of five as a number: by its bits -/
theorem bits0 : ∀ x : Fin 32, (∀ b : Fin 5, bitB (x.val : Int) (b.val : Int) = false) → x.val = 0 := by decide
theorem bitsE : ∀ x y : Fin 32, (∀ b : Fin 5, bitB (x.val : Int) (b.val : Int) = bitB (y.val : Int) (b.val : Int)) → x = y := by decide +kernel
theorem bits_or : ∀ (x : Fin 32) (b : Fin 5), 0 ≤ zOr (x.val : Int) (zShl 1 (b.val : Int)) ∧ zOr (x.val : Int) (zShl 1 (b.val : Int)) < 32 ∧ ∀ c : Fin 5, bitB (zOr (x.val : Int) (zShl 1 (b.val : Int))) (c.val : Int) = (bitB (x.val : Int) (c.val : Int) || c == b) := by decide +kernel
theorem bits_clr : ∀ (x : Fin 32) (b : Fin 5), 0 ≤ zAnd (x.val : Int) (zXor (zShl 1 (b.val : Int)) (-1)) ∧ zAnd (x.val : Int) (zXor (zShl 1 (b.val : Int)) (-1)) < 32 ∧ ∀ c : Fin 5, bitB (zAnd (x.val : Int) (zXor (zShl 1 (b.val : Int)) (-1))) (c.val : Int) = (bitB (x.val : Int) (c.val : Int) && c != b) := by decide +kernel
theorem fin_of {x : Int} {n : Nat} (h0 : 0 ≤ x) (h1 : x < n) : ∃ y : Fin n, x = (y.val : Int) := ⟨⟨x.toNat, by omega⟩, by show x = (x.toNat : Int); omega⟩
theorem or_bit {x b : Int} (h0 : 0 ≤ x) (h1 : x < 32) (b0 : 0 ≤ b) (b1 : b < 5) : (0 ≤ zOr x (zShl 1 b) ∧ zOr x (zShl 1 b) < 32) ∧ ∀ c, 0 ≤ c → c < 5 → bitB (zOr x (zShl 1 b)) c = (bitB x c || decide (c = b)) := by
  obtain ⟨y, rfl⟩ := fin_of h0 h1
  obtain ⟨z, rfl⟩ := fin_of b0 b1
  have := bits_or y z
  refine ⟨⟨this.1, this.2.1⟩, fun c c0 c1 => ?_⟩
  obtain ⟨w, rfl⟩ := fin_of c0 c1
  rw [this.2.2 w]
  congr 1
  by_cases e : w = z
  · subst e; simp
  · have : ¬ (w.val : Int) = z.val := fun q => e (Fin.ext (by omega))
    simp [e, this]
theorem clr_bit {x b : Int} (h0 : 0 ≤ x) (h1 : x < 32) (b0 : 0 ≤ b) (b1 : b < 5) : (0 ≤ zAnd x (zXor (zShl 1 b) (-1)) ∧ zAnd x (zXor (zShl 1 b) (-1)) < 32) ∧ ∀ c, 0 ≤ c → c < 5 → bitB (zAnd x (zXor (zShl 1 b) (-1))) c = (bitB x c && decide (c ≠ b)) := by
  obtain ⟨y, rfl⟩ := fin_of h0 h1
  obtain ⟨z, rfl⟩ := fin_of b0 b1
  have := bits_clr y z
  refine ⟨⟨this.1, this.2.1⟩, fun c c0 c1 => ?_⟩
  obtain ⟨w, rfl⟩ := fin_of c0 c1
  rw [this.2.2 w]
  congr 1
  by_cases e : w = z
  · subst e; simp
  · have : ¬ (w.val : Int) = z.val := fun q => e (Fin.ext (by omega))
    simp [bne, e, this]
theorem bits_eq {x y : Int} (h0 : 0 ≤ x) (h1 : x < 32) (g0 : 0 ≤ y) (g1 : y < 32) (h : ∀ b, 0 ≤ b → b < 5 → bitB x b = bitB y b) : x = y := by
  obtain ⟨a, rfl⟩ := fin_of h0 h1
  obtain ⟨b, rfl⟩ := fin_of g0 g1
  rw [bitsE a b (fun c => h c.val (by omega) (by have := c.isLt; omega))]
theorem bits_zero {b : Int} (h0 : 0 ≤ b) (h1 : b < 5) : bitB 0 b = false := by
  obtain ⟨a, rfl⟩ := fin_of h0 h1
  revert a
  decide
/-- the set is empty where the number is 0 -/
theorem FB.zero {x : Int} {p : Pb} {q : Int → Int} {d : Int} (V : PV p) (h : FB x p q d) : x = 0 ↔ usedP p q d = false := by
  have nb := V.nb
  unfold usedP
  rw [anyI_f]
  constructor
  · rintro rfl j j0 j1
    have := h.2.2 j j0 (by omega)
    rw [bits_zero j0 (by omega), decide_eq_true j1, Bool.true_and] at this
    exact this.symm
  · intro g
    refine bits_eq h.1 h.2.1 (by omega) (by omega) (fun b b0 b1 => ?_)
    rw [h.2.2 b b0 b1, bits_zero b0 b1]
    by_cases e : b < pNb p
    · rw [g b b0 e, Bool.and_false]
    · rw [decide_eq_false e, Bool.false_and]

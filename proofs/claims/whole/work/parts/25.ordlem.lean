/-! CASH THAT COMES; THE ORDER AS A ROW: pure -/
def incP (p : Pb) (x : Int) : Int := sumI (fun i => if pOn p i = x ∧ pCm p i = true then pAmt p i else 0) (pNl p)
theorem incB {p : Pb} (V : PV p) (x : Int) {k : Int} (h0 : 0 ≤ k) (h1 : k ≤ pNl p) : 0 ≤ sumI (fun i => if pOn p i = x ∧ pCm p i = true then pAmt p i else 0) k ∧ sumI (fun i => if pOn p i = x ∧ pCm p i = true then pAmt p i else 0) k ≤ 18000 := by
  have n := V.nl
  have a : 0 ≤ sumI (fun i => if pOn p i = x ∧ pCm p i = true then pAmt p i else 0) k := sumI_nn (fun j j0 j1 => by have := V.amt j0 (show j < pNl p by omega); split <;> omega)
  have b : sumI (fun i => if pOn p i = x ∧ pCm p i = true then pAmt p i else 0) k ≤ 3000 * k := sumI_le h0 (fun j j0 j1 => by have := V.amt j0 (show j < pNl p by omega); split <;> omega)
  omega
theorem came_m {p : Pb} (V : PV p) : cameP p (-1) = pCash p := by
  unfold cameP
  rw [sumI_zero (fun j j0 j1 => if_neg (fun z => by have := V.on' j0 j1; omega))]
  omega
theorem came_s {p : Pb} (d : Int) : cameP p d = cameP p (d - 1) + incP p d := by
  unfold cameP incP
  rw [sumI_congr (f := fun i => if pOn p i ≤ d ∧ pCm p i = true then pAmt p i else 0) (g := fun i => (if pOn p i ≤ d - 1 ∧ pCm p i = true then pAmt p i else 0) + (if pOn p i = d ∧ pCm p i = true then pAmt p i else 0)) (fun j j0 j1 => ?_), sumI_add]
  · omega
  · by_cases c : pCm p j = true
    · by_cases e : pOn p j = d
      · rw [if_pos ⟨by omega, c⟩, if_neg (by omega), if_pos ⟨e, c⟩]; omega
      · by_cases l : pOn p j ≤ d
        · rw [if_pos ⟨l, c⟩, if_pos ⟨by omega, c⟩, if_neg (fun z => e z.1)]; omega
        · rw [if_neg (fun z => l z.1), if_neg (by omega), if_neg (fun z => e z.1)]; omega
    · rw [if_neg (fun z => c z.2), if_neg (fun z => c z.2), if_neg (fun z => c z.2)]; omega
theorem used_none {p : Pb} {d : Int} (h : d ≠ pDays p) : usedP p (fun _ => pDays p) d = false := by
  unfold usedP
  rw [anyI_f]
  intro j _ _
  unfold onP
  have : (pDays p == d) = false := by simpa using fun z => h z.symm
  rw [this, Bool.and_false]
theorem out_none {p : Pb} {d : Int} (h : d ≠ pDays p) : outP p (fun _ => pDays p) d = 0 := by
  unfold outP
  rw [used_none h, sumI_zero (fun j _ _ => ?_)]
  · rfl
  · unfold onP
    have : (pDays p == d) = false := by simpa using fun z => h z.symm
    rw [this, Bool.and_false]; rfl
theorem cash_none {p : Pb} {d : Int} (h : d < pDays p) : cashP p (fun _ => pDays p) d = cameP p d := by
  unfold cashP
  rw [sumI_zero (fun j j0 j1 => out_none (by omega))]
  omega
theorem file_none {p : Pb} {d : Int} (h : d ≠ pDays p) : FB 0 p (fun _ => pDays p) d := by
  refine ⟨by omega, by omega, fun b b0 b1 => ?_⟩
  rw [bits_zero b0 b1]
  unfold onP
  have : (pDays p == d) = false := by simpa using fun z => h z.symm
  rw [this, Bool.and_false, Bool.and_false]
/-- a row holds a list -/
def OrdC (h : zH) (l : List Int) : Prop := h 14 11 = l.length ∧ ∀ i : Nat, i < l.length → h 29 i = l.getD i 0
theorem OrdC.of {h h' : zH} {l : List Int} (O : OrdC h l) (e1 : h' 14 11 = h 14 11) (e2 : ∀ j, h' 29 j = h 29 j) : OrdC h' l := ⟨e1.trans O.1, fun i hi => (e2 i).trans (O.2 i hi)⟩
theorem ins_take {p : Pb} {b : Int} : ∀ {l : List Int} {t : Nat}, t ≤ l.length → (∀ i, i < t → ahP p b (l.getD i 0) = false) → (t < l.length → ahP p b (l.getD t 0) = true) → insP p b l = l.take t ++ b :: l.drop t
  | [], t, h, _, _ => by
    have : t = 0 := by simpa using h
    subst this
    rfl
  | a :: l, 0, _, _, h2 => by
    have := h2 (by simp)
    unfold insP
    rw [if_pos (by simpa using this)]
    rfl
  | a :: l, t + 1, h, h1, h2 => by
    unfold insP
    have h0 := h1 0 (by omega)
    rw [if_neg (by rw [show (a :: l).getD 0 0 = a from rfl] at h0; rw [h0]; decide)]
    have := ins_take (p := p) (b := b) (l := l) (t := t) (by simpa using h) (fun i hi => by have := h1 (i + 1) (by omega); simpa using this) (fun ht => by have := h2 (by simpa using ht); simpa using this)
    rw [this]
    rfl
/-- in a list in order: what b comes ahead of, it comes ahead of all behind it, too -/
theorem ah_mono {p : Pb} (V : PV p) {b : Int} (hb : bl p b) {l : List Int} (hs : l.Pairwise (ltP p)) (hl : ∀ a ∈ l, bl p a) {i j : Nat} (hij : i ≤ j) (hj : j < l.length) (h : ahP p b (l.getD i 0) = true) : ahP p b (l.getD j 0) = true := by
  by_cases e : i = j
  · subst e; exact h
  · have hi : i < l.length := by omega
    rw [List.getD_eq_getElem?_getD, List.getElem?_eq_getElem hi] at h
    rw [List.getD_eq_getElem?_getD, List.getElem?_eq_getElem hj]
    simp only [Option.getD_some] at h ⊢
    have lt := List.pairwise_iff_getElem.mp hs i j hi hj (by omega)
    have hn : ahP p l[j] l[i] = false := by
      rcases lt with z | z
      · exact ah_as z
      · exact z.1
    cases c : ahP p b l[j] with
    | true => rfl
    | false =>
      have := ah_nt V (hl _ (List.getElem_mem hi)) (hl _ (List.getElem_mem hj)) hb hn c
      rw [this] at h; cases h
theorem planQ_app {p : Pb} {b : Int} : ∀ {l : List Int} {q : Int → Int}, planQ p (l ++ [b]) q = updI (planQ p l q) b (bestP p (planQ p l q) b)
  | [], _ => rfl
  | a :: l, q => by
    show planQ p (l ++ [b]) (updI q a (bestP p q a)) = _
    rw [planQ_app]
    rfl
theorem planQ_not {p : Pb} {b : Int} : ∀ {l : List Int} {q : Int → Int}, b ∉ l → planQ p l q b = q b
  | [], _, _ => rfl
  | a :: l, q, h => by
    show planQ p l (updI q a (bestP p q a)) b = _
    rw [planQ_not (fun z => h (List.mem_cons_of_mem _ z)), updI_n (fun z => h (by rw [z]; exact List.mem_cons_self))]
noncomputable def missQ (p : Pb) : List Int → (Int → Int) → Int → Int
  | [], _, m => m
  | b :: l, q, m => missQ p l (updI q b (bestP p q b)) (msI p q b m 0)
noncomputable def missP (p : Pb) : Int := missQ p (ordP p) (fun _ => pDays p) 0
theorem missQ_app {p : Pb} {b : Int} : ∀ {l : List Int} {q : Int → Int} {m : Int}, missQ p (l ++ [b]) q m = msI p (planQ p l q) b (missQ p l q m) 0
  | [], _, _ => rfl
  | a :: l, q, m => by
    show missQ p (l ++ [b]) (updI q a (bestP p q a)) (msI p q a m 0) = _
    rw [missQ_app]
    rfl
theorem missQ_rng {p : Pb} (V : PV p) : ∀ {l : List Int} {q : Int → Int} {m : Int}, (∀ b ∈ l, bl p b) → 0 ≤ m ∧ m ≤ 300000 → 0 ≤ missQ p l q m ∧ missQ p l q m ≤ 300000
  | [], _, _, _, h => h
  | a :: l, q, m, hl, h => by
    show 0 ≤ missQ p l (updI q a (bestP p q a)) (msI p q a m 0) ∧ missQ p l (updI q a (bestP p q a)) (msI p q a m 0) ≤ 300000
    exact missQ_rng V (fun b hb => hl b (List.mem_cons_of_mem _ hb)) (msB V q (hl a List.mem_cons_self).1 (hl a List.mem_cons_self).2 h (Int.le_refl 0) (by have := V.days; omega))
theorem planP_in {p : Pb} (V : PV p) {b : Int} (h0 : 0 ≤ b) (h1 : b < pNb p) (hi : pIn p b = false) : planP p b = pDays p :=
  planQ_not (fun z => by have := ((ordP_is V).2 b).mp z; rw [hi] at this; exact absurd this.2.2 (by decide))
theorem updI_id {α : Type} (f : Int → α) (k : Int) : updI f k (f k) = f := by
  funext j
  unfold updI
  split
  · rename_i e; rw [e]
  · rfl

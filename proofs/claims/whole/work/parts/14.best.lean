/-! THE BEST DAY, THE ORDER, THE PLAN BY LAW: pure -/
def bestR (C : Int → Prop) (g : Int → Int) (N lo hi x : Int) : Prop :=
  (x = N ∧ ∀ d, lo ≤ d → d < hi → ¬ C d) ∨ (lo ≤ x ∧ x < hi ∧ C x ∧ (∀ d, lo ≤ d → d < hi → C d → g x ≤ g d) ∧ ∀ d, lo ≤ d → d < x → C d → g x < g d)
section Best
variable {C : Int → Prop} {g : Int → Int} {N lo hi x y : Int}
theorem bestR_nil (h : hi ≤ lo) : bestR C g N lo hi N := Or.inl ⟨rfl, fun d h1 h2 => by omega⟩
theorem bestR_fwd_no (h : bestR C g N lo hi x) (hl : lo ≤ hi) (hn : ¬ C hi ∨ (x ≠ N ∧ g x ≤ g hi)) (hN : ∀ d, lo ≤ d → d < hi → d ≠ N) : bestR C g N lo (hi + 1) x := by
  rcases h with ⟨h1, h2⟩ | ⟨h1, h2, h3, h4, h5⟩
  · refine Or.inl ⟨h1, fun d a b c => ?_⟩
    by_cases e : d = hi
    · subst e
      rcases hn with n | n
      · exact n c
      · exact n.1 h1
    · exact h2 d a (by omega) c
  · refine Or.inr ⟨h1, by omega, h3, fun d a b c => ?_, h5⟩
    by_cases e : d = hi
    · subst e
      rcases hn with n | n
      · exact absurd c n
      · exact n.2
    · exact h4 d a (by omega) c
theorem bestR_fwd_yes (h : bestR C g N lo hi x) (hl : lo ≤ hi) (hc : C hi) (hn : x = N ∨ g hi < g x) (hN : ∀ d, lo ≤ d → d < hi → d ≠ N) : bestR C g N lo (hi + 1) hi := by
  rcases h with ⟨h1, h2⟩ | ⟨h1, h2, h3, h4, h5⟩
  · refine Or.inr ⟨hl, by omega, hc, fun d a b c => ?_, fun d a b c => absurd c (h2 d a b)⟩
    by_cases e : d = hi
    · subst e; omega
    · exact absurd c (h2 d a (by omega))
  · have hx : g hi < g x := hn.resolve_left (hN x h1 h2)
    refine Or.inr ⟨hl, by omega, hc, fun d a b c => ?_, fun d a b c => ?_⟩
    · by_cases e : d = hi
      · subst e; omega
      · have := h4 d a (by omega) c; omega
    · have := h4 d a (by omega) c; omega
theorem bestR_bwd_no (h : bestR C g N lo hi x) (hl : lo ≤ hi) (hn : ¬ C (lo - 1) ∨ (x ≠ N ∧ g x < g (lo - 1))) : bestR C g N (lo - 1) hi x := by
  rcases h with ⟨h1, h2⟩ | ⟨h1, h2, h3, h4, h5⟩
  · refine Or.inl ⟨h1, fun d a b c => ?_⟩
    by_cases e : d = lo - 1
    · subst e
      rcases hn with n | n
      · exact n c
      · exact n.1 h1
    · exact h2 d (by omega) b c
  · refine Or.inr ⟨by omega, h2, h3, fun d a b c => ?_, fun d a b c => ?_⟩
    · by_cases e : d = lo - 1
      · subst e
        rcases hn with n | n
        · exact absurd c n
        · have := n.2; omega
      · exact h4 d (by omega) b c
    · by_cases e : d = lo - 1
      · subst e
        rcases hn with n | n
        · exact absurd c n
        · exact n.2
      · exact h5 d (by omega) b c
theorem bestR_bwd_yes (h : bestR C g N lo hi x) (hl : lo ≤ hi) (hc : C (lo - 1)) (hn : x = N ∨ g (lo - 1) ≤ g x) (hN : ∀ d, lo ≤ d → d < hi → d ≠ N) : bestR C g N (lo - 1) hi (lo - 1) := by
  rcases h with ⟨h1, h2⟩ | ⟨h1, h2, h3, h4, h5⟩
  · refine Or.inr ⟨by omega, by omega, hc, fun d a b c => ?_, fun d a b c => by omega⟩
    by_cases e : d = lo - 1
    · subst e; omega
    · exact absurd c (h2 d (by omega) b)
  · have hx : g (lo - 1) ≤ g x := hn.resolve_left (hN x h1 h2)
    refine Or.inr ⟨by omega, by omega, hc, fun d a b c => ?_, fun d a b c => by omega⟩
    by_cases e : d = lo - 1
    · subst e; omega
    · have := h4 d (by omega) b c; omega
theorem bestR_uniq (h : bestR C g N lo hi x) (h' : bestR C g N lo hi y) (hN : ∀ d, lo ≤ d → d < hi → d ≠ N) : x = y := by
  rcases h with ⟨h1, h2⟩ | ⟨h1, h2, h3, h4, h5⟩ <;> rcases h' with ⟨k1, k2⟩ | ⟨k1, k2, k3, k4, k5⟩
  · omega
  · exact absurd k3 (h2 y k1 k2)
  · exact absurd h3 (k2 x h1 h2)
  · have a := h4 y k1 k2 k3
    have b := k4 x h1 h2 h3
    rcases Int.lt_trichotomy x y with q | q | q
    · have := k5 x h1 q h3; omega
    · exact q
    · have := h5 y k1 q k3; omega
theorem bestR_ex (C : Int → Prop) (g : Int → Int) (N : Int) (hi : Int) (hN : hi ≤ N) : ∃ x, bestR C g N 0 hi x := by
  by_cases h0 : 0 ≤ hi
  · refine up_ind (P := fun k => k ≤ N → ∃ x, bestR C g N 0 k x) (fun _ => ⟨N, bestR_nil (by omega)⟩) (fun j hj ih hk => ?_) hi h0 hN
    obtain ⟨x, hx⟩ := ih (by omega)
    by_cases c : C j ∧ (x = N ∨ g j < g x)
    · exact ⟨j, bestR_fwd_yes hx hj c.1 c.2 (fun d _ _ => by omega)⟩
    · refine ⟨x, bestR_fwd_no hx hj ?_ (fun d _ _ => by omega)⟩
      by_cases c1 : C j
      · right
        have c2 : ¬ (x = N ∨ g j < g x) := fun q => c ⟨c1, q⟩
        refine ⟨fun q => c2 (Or.inl q), Int.not_lt.mp (fun q => c2 (Or.inr q))⟩
      · exact Or.inl c1
  · exact ⟨N, bestR_nil (by omega)⟩
end Best
def canP (p : Pb) (q : Int → Int) (b d : Int) : Prop := pCl p d = false ∧ ∀ e, d ≤ e → e < pDays p → pFl p ≤ cashP p q e - goesP p q b d
def isBest (p : Pb) (q : Int → Int) (b x : Int) : Prop := bestR (canP p q b) (goesP p q b) (pDays p) 0 (pDays p) x
theorem isBest_ex (p : Pb) (q : Int → Int) (b : Int) : ∃ x, isBest p q b x := bestR_ex _ _ _ _ (Int.le_refl _)
noncomputable def bestP (p : Pb) (q : Int → Int) (b : Int) : Int := Classical.choose (isBest_ex p q b)
theorem bestP_is (p : Pb) (q : Int → Int) (b : Int) : isBest p q b (bestP p q b) := Classical.choose_spec (isBest_ex p q b)
theorem bestP_eq {p : Pb} {q : Int → Int} {b x : Int} (h : isBest p q b x) : bestP p q b = x := bestR_uniq (bestP_is p q b) h (fun d _ h => by omega)
theorem bestP_rng {p : Pb} (V : PV p) (q : Int → Int) (b : Int) : 0 ≤ bestP p q b ∧ bestP p q b ≤ pDays p := by
  have := V.days
  rcases bestP_is p q b with ⟨h, -⟩ | ⟨h1, h2, -⟩ <;> omega
/-! the order -/
def ahP (p : Pb) (a b : Int) : Bool :=
  if pLaw p = 0 then decide (pRk p b < pRk p a) else if pLaw p = 1 then decide (gainP p b * spanP p a < gainP p a * spanP p b) else if pLaw p = 2 then decide (pDue p a < pDue p b) else decide (pNet p a < pNet p b)
def bl (p : Pb) (b : Int) : Prop := 0 ≤ b ∧ b < pNb p
theorem rat_nt {A B C a b c : Int} (ha : 0 < a) (hb : 0 < b) (hc : 0 < c) (h1 : B * a ≤ A * b) (h2 : C * b ≤ B * c) : C * a ≤ A * c := by
  have e1 : B * a * c ≤ A * b * c := Int.mul_le_mul_of_nonneg_right h1 (by omega)
  have e2 : C * b * a ≤ B * c * a := Int.mul_le_mul_of_nonneg_right h2 (by omega)
  have e3 : B * a * c = B * c * a := by rw [Int.mul_assoc, Int.mul_assoc, Int.mul_comm a c]
  have e4 : C * b * a = C * a * b := by rw [Int.mul_assoc, Int.mul_assoc, Int.mul_comm a b]
  have e5 : A * b * c = A * c * b := by rw [Int.mul_assoc, Int.mul_assoc, Int.mul_comm b c]
  have e6 : C * a * b ≤ A * c * b := by omega
  exact Int.le_of_mul_le_mul_right e6 hb
theorem ah_nt {p : Pb} (V : PV p) {a b c : Int} (ha : bl p a) (hb : bl p b) (hc : bl p c) (h1 : ahP p b a = false) (h2 : ahP p c b = false) : ahP p c a = false := by
  unfold ahP at *
  by_cases l0 : pLaw p = 0
  · simp only [l0, if_true, decide_eq_false_iff_not] at *; omega
  · simp only [l0, if_false] at *
    by_cases l1 : pLaw p = 1
    · simp only [l1, if_true, decide_eq_false_iff_not, Int.not_lt] at *
      exact rat_nt (by have := spanB V ha.1 ha.2; omega) (by have := spanB V hb.1 hb.2; omega) (by have := spanB V hc.1 hc.2; omega) h1 h2
    · simp only [l1, if_false] at *
      by_cases l2 : pLaw p = 2
      · simp only [l2, if_true, decide_eq_false_iff_not] at *; omega
      · simp only [l2, if_false, decide_eq_false_iff_not] at *; omega
theorem ah_as {p : Pb} {a b : Int} (h : ahP p a b = true) : ahP p b a = false := by
  unfold ahP at *
  by_cases l0 : pLaw p = 0
  · simp only [l0, if_true, decide_eq_false_iff_not, decide_eq_true_eq] at *; omega
  · simp only [l0, if_false] at *
    by_cases l1 : pLaw p = 1
    · simp only [l1, if_true, decide_eq_false_iff_not, decide_eq_true_eq] at *; omega
    · simp only [l1, if_false] at *
      by_cases l2 : pLaw p = 2
      · simp only [l2, if_true, decide_eq_false_iff_not, decide_eq_true_eq] at *; omega
      · simp only [l2, if_false, decide_eq_false_iff_not, decide_eq_true_eq] at *; omega
def ltP (p : Pb) (a b : Int) : Prop := ahP p a b = true ∨ (ahP p b a = false ∧ a < b)
theorem ltP_as {p : Pb} {a b : Int} (h : ltP p a b) (h' : ltP p b a) : False := by
  rcases h with h | ⟨h, h2⟩ <;> rcases h' with k | ⟨k, k2⟩
  · rw [ah_as h] at k; cases k
  · rw [h] at k; cases k
  · rw [k] at h; cases h
  · omega
theorem ltP_tr {p : Pb} (V : PV p) {a b c : Int} (ha : bl p a) (hb : bl p b) (hc : bl p c) (h : ltP p a b) (h' : ltP p b c) : ltP p a c := by
  have f : ∀ {x : Bool}, x = true ∨ x = false := fun {x} => by cases x <;> simp
  rcases f (x := ahP p a c) with q | q
  · exact Or.inl q
  · right
    have hba : ahP p b a = false := by rcases h with h | h; exact ah_as h; exact h.1
    have hcb : ahP p c b = false := by rcases h' with h | h; exact ah_as h; exact h.1
    refine ⟨ah_nt V ha hb hc hba hcb, ?_⟩
    have hab : ahP p a b = false := ah_nt V hb hc ha hcb q
    have hbc : ahP p b c = false := ah_nt V hc ha hb q hba
    rcases h with h | h
    · rw [hab] at h; cases h
    · rcases h' with h' | h'
      · rw [hbc] at h'; cases h'
      · have := h.2; have := h'.2; omega
theorem ltP_tot {p : Pb} {a b : Int} (h : a ≠ b) : ltP p a b ∨ ltP p b a := by
  have f : ∀ {x : Bool}, x = true ∨ x = false := fun {x} => by cases x <;> simp
  rcases f (x := ahP p a b) with q | q
  · exact Or.inl (Or.inl q)
  · rcases f (x := ahP p b a) with r | r
    · exact Or.inr (Or.inl r)
    · rcases Int.lt_or_gt_of_ne h with l | l
      · exact Or.inl (Or.inr ⟨r, l⟩)
      · exact Or.inr (Or.inr ⟨q, l⟩)
def isOrd (p : Pb) (l : List Int) : Prop := l.Pairwise (ltP p) ∧ ∀ b, b ∈ l ↔ (0 ≤ b ∧ b < pNb p ∧ pIn p b = true)
theorem sorted_uniq {R : Int → Int → Prop} (has : ∀ a b, R a b → R b a → False) : ∀ {l l' : List Int}, l.Pairwise R → l'.Pairwise R → (∀ b, b ∈ l ↔ b ∈ l') → l = l'
  | [], [], _, _, _ => rfl
  | [], a :: l', _, _, h => absurd ((h a).mpr List.mem_cons_self) List.not_mem_nil
  | a :: l, [], _, _, h => absurd ((h a).mp List.mem_cons_self) List.not_mem_nil
  | a :: l, a' :: l', h1, h2, h => by
    obtain ⟨p1, p2⟩ := List.pairwise_cons.mp h1
    obtain ⟨q1, q2⟩ := List.pairwise_cons.mp h2
    have e : a = a' := by
      rcases List.mem_cons.mp ((h a).mp List.mem_cons_self) with e | e
      · exact e
      · rcases List.mem_cons.mp ((h a').mpr List.mem_cons_self) with f | f
        · exact f.symm
        · exact (has a a' (p1 a' f) (q1 a e)).elim
    subst e
    have hn : a ∉ l := fun m => has a a (p1 a m) (p1 a m)
    have hn' : a ∉ l' := fun m => has a a (q1 a m) (q1 a m)
    rw [sorted_uniq has p2 q2 (fun b => ?_)]
    constructor
    · intro m
      rcases List.mem_cons.mp ((h b).mp (List.mem_cons_of_mem _ m)) with e | e
      · subst e; exact absurd m hn
      · exact e
    · intro m
      rcases List.mem_cons.mp ((h b).mpr (List.mem_cons_of_mem _ m)) with e | e
      · subst e; exact absurd m hn'
      · exact e
theorem isOrd_uniq {p : Pb} {l l' : List Int} (h : isOrd p l) (h' : isOrd p l') : l = l' := sorted_uniq (fun a b => ltP_as) h.1 h'.1 (fun b => (h.2 b).trans (h'.2 b).symm)
/-- insertion: behind the last that isn't behind b, from the end -/
def insP (p : Pb) (b : Int) : List Int → List Int
  | [] => [b]
  | a :: l => if ahP p b a then b :: a :: l else a :: insP p b l
theorem insP_mem {p : Pb} {b c : Int} : ∀ {l : List Int}, c ∈ insP p b l ↔ c = b ∨ c ∈ l
  | [] => by unfold insP; simp
  | a :: l => by
    unfold insP
    split
    · simp
    · rw [List.mem_cons, insP_mem (l := l), List.mem_cons]
      constructor
      · rintro (h | h | h) <;> simp [h]
      · rintro (h | h | h) <;> simp [h]
theorem insP_sorted {p : Pb} (V : PV p) {b : Int} (hb : bl p b) : ∀ {l : List Int}, l.Pairwise (ltP p) → (∀ a ∈ l, bl p a ∧ a < b) → (insP p b l).Pairwise (ltP p)
  | [], _, _ => by unfold insP; simp
  | a :: l, h, hl => by
    obtain ⟨p1, p2⟩ := List.pairwise_cons.mp h
    obtain ⟨⟨ha, hlt⟩, hl⟩ := List.forall_mem_cons.mp hl
    unfold insP
    split
    · rename_i c
      refine List.pairwise_cons.mpr ⟨fun x hx => ?_, h⟩
      rcases List.mem_cons.mp hx with rfl | hx
      · exact Or.inl c
      · exact ltP_tr V hb ha (hl x hx).1 (Or.inl c) (p1 x hx)
    · rename_i c
      refine List.pairwise_cons.mpr ⟨fun x hx => ?_, insP_sorted V hb p2 hl⟩
      rcases insP_mem.mp hx with rfl | hx
      · exact Or.inr ⟨by simpa using c, hlt⟩
      · exact p1 x hx
/-- the order of the first k bills -/
def ordN (p : Pb) : Nat → List Int
  | 0 => []
  | n + 1 => if pIn p n then insP p n (ordN p n) else ordN p n
def ordP (p : Pb) : List Int := ordN p (pNb p).toNat
theorem ordN_mem {p : Pb} {b : Int} : ∀ {n : Nat}, b ∈ ordN p n ↔ (0 ≤ b ∧ b < n ∧ pIn p b = true)
  | 0 => by unfold ordN; exact ⟨fun h => absurd h List.not_mem_nil, fun ⟨h1, h2, _⟩ => by omega⟩
  | n + 1 => by
    unfold ordN
    split
    · rename_i c
      rw [insP_mem, ordN_mem (n := n)]
      constructor
      · rintro (rfl | ⟨h1, h2, h3⟩)
        · exact ⟨by omega, by omega, c⟩
        · exact ⟨h1, by omega, h3⟩
      · rintro ⟨h1, h2, h3⟩
        by_cases e : b = n
        · exact Or.inl e
        · exact Or.inr ⟨h1, by omega, h3⟩
    · rename_i c
      rw [ordN_mem (n := n)]
      constructor
      · rintro ⟨h1, h2, h3⟩; exact ⟨h1, by omega, h3⟩
      · rintro ⟨h1, h2, h3⟩
        have e : b ≠ n := fun e => c (by rw [← e]; exact h3)
        exact ⟨h1, by omega, h3⟩
theorem ordN_sorted {p : Pb} (V : PV p) : ∀ {n : Nat}, (n : Int) ≤ pNb p → (ordN p n).Pairwise (ltP p)
  | 0, _ => by unfold ordN; exact List.Pairwise.nil
  | n + 1, h => by
    unfold ordN
    split
    · exact insP_sorted V ⟨by omega, by omega⟩ (ordN_sorted V (by omega)) (fun a ha => by obtain ⟨h1, h2, -⟩ := ordN_mem.mp ha; exact ⟨⟨h1, by omega⟩, h2⟩)
    · exact ordN_sorted V (by omega)
theorem ordP_is {p : Pb} (V : PV p) : isOrd p (ordP p) := by
  have h0 := V.nb
  have e : ((pNb p).toNat : Int) = pNb p := by omega
  refine ⟨ordN_sorted V (by omega), fun b => ?_⟩
  unfold ordP
  rw [ordN_mem, e]
/-- the plan by law -/
noncomputable def planQ (p : Pb) : List Int → (Int → Int) → (Int → Int)
  | [], q => q
  | b :: l, q => planQ p l (updI q b (bestP p q b))
noncomputable def planP (p : Pb) : Int → Int := planQ p (ordP p) (fun _ => pDays p)
theorem planQ_rng {p : Pb} (V : PV p) : ∀ {l : List Int} {q : Int → Int}, (∀ b, 0 ≤ q b ∧ q b ≤ pDays p) → ∀ b, 0 ≤ planQ p l q b ∧ planQ p l q b ≤ pDays p
  | [], _, h => h
  | a :: l, q, h => planQ_rng V (l := l) (fun b => by
    by_cases e : b = a
    · subst e; rw [updI_s]; exact bestP_rng V q b
    · rw [updI_n e]; exact h b)
theorem planP_rng {p : Pb} (V : PV p) (b : Int) : 0 ≤ planP p b ∧ planP p b ≤ pDays p := planQ_rng V (fun _ => by have := V.days; omega) b

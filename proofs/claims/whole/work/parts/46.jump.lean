/-! WHEN CASH OR FLOOR IS OTHERWISE BY LESS THAN WHAT WAS MISSING, THE PLAN IS THE SAME -/
def Sh (p p' : Pb) (δ : Int) : Prop := p'.2 = p.2 ∧ (∀ j, j ≠ 3 → j ≠ 5 → p'.1 j = p.1 j) ∧ pCash p' - pFl p' = pCash p - pFl p + δ
section Sha
variable {p p' : Pb} {δ : Int}
theorem Sh.nb (H : Sh p p' δ) : pNb p' = pNb p := H.2.1 0 (by decide) (by decide)
theorem Sh.dy (H : Sh p p' δ) : pDays p' = pDays p := H.2.1 1 (by decide) (by decide)
theorem Sh.fe (H : Sh p p' δ) : pFee p' = pFee p := H.2.1 2 (by decide) (by decide)
theorem Sh.lw (H : Sh p p' δ) : pLaw p' = pLaw p := H.2.1 4 (by decide) (by decide)
theorem Sh.nl (H : Sh p p' δ) : pNl p' = pNl p := H.2.1 6 (by decide) (by decide)
theorem Sh.gain (H : Sh p p' δ) (b : Int) : gainP p' b = gainP p b := by unfold gainP pNet pOff; rw [H.1]
theorem Sh.span (H : Sh p p' δ) (b : Int) : spanP p' b = spanP p b := by unfold spanP pDue pBy; rw [H.1]
theorem Sh.price (H : Sh p p' δ) (b d : Int) : priceP p' b d = priceP p b d := by
  unfold priceP penP
  rw [H.gain, H.dy]
  unfold pNet pBy pDue pLate
  rw [H.1]
theorem Sh.on (H : Sh p p' δ) (q : Int → Int) (d b : Int) : onP p' q d b = onP p q d b := by unfold onP pIn; rw [H.1]
theorem Sh.used (H : Sh p p' δ) (q : Int → Int) (d : Int) : usedP p' q d = usedP p q d := by
  unfold usedP
  rw [H.nb, show onP p' q d = onP p q d from funext (H.on q d)]
theorem Sh.goes (H : Sh p p' δ) (q : Int → Int) (b d : Int) : goesP p' q b d = goesP p q b d := by
  unfold goesP
  rw [H.price, H.used, H.fe]
theorem Sh.out (H : Sh p p' δ) (q : Int → Int) (d : Int) : outP p' q d = outP p q d := by
  unfold outP
  rw [H.used, H.fe, H.nb, sumI_congr (fun b _ _ => by rw [H.on, H.price])]
theorem Sh.came (H : Sh p p' δ) (d : Int) : cameP p' d - pFl p' = cameP p d - pFl p + δ := by
  have h := H.2.2
  unfold cameP
  rw [H.nl, sumI_congr (g := fun i => if pOn p i ≤ d ∧ pCm p i = true then pAmt p i else 0) (fun i _ _ => by unfold pOn pCm pAmt; rw [H.1])]
  omega
theorem Sh.cash (H : Sh p p' δ) (q : Int → Int) (d : Int) : cashP p' q d - pFl p' = cashP p q d - pFl p + δ := by
  have h := H.came d
  unfold cashP
  rw [show outP p' q = outP p q from funext (H.out q)]
  omega
theorem Sh.ah (H : Sh p p' δ) (a b : Int) : ahP p' a b = ahP p a b := by
  unfold ahP
  rw [H.gain, H.gain, H.span, H.span, H.lw]
  unfold pRk pDue pNet
  rw [H.1]
theorem Sh.lt (H : Sh p p' δ) : ltP p' = ltP p := by
  funext a b
  unfold ltP
  rw [H.ah, H.ah]
theorem Sh.ord (H : Sh p p' δ) (V : PV p) (V' : PV p') : ordP p' = ordP p := by
  refine isOrd_uniq (p := p) ?_ (ordP_is V)
  have h := ordP_is V'
  refine ⟨by rw [← H.lt]; exact h.1, fun b => ?_⟩
  rw [h.2 b, H.nb]
  unfold pIn
  rw [H.1]
theorem Sh.can (H : Sh p p' δ) (V : PV p) {q : Int → Int} {b d : Int} (hδ : 0 ≤ δ) (b0 : 0 ≤ b) (b1 : b < pNb p) (h0 : 0 ≤ d) (h1 : d < pDays p) (hl : pCl p d = false → 0 < lacksP p q b d → δ < lacksP p q b d) : canP p' q b d ↔ canP p q b d := by
  have dy := V.days
  have g := goesB V q b0 b1 (show d ≤ 7 by omega)
  have f := V.fl
  constructor
  · intro h
    have hc : pCl p d = false := by have := h.1; unfold pCl at this; rw [H.1] at this; exact this
    rw [canP_iff V b0 b1 h0 h1]
    refine ⟨hc, ?_⟩
    rcases Int.lt_or_le 0 (lacksP p q b d) with z | z
    · have z2 := hl hc z
      have := lowI_glb (p := p) (q := q) (k := d) (x := pFl p + goesP p q b d - δ) (by omega) (by omega) (fun e e0 e1 => by
        have h2 := h.2 e e0 (by rw [H.dy]; exact e1)
        have h3 := H.cash q e
        rw [H.goes] at h2
        omega)
      unfold lacksP at z z2
      omega
    · exact z
  · intro h
    refine ⟨by unfold pCl; rw [H.1]; exact h.1, fun e e0 e1 => ?_⟩
    rw [H.dy] at e1
    have h2 := h.2 e e0 e1
    have h3 := H.cash q e
    rw [H.goes]
    omega
theorem bestR_congr {C C' : Int → Prop} {g g' : Int → Int} {N lo hi x : Int} (hc : ∀ d, lo ≤ d → d < hi → (C' d ↔ C d)) (hg : ∀ d, g' d = g d) (h : bestR C g N lo hi x) : bestR C' g' N lo hi x := by
  have e : g' = g := funext hg
  subst e
  rcases h with ⟨h1, h2⟩ | ⟨h1, h2, h3, h4⟩
  · exact Or.inl ⟨h1, fun d a b => fun z => h2 d a b ((hc d a b).mp z)⟩
  · exact Or.inr ⟨h1, h2, (hc x h1 h2).mpr h3, fun d a b z => h4.1 d a b ((hc d a b).mp z), fun d a b z => h4.2 d a b ((hc d a (by omega)).mp z)⟩
theorem Sh.best (H : Sh p p' δ) (V : PV p) {q : Int → Int} {b : Int} (hδ : 0 ≤ δ) (b0 : 0 ≤ b) (b1 : b < pNb p) (hl : ∀ d, 0 ≤ d → d < pDays p → pCl p d = false → 0 < lacksP p q b d → δ < lacksP p q b d) : bestP p' q b = bestP p q b := by
  refine bestP_eq ?_
  unfold isBest
  rw [H.dy]
  exact bestR_congr (fun d d0 d1 => H.can V hδ b0 b1 d0 d1 (hl d d0 d1)) (fun d => H.goes q b d) (bestP_is p q b)
end Sha
theorem mst_pos {m l : Int} (hm : 0 ≤ m) : (0 < m → 0 < mst m l ∧ mst m l ≤ m) ∧ (0 < l → 0 < mst m l ∧ mst m l ≤ l) ∧ 0 ≤ mst m l := by
  unfold mst
  split
  · split <;> omega
  · omega
theorem ms_pos {p : Pb} {q : Int → Int} {b m : Int} (hm : 0 ≤ m) : ∀ k, k ≤ pDays p → (0 ≤ msI p q b m k ∧ (0 < m → 0 < msI p q b m k ∧ msI p q b m k ≤ m) ∧ ∀ d, k ≤ d → d < pDays p → pCl p d = false → 0 < lacksP p q b d → 0 < msI p q b m k ∧ msI p q b m k ≤ lacksP p q b d) := by
  refine dn_ind ?_ (fun k hk ih => ?_)
  · rw [msI_0]
    exact ⟨hm, fun h => ⟨h, Int.le_refl _⟩, fun d a b => by omega⟩
  · rw [msI_s hk]
    obtain ⟨i0, i1, i2⟩ := ih
    by_cases c : pCl p k = true
    · rw [if_pos c]
      refine ⟨i0, i1, fun d a b hc hl => ?_⟩
      by_cases e : d = k
      · subst e; rw [c] at hc; cases hc
      · exact i2 d (by omega) b hc hl
    · rw [if_neg c]
      obtain ⟨j1, j2, j3⟩ := mst_pos (m := msI p q b m (k + 1)) (l := lacksP p q b k) i0
      refine ⟨j3, fun h => ?_, fun d a b hc hl => ?_⟩
      · have := i1 h
        have := j1 this.1
        omega
      · by_cases e : d = k
        · subst e; exact j2 hl
        · have := i2 d (by omega) b hc hl
          have := j1 this.1
          omega
theorem miss_pos {p : Pb} (V : PV p) : ∀ {l : List Int} {q : Int → Int} {m : Int}, 0 ≤ m → 0 ≤ missQ p l q m ∧ (0 < m → 0 < missQ p l q m ∧ missQ p l q m ≤ m)
  | [], _, m, h => ⟨h, fun z => ⟨z, Int.le_refl _⟩⟩
  | a :: l, q, m, h => by
    have dy := V.days
    show 0 ≤ missQ p l (updI q a (bestP p q a)) (msI p q a m 0) ∧ (0 < m → 0 < missQ p l (updI q a (bestP p q a)) (msI p q a m 0) ∧ missQ p l (updI q a (bestP p q a)) (msI p q a m 0) ≤ m)
    have k := ms_pos (p := p) (q := q) (b := a) h 0 (by omega)
    have i := miss_pos V (l := l) (q := updI q a (bestP p q a)) k.1
    refine ⟨i.1, fun z => ?_⟩
    have k2 := k.2.1 z
    have i2 := i.2 k2.1
    omega
theorem plan_sh {p p' : Pb} {δ : Int} (H : Sh p p' δ) (V : PV p) (hδ : 0 ≤ δ) : ∀ {l : List Int} {q : Int → Int} {m : Int}, 0 ≤ m → (∀ b ∈ l, bl p b) → (missQ p l q m = 0 ∨ δ < missQ p l q m) → planQ p' l q = planQ p l q
  | [], _, _, _, _, _ => rfl
  | a :: l, q, m, hm, hl, hk => by
    have dy := V.days
    have ba := hl a List.mem_cons_self
    have k := ms_pos (p := p) (q := q) (b := a) hm 0 (by omega)
    have i := miss_pos V (l := l) (q := updI q a (bestP p q a)) k.1
    have hk : missQ p l (updI q a (bestP p q a)) (msI p q a m 0) = 0 ∨ δ < missQ p l (updI q a (bestP p q a)) (msI p q a m 0) := hk
    show planQ p' l (updI q a (bestP p' q a)) = planQ p l (updI q a (bestP p q a))
    rw [H.best V hδ ba.1 ba.2 (fun d d0 d1 hc hl => by
      have k2 := k.2.2 d d0 d1 hc hl
      have i2 := i.2 k2.1
      omega)]
    exact plan_sh H V hδ k.1 (fun b hb => hl b (List.mem_cons_of_mem _ hb)) hk
theorem planP_sh {p p' : Pb} {δ : Int} (H : Sh p p' δ) (V : PV p) (V' : PV p') (hδ : 0 ≤ δ) (hk : missP p = 0 ∨ δ < missP p) : planP p' = planP p := by
  unfold planP
  rw [H.ord V V', H.dy]
  exact plan_sh H V hδ (Int.le_refl 0) (fun b hb => bl_pos (((ordP_is V).2 b).mp hb)) hk

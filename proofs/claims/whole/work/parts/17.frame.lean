/-! FRAMES: what stays -/
def Fr (S : Int → Int → Prop) (h h' : zH) : Prop := ∀ k j, ¬ S k j → h' k j = h k j
theorem Fr.rf {S : Int → Int → Prop} {h : zH} : Fr S h h := fun _ _ _ => rfl
theorem Fr.tr {S S' S'' : Int → Int → Prop} {h h' h'' : zH} (a : Fr S h h') (b : Fr S' h' h'') (h1 : ∀ k j, S k j → S'' k j) (h2 : ∀ k j, S' k j → S'' k j) : Fr S'' h h'' := fun k j hn => (b k j (fun q => hn (h2 k j q))).trans (a k j (fun q => hn (h1 k j q)))
theorem Fr.mono {S S' : Int → Int → Prop} {h h' : zH} (a : Fr S h h') (h1 : ∀ k j, S k j → S' k j) : Fr S' h h' := fun k j hn => a k j (fun q => hn (h1 k j q))
theorem Fr.set {S : Int → Int → Prop} {h h' : zH} {k j v : Int} (a : Fr S h h') (hs : S k j) : Fr S h (zset h' k j v) := fun x y hn => by
  rw [← a x y hn]
  unfold zset
  rw [if_neg (fun q => hn (by rw [q.1, q.2]; exact hs))]
/-- what a problem rests on -/
def wcP (k j : Int) : Prop := (k = 14 ∧ 1 ≤ j ∧ j ≤ 6) ∨ k = 15 ∨ k = 16 ∨ (18 ≤ k ∧ k ≤ 24) ∨ k = 26 ∨ k = 27
theorem WC.of {h h' : zH} {p : Pb} (V : PV p) (R : WC h p) (e : ∀ k j, wcP k j → h' k j = h k j) : WC h' p := by
  have nb := V.nb
  obtain ⟨r1, r2, r3, r4, r5, r6, r7, r8, r9, r10, r11, r12⟩ := R
  have e14 : ∀ j, 1 ≤ j → j ≤ 6 → h' 14 j = h 14 j := fun j a b => e 14 j (Or.inl ⟨rfl, a, b⟩)
  have e15 : ∀ j, h' 15 j = h 15 j := fun j => e 15 j (Or.inr (Or.inl rfl))
  have e16 : ∀ j, h' 16 j = h 16 j := fun j => e 16 j (Or.inr (Or.inr (Or.inl rfl)))
  have er : ∀ k j, 18 ≤ k → k ≤ 24 → h' k j = h k j := fun k j a b => e k j (Or.inr (Or.inr (Or.inr (Or.inl ⟨a, b⟩))))
  have e26 : ∀ j, h' 26 j = h 26 j := fun j => e 26 j (Or.inr (Or.inr (Or.inr (Or.inr (Or.inl rfl)))))
  have e27 : ∀ j, h' 27 j = h 27 j := fun j => e 27 j (Or.inr (Or.inr (Or.inr (Or.inr (Or.inr rfl)))))
  refine ⟨by rw [e15]; exact r1, by rw [e15]; exact r2, by rw [e15]; exact r3, by rw [e14 3 (by omega) (by omega)]; exact r4, by rw [e14 1 (by omega) (by omega)]; exact r5, by rw [e14 2 (by omega) (by omega)]; exact r6, by rw [e15]; exact r7, fun b b0 b1 => ?_, fun i i0 i1 => ?_, fun d d0 d1 => by rw [e14 4 (by omega) (by omega)]; exact r10 d d0 d1, fun b b0 b1 => by rw [e14 5 (by omega) (by omega)]; exact r11 b b0 b1, fun i i0 i1 => by rw [e14 6 (by omega) (by omega)]; exact r12 i i0 i1⟩
  · rw [e26, e27, er (18 + b) 3 (by omega) (by omega), er (18 + b) 4 (by omega) (by omega), er (18 + b) 5 (by omega) (by omega), er (18 + b) 0 (by omega) (by omega), e16]
    exact r8 b b0 b1
  · rw [er 23 i (by omega) (by omega), er 24 i (by omega) (by omega)]
    exact r9 i i0 i1
theorem WC.set {h : zH} {p : Pb} {k j v : Int} (V : PV p) (R : WC h p) (hn : ¬ wcP k j) : WC (zset h k j v) p := R.of V (fun x y hw => by
  unfold zset
  exact if_neg (fun q => hn (by rw [← q.1, ← q.2]; exact hw)))
theorem WC.fr {S : Int → Int → Prop} {h h' : zH} {p : Pb} (V : PV p) (R : WC h p) (f : Fr S h h') (hn : ∀ k j, S k j → ¬ wcP k j) : WC h' p := R.of V (fun k j hw => f k j (fun q => hn k j q hw))
theorem cameB {p : Pb} (V : PV p) (d : Int) : 0 ≤ cameP p d ∧ cameP p d ≤ 27999 := by
  have c := V.cash
  have n := V.nl
  have h1 : 0 ≤ sumI (fun i => if pOn p i ≤ d ∧ pCm p i = true then pAmt p i else 0) (pNl p) := sumI_nn (fun j a b => by have := V.amt a b; split <;> omega)
  have h2 : sumI (fun i => if pOn p i ≤ d ∧ pCm p i = true then pAmt p i else 0) (pNl p) ≤ 3000 * pNl p := sumI_le n.1 (fun j a b => by have := V.amt a b; split <;> omega)
  unfold cameP
  omega
theorem outB {p : Pb} (V : PV p) (q : Int → Int) {d : Int} (hd : d ≤ 7) : 0 ≤ outP p q d ∧ outP p q d ≤ 18665 := by
  have n := V.nb
  have f := V.fee
  have h1 : 0 ≤ sumI (fun b => if onP p q d b then priceP p b d else 0) (pNb p) := sumI_nn (fun j a b => by have := priceB V a b hd; split <;> omega)
  have h2 : sumI (fun b => if onP p q d b then priceP p b d else 0) (pNb p) ≤ 3693 * pNb p := sumI_le n.1 (fun j a b => by have := priceB V a b hd; split <;> omega)
  unfold outP
  split <;> omega
theorem cashB {p : Pb} (V : PV p) (q : Int → Int) {d : Int} (h0 : 0 ≤ d) (hd : d < pDays p) : -200000 ≤ cashP p q d ∧ cashP p q d ≤ 30000 := by
  have n := V.days
  have c := cameB V d
  have h1 : 0 ≤ sumI (outP p q) (d + 1) := sumI_nn (fun j a b => (outB V q (by omega)).1)
  have h2 : sumI (outP p q) (d + 1) ≤ 18665 * (d + 1) := sumI_le (by omega) (fun j a b => (outB V q (by omega)).2)
  unfold cashP
  omega
theorem goesB {p : Pb} (V : PV p) (q : Int → Int) {b d : Int} (h0 : 0 ≤ b) (h1 : b < pNb p) (hd : d ≤ 7) : 0 ≤ goesP p q b d ∧ goesP p q b d ≤ 3893 := by
  have f := V.fee
  have c := priceB V h0 h1 hd
  unfold goesP
  split <;> omega

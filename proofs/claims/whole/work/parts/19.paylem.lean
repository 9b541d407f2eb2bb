/-! PAYING AND TAKING BACK, as Week's cells show it -/
abbrev sPay : Int → Int → Prop := fun k _ => k = 28 ∨ k = 30 ∨ k = 31
theorem FB.up {y : Int} {p : Pb} {q : Int → Int} {b x d : Int} (f : FB y p q d) (b0 : 0 ≤ b) (b1 : b < pNb p) (b5 : b < 5) (hi : pIn p b = true) (hq : q b ≠ d) : FB (if d = x then zOr y (zShl 1 b) else y) p (updI q b x) d := by
  obtain ⟨f0, f1, f2⟩ := f
  have hb : onP p q d b = false := by unfold onP; rw [hi]; simpa using hq
  by_cases e : d = x
  · subst e
    rw [if_pos rfl]
    obtain ⟨⟨g0, g1⟩, g2⟩ := or_bit f0 f1 b0 b5
    refine ⟨g0, g1, fun c c0 c1 => ?_⟩
    rw [g2 c c0 c1, f2 c c0 c1, onP_upd]
    by_cases e : c = b
    · subst e; simp [b1, hi]
    · simp [e]
  · rw [if_neg e]
    refine ⟨f0, f1, fun c c0 c1 => ?_⟩
    rw [f2 c c0 c1, onP_upd]
    by_cases e2 : c = b
    · subst e2
      have e3 : ¬ x = d := fun z => e z.symm
      simp [hb, hi, e3]
    · simp [e2]
theorem FB.dn {y : Int} {p : Pb} {q : Int → Int} {b x d : Int} (f : FB y p q d) (b0 : 0 ≤ b) (b1 : b < pNb p) (b5 : b < 5) (hi : pIn p b = true) (hq : q b = x) (hd : d < pDays p) : FB (if d = x then zAnd y (zXor (zShl 1 b) (-1)) else y) p (updI q b (pDays p)) d := by
  obtain ⟨f0, f1, f2⟩ := f
  by_cases e : d = x
  · subst e
    rw [if_pos rfl]
    obtain ⟨⟨g0, g1⟩, g2⟩ := clr_bit f0 f1 b0 b5
    refine ⟨g0, g1, fun c c0 c1 => ?_⟩
    rw [g2 c c0 c1, f2 c c0 c1, onP_upd]
    by_cases e : c = b
    · subst e
      have e3 : ¬ pDays p = d := by omega
      simp [hi, e3]
    · simp [e]
  · rw [if_neg e]
    refine ⟨f0, f1, fun c c0 c1 => ?_⟩
    rw [f2 c c0 c1, onP_upd]
    by_cases e2 : c = b
    · subst e2
      have e3 : ¬ pDays p = d := by omega
      have e4 : onP p q d c = false := by unfold onP; rw [hi, hq]; simp; omega
      simp [hi, e3, e4]
    · simp [e2]
theorem pay_st {h h4 : zH} {p : Pb} {q : Int → Int} {b x : Int} (V : PV p) (S : PlC h p q) (b0 : 0 ≤ b) (b1 : b < pNb p) (hi : pIn p b = true) (hq : q b = pDays p) (x0 : 0 ≤ x) (x1 : x < pDays p)
    (e1 : ∀ j, h4 30 j = (zset (zset h 28 b x) 31 x (zOr (h 31 x) (zShl 1 b))) 30 j - (if x ≤ j ∧ j < pDays p then goesP p q b x else 0)) (e2 : Fr (fun k _ => k = 30) (zset (zset h 28 b x) 31 x (zOr (h 31 x) (zShl 1 b))) h4) : PlC h4 p (updI q b x) ∧ Fr sPay h h4 := by
  have nb := V.nb
  refine ⟨⟨fun c c0 c1 => ?_, fun d d0 d1 => ⟨?_, ?_⟩⟩, fun k j hn => ?_⟩
  · rw [e2 28 c (show ¬ (28 : Int) = 30 by decide), zset_k (by decide)]
    by_cases e : c = b
    · subst e
      rw [zset_s]
      unfold dayC
      rw [updI_s, if_pos x1]
    · rw [zset_j e, S.day c0 c1]
      unfold dayC
      rw [updI_n e]
  · rw [e1 d, zset_k (by decide), zset_k (by decide), S.cash d0 d1, cashP_upd b0 b1 hi hq x0 d1]
    by_cases e : x ≤ d
    · rw [if_pos ⟨e, d1⟩, if_pos e]
    · rw [if_neg (fun z => e z.1), if_neg e]
  · rw [e2 31 d (show ¬ (31 : Int) = 30 by decide)]
    have f := FB.up (x := x) (S.file d0 d1) b0 b1 (by omega) hi (by omega)
    by_cases e : d = x
    · subst e
      rw [if_pos rfl] at f
      rw [zset_s]
      exact f
    · rw [if_neg e] at f
      rw [zset_j e, zset_k (by decide)]
      exact f
  · have n1 : k ≠ 28 := fun z => hn (Or.inl z)
    have n2 : k ≠ 30 := fun z => hn (Or.inr (Or.inl z))
    have n3 : k ≠ 31 := fun z => hn (Or.inr (Or.inr z))
    rw [e2 k j n2, zset_k n3, zset_k n1]
theorem back_st {h h4 : zH} {p : Pb} {q : Int → Int} {b x : Int} (V : PV p) (S : PlC h p q) (b0 : 0 ≤ b) (b1 : b < pNb p) (hi : pIn p b = true) (hq : q b = x) (x0 : 0 ≤ x) (x1 : x < pDays p)
    (e1 : ∀ j, h4 30 j = (zset (zset h 28 b (-1)) 31 x (zAnd (h 31 x) (zXor (zShl 1 b) (-1)))) 30 j - (if x ≤ j ∧ j < pDays p then -goesP p (updI q b (pDays p)) b x else 0)) (e2 : Fr (fun k _ => k = 30) (zset (zset h 28 b (-1)) 31 x (zAnd (h 31 x) (zXor (zShl 1 b) (-1)))) h4) : PlC h4 p (updI q b (pDays p)) ∧ Fr sPay h h4 := by
  have nb := V.nb
  have eq : updI (updI q b (pDays p)) b x = q := by
    funext c
    by_cases e : c = b
    · subst e; rw [updI_s]; exact hq.symm
    · rw [updI_n e, updI_n e]
  refine ⟨⟨fun c c0 c1 => ?_, fun d d0 d1 => ⟨?_, ?_⟩⟩, fun k j hn => ?_⟩
  · rw [e2 28 c (show ¬ (28 : Int) = 30 by decide), zset_k (by decide)]
    by_cases e : c = b
    · subst e
      rw [zset_s]
      unfold dayC
      rw [updI_s, if_neg (by omega)]
    · rw [zset_j e, S.day c0 c1]
      unfold dayC
      rw [updI_n e]
  · have cu := cashP_upd (p := p) (q := updI q b (pDays p)) (b := b) (x := x) b0 b1 hi (updI_s _ _ _) x0 d1
    rw [eq] at cu
    rw [e1 d, zset_k (by decide), zset_k (by decide), S.cash d0 d1, cu]
    by_cases e : x ≤ d
    · rw [if_pos e, if_pos (show x ≤ d ∧ d < pDays p from ⟨e, d1⟩)]; omega
    · rw [if_neg e, if_neg (show ¬ (x ≤ d ∧ d < pDays p) from fun z => e z.1)]; omega
  · rw [e2 31 d (show ¬ (31 : Int) = 30 by decide)]
    have f := FB.dn (x := x) (S.file d0 d1) b0 b1 (by omega) hi hq d1
    by_cases e : d = x
    · subst e
      rw [if_pos rfl] at f
      rw [zset_s]
      exact f
    · rw [if_neg e] at f
      rw [zset_j e, zset_k (by decide)]
      exact f
  · have n1 : k ≠ 28 := fun z => hn (Or.inl z)
    have n2 : k ≠ 30 := fun z => hn (Or.inr (Or.inl z))
    have n3 : k ≠ 31 := fun z => hn (Or.inr (Or.inr z))
    rw [e2 k j n2, zset_k n3, zset_k n1]

def RR (h : zH) (W : Rw) : Prop := ∀ s, 0 ≤ s → s < 4 → h 109 s = (if W 0 s = -1 then -1 else W 1 s) ∧ (W 0 s ≠ -1 → h 110 s = W 0 s) ∧ ∀ i, 0 ≤ i → i < W 0 s → h 111 (60 * s + i) = W (2 + s) i
section RRa
variable {h h' : zH} {W : Rw}
theorem RR.wd (R : RR h W) {s : Int} (h0 : 0 ≤ s) (h1 : s < 4) : h 109 s = (if W 0 s = -1 then -1 else W 1 s) := (R s h0 h1).1
theorem RR.sz (R : RR h W) {s : Int} (h0 : 0 ≤ s) (h1 : s < 4) (h2 : W 0 s ≠ -1) : h 110 s = W 0 s := (R s h0 h1).2.1 h2
theorem RR.nm (R : RR h W) {s i : Int} (h0 : 0 ≤ s) (h1 : s < 4) (g0 : 0 ≤ i) (g1 : i < W 0 s) : h 111 (60 * s + i) = W (2 + s) i := (R s h0 h1).2.2 i g0 g1
theorem RR.of (R : RR h W) (e : ∀ k j, 109 ≤ k → k ≤ 111 → h' k j = h k j) : RR h' W := fun s s0 s1 =>
  ⟨(e _ _ (by omega) (by omega)).trans (R.wd s0 s1), fun z => (e _ _ (by omega) (by omega)).trans (R.sz s0 s1 z), fun i i0 i1 => (e _ _ (by omega) (by omega)).trans (R.nm s0 s1 i0 i1)⟩
theorem RR.fr {S : Int → Int → Prop} (R : RR h W) (f : Fr S h h') (hn : ∀ k j, S k j → ¬ (109 ≤ k ∧ k ≤ 111)) : RR h' W := R.of (fun k j a b => f k j (fun z => hn k j z ⟨a, b⟩))
theorem RR.em (R : RR h W) (V : RV W) {s : Int} (h0 : 0 ≤ s) (h1 : s < 4) : h 109 s = -1 ↔ W 0 s = -1 := by
  rw [R.wd h0 h1]
  by_cases c : W 0 s = -1
  · rw [if_pos c]; exact ⟨fun _ => c, fun _ => rfl⟩
  · rw [if_neg c]
    have := V.wd h0 h1 c
    constructor
    · intro z; omega
    · intro z; exact absurd z c
end RRa
/-- the first day of a plan -/
def fiN (q : Int → Int) (dy : Int) : Nat → Int
  | 0 => dy
  | n + 1 => min (fiN q dy n) (q n)
def fiI (q : Int → Int) (dy k : Int) : Int := fiN q dy k.toNat
theorem fiI_s (q : Int → Int) (dy : Int) {k : Int} (h : 0 ≤ k) : fiI q dy (k + 1) = min (fiI q dy k) (q k) := by
  unfold fiI
  rw [show (k + 1).toNat = k.toNat + 1 by omega]
  show min (fiN q dy k.toNat) (q (k.toNat : Int)) = _
  rw [Int.toNat_of_nonneg h]
theorem fi_iff {q : Int → Int} {dy : Int} {d : Int} (hd : d < dy) : ∀ k : Int, 0 ≤ k → (fiI q dy k ≤ d ↔ ∃ b, 0 ≤ b ∧ b < k ∧ q b ≤ d) := by
  refine up_ind ⟨fun z => by have : dy ≤ d := z; omega, fun ⟨b, h⟩ => by omega⟩ (fun j hj ih => ?_)
  rw [fiI_s _ _ hj]
  constructor
  · intro z
    by_cases w : q j ≤ d
    · exact ⟨j, hj, by omega, w⟩
    · obtain ⟨b, b0, b1, b2⟩ := ih.mp (by omega)
      exact ⟨b, b0, by omega, b2⟩
  · rintro ⟨b, b0, b1, b2⟩
    by_cases w : b = j
    · subst w; omega
    · have := ih.mpr ⟨b, b0, by omega, b2⟩
      omega
theorem fi_rng {q : Int → Int} {dy : Int} (d0 : 0 ≤ dy) (q0 : ∀ b, 0 ≤ q b) : ∀ k : Int, 0 ≤ k → 0 ≤ fiI q dy k ∧ fiI q dy k ≤ dy := by
  refine up_ind ⟨d0, Int.le_refl _⟩ (fun j hj ih => ?_)
  rw [fiI_s _ _ hj]
  have := q0 j
  omega
theorem used_iff {p : Pb} {q : Int → Int} (hin : ∀ b, 0 ≤ b → b < pNb p → pIn p b = true) {d : Int} : usedP p q d = true ↔ ∃ b, 0 ≤ b ∧ b < pNb p ∧ q b = d := by
  unfold usedP
  rw [anyI_iff]
  constructor
  · rintro ⟨b, b0, b1, b2⟩
    unfold onP at b2
    rw [Bool.and_eq_true, beq_iff_eq] at b2
    exact ⟨b, b0, b1, b2.2⟩
  · rintro ⟨b, b0, b1, b2⟩
    refine ⟨b, b0, b1, ?_⟩
    unfold onP
    rw [hin b b0 b1, b2, beq_self_eq_true]
    rfl
theorem law_iff {p : Pb} {q : Int → Int} (hin : ∀ b, 0 ≤ b → b < pNb p → pIn p b = true) (q0 : ∀ b, 0 ≤ q b) : lawP p q = true ↔ (∀ b, 0 ≤ b → b < pNb p → q b < pDays p → pCl p (q b) = false) ∧ ∀ d, 0 ≤ d → d < pDays p → (∃ b, 0 ≤ b ∧ b < pNb p ∧ q b ≤ d) → pFl p ≤ cashP p q d := by
  unfold lawP
  rw [Bool.not_eq_true', anyI_f]
  constructor
  · intro h
    refine ⟨fun b b0 b1 b2 => ?_, fun d d0 d1 hb => ?_⟩
    · have z := h (q b) (q0 b) b2
      unfold badP at z
      rw [Bool.or_eq_false_iff, Bool.and_eq_false_iff] at z
      rcases z.1 with y | y
      · rw [(used_iff hin).mpr ⟨b, b0, b1, rfl⟩] at y; cases y
      · exact y
    · have z := h d d0 d1
      unfold badP at z
      rw [Bool.or_eq_false_iff, Bool.and_eq_false_iff (x := anyI (usedP p q) (d + 1))] at z
      obtain ⟨b, b0, b1, b2⟩ := hb
      rcases z.2 with y | y
      · have := anyI_f.mp y (q b) (q0 b) (by omega)
        rw [(used_iff hin).mpr ⟨b, b0, b1, rfl⟩] at this; cases this
      · have := of_decide_eq_false y; omega
  · rintro ⟨h1, h2⟩ d d0 d1
    unfold badP
    rw [Bool.or_eq_false_iff, Bool.and_eq_false_iff, Bool.and_eq_false_iff]
    constructor
    · cases u : usedP p q d
      · exact Or.inl rfl
      · obtain ⟨b, b0, b1, b2⟩ := (used_iff hin).mp u
        right
        rw [← b2]
        exact h1 b b0 b1 (by omega)
    · by_cases c : ∃ b, 0 ≤ b ∧ b < pNb p ∧ q b ≤ d
      · exact Or.inr (decide_eq_false (by have := h2 d d0 d1 c; omega))
      · left
        rw [anyI_f]
        intro j j0 j1
        cases u : usedP p q j
        · rfl
        · obtain ⟨b, b0, b1, b2⟩ := (used_iff hin).mp u
          exact absurd ⟨b, b0, b1, by omega⟩ c
theorem law_abv {p : Pb} {q : Int → Int} (V : PV p) (hin : ∀ b, 0 ≤ b → b < pNb p → pIn p b = true) (q0 : ∀ b, 0 ≤ q b) (hc : ∀ b, 0 ≤ b → b < pNb p → q b < pDays p → pCl p (q b) = false) : lawP p q = abvP p q (fiI q (pDays p) (pNb p)) := by
  have dy := V.days
  have nb := V.nb
  have fr := fi_rng (q := q) (dy := pDays p) (by omega) q0 (pNb p) nb.1
  apply Bool.eq_iff_iff.mpr
  rw [law_iff hin q0, abv_iff fr.1]
  constructor
  · intro h j j0 j1
    exact h.2 j (by omega) j1 ((fi_iff j1 _ nb.1).mp j0)
  · intro h
    exact ⟨hc, fun d d0 d1 hb => h d ((fi_iff d1 _ nb.1).mpr hb) d1⟩
theorem L_rlaw {d : Nat} {h : zH} {p : Pb} {q : Int → Int} (hd : 7 ≤ d) (V : PV p) (R : WR h p) (S : PlR h p q) (hin : ∀ b, 0 ≤ b → b < pNb p → pIn p b = true) (q0 : ∀ b, 0 ≤ q b) (q1 : ∀ b, q b ≤ pDays p) : ∀ (n : Nat) (e : Int), 0 ≤ e → e + n = pNb p → (∀ b, 0 ≤ b → b < e → q b < pDays p → pCl p (q b) = false) → zS mX10_isLawful (zr d) 7 [zA 108, zI (fiI q (pDays p) e), zI e] [] TT h (zAnI (fun r h' => r = b2i (lawP p q) ∧ Fr (fun k _ => k = 124) h h')) := by
  intro n
  induction n with
  | zero =>
    intro e a1 a2 hc
    have nb := V.nb
    have dy := V.days
    refine zS_iload_n (zdec eX10_isLawful 5 rfl) rfl ?_
    refine zS_aload_n (zdec eX10_isLawful 6 rfl) rfl rfl ?_
    refine zvI (M' := mX10_bills) (As := []) (st := [zI e]) (zdec eX10_isLawful 7 rfl) kM_X10_236 kV_X10_bills ⟨by decide, rfl⟩ rfl rfl rfl rfl rfl (by omega) (r_bills R) ?_
    refine zS_icmp_ge (tgt := 63) (zdec eX10_isLawful 8 rfl) rfl (fun cz => ?_) (fun cz => absurd (by omega) cz)
    refine zS_aload_n (zdec eX10_isLawful 35 rfl) rfl rfl ?_
    have fr := fi_rng (q := q) (dy := pDays p) (by omega) q0 e a1
    refine zS_iload_n (zdec eX10_isLawful 36 rfl) rfl ?_
    refine zvMI (M' := mX10_isAbove) (As := [zI (fiI q (pDays p) e)]) (st := []) (zdec eX10_isLawful 37 rfl) kM_X10_311 kV_X10_isAbove ⟨by decide, rfl⟩ rfl rfl rfl rfl rfl (by omega) (r_isAbove (by omega) V R S fr.1 fr.2) (fun x3 h3 ⟨e3, CA, g3⟩ => ?_)
    exact zlMZ (zdec eX10_isLawful 38 rfl) rfl (by rw [e3]; exact b2i_01 _) ⟨by rw [e3, law_abv V hin q0 (fun b b0 b1 => hc b b0 (by omega)), show e = pNb p by omega], g3⟩
  | succ n ih =>
    intro e a1 a2 hc
    have nb := V.nb
    have dy := V.days
    have qe0 := q0 e
    have qe1 := q1 e
    have cl : q e < 7 → bitB (h 108 27) (q e) = pCl p (q e) := fun w => R.cl qe0 w
    refine zS_iload_n (zdec eX10_isLawful 5 rfl) rfl ?_
    refine zS_aload_n (zdec eX10_isLawful 6 rfl) rfl rfl ?_
    refine zvI (M' := mX10_bills) (As := []) (st := [zI e]) (zdec eX10_isLawful 7 rfl) kM_X10_236 kV_X10_bills ⟨by decide, rfl⟩ rfl rfl rfl rfl rfl (by omega) (r_bills R) ?_
    refine zS_icmp_ge (tgt := 63) (zdec eX10_isLawful 8 rfl) rfl (fun cz => absurd cz (by omega)) (fun cz => ?_)
    refine zS_aload_n (zdec eX10_isLawful 9 rfl) rfl rfl ?_
    refine zS_getref (i := 69) (zdec eX10_isLawful 10 rfl) kF_X10_59 ⟨by decide, rfl⟩ rfl rfl rfl rfl rfl ?_
    refine zS_iload_n (zdec eX10_isLawful 11 rfl) rfl ?_
    refine zS_ialoadE (v := (q e)) (zdec eX10_isLawful 12 rfl) ⟨by decide, rfl⟩ (by omega) (by omega) (S e (by omega) (by omega)) ?_
    refine zS_aload_n (zdec eX10_isLawful 13 rfl) rfl rfl ?_
    refine zvI (M' := mX10_days) (As := []) (st := [zI (q e)]) (zdec eX10_isLawful 14 rfl) kM_X10_240 kV_X10_days ⟨by decide, rfl⟩ rfl rfl rfl rfl rfl (by omega) (r_days R) ?_
    refine zS_icmp_ge (tgt := 46) (zdec eX10_isLawful 15 rfl) rfl (fun c1 => ?_) (fun c1 => ?_)
    · refine zS_iload_n (zdec eX10_isLawful 26 rfl) rfl ?_
      refine zS_aload_n (zdec eX10_isLawful 27 rfl) rfl rfl ?_
      refine zS_getref (i := 69) (zdec eX10_isLawful 28 rfl) kF_X10_59 ⟨by decide, rfl⟩ rfl rfl rfl rfl rfl ?_
      refine zS_iload_n (zdec eX10_isLawful 29 rfl) rfl ?_
      refine zS_ialoadE (v := (q e)) (zdec eX10_isLawful 30 rfl) ⟨by decide, rfl⟩ (by omega) (by omega) (S e (by omega) (by omega)) ?_
      refine zsI (M' := mX10_lessOf) (As := [zI (fiI q (pDays p) e), zI (q e)]) (st := []) (zdec eX10_isLawful 31 rfl) kM_X10_367 kS_X10_lessOf rfl rfl rfl (by omega) r_lessOf ?_
      refine zS_istore_n (zdec eX10_isLawful 32 rfl) rfl ?_
      refine zS_iinc (zdec eX10_isLawful 33 rfl) rfl rfl ⟨by omega, by omega⟩ ?_
      refine zS_goto (tgt := 7) (zdec eX10_isLawful 34 rfl) rfl ?_
      have k := ih (e + 1) (by omega) (by omega) (fun b b0 b1 b2 => by
          by_cases w : b = e
          · rw [w] at b2 ⊢; omega
          · exact hc b b0 (by omega) b2)
      rw [fiI_s _ _ a1] at k
      exact k
    · refine zS_aload_n (zdec eX10_isLawful 16 rfl) rfl rfl ?_
      refine zS_getfieldE (x := 27) (v := (h 108 27)) (zdec eX10_isLawful 17 rfl) kF_X10_261 ⟨by decide, rfl⟩ rfl rfl rfl rfl ?_
      refine zS_aload_n (zdec eX10_isLawful 18 rfl) rfl rfl ?_
      refine zS_getref (i := 69) (zdec eX10_isLawful 19 rfl) kF_X10_59 ⟨by decide, rfl⟩ rfl rfl rfl rfl rfl ?_
      refine zS_iload_n (zdec eX10_isLawful 20 rfl) rfl ?_
      refine zS_ialoadE (v := (q e)) (zdec eX10_isLawful 21 rfl) ⟨by decide, rfl⟩ (by omega) (by omega) (S e (by omega) (by omega)) ?_
      refine zsI (M' := mX10_isBit) (As := [zI (h 108 27), zI (q e)]) (st := []) (zdec eX10_isLawful 22 rfl) kM_X10_264 kS_X10_isBit rfl rfl rfl (by omega) r_isBit ?_
      refine zS_if_eq (tgt := 46) (zdec eX10_isLawful 23 rfl) rfl (fun c2 => ?_) (fun c2 => ?_)
      · have z2 := b2i_0.mp c2
        refine zS_iload_n (zdec eX10_isLawful 26 rfl) rfl ?_
        refine zS_aload_n (zdec eX10_isLawful 27 rfl) rfl rfl ?_
        refine zS_getref (i := 69) (zdec eX10_isLawful 28 rfl) kF_X10_59 ⟨by decide, rfl⟩ rfl rfl rfl rfl rfl ?_
        refine zS_iload_n (zdec eX10_isLawful 29 rfl) rfl ?_
        refine zS_ialoadE (v := (q e)) (zdec eX10_isLawful 30 rfl) ⟨by decide, rfl⟩ (by omega) (by omega) (S e (by omega) (by omega)) ?_
        refine zsI (M' := mX10_lessOf) (As := [zI (fiI q (pDays p) e), zI (q e)]) (st := []) (zdec eX10_isLawful 31 rfl) kM_X10_367 kS_X10_lessOf rfl rfl rfl (by omega) r_lessOf ?_
        refine zS_istore_n (zdec eX10_isLawful 32 rfl) rfl ?_
        refine zS_iinc (zdec eX10_isLawful 33 rfl) rfl rfl ⟨by omega, by omega⟩ ?_
        refine zS_goto (tgt := 7) (zdec eX10_isLawful 34 rfl) rfl ?_
        have k := ih (e + 1) (by omega) (by omega) (fun b b0 b1 b2 => by
            by_cases w : b = e
            · rw [w] at b2 ⊢; rw [← cl (by omega)]; exact z2
            · exact hc b b0 (by omega) b2)
        rw [fiI_s _ _ a1] at k
        exact k
      · have z2 := b2i_n.mp c2
        refine zS_iconst (zdec eX10_isLawful 24 rfl) rfl ?_
        exact zlMZ (zdec eX10_isLawful 25 rfl) rfl (Or.inl rfl) ⟨by rw [show lawP p q = false from Bool.eq_false_iff.mpr (fun w => by have := ((law_iff hin q0).mp w).1 e a1 (by omega) (by omega); rw [← cl (by omega), z2] at this; cases this)]; rfl, Fr.rf⟩
theorem r_isLawful {d : Nat} {h : zH} {p : Pb} {q : Int → Int} (hd : 7 ≤ d) (V : PV p) (R : WR h p) (S : PlR h p q) (hin : ∀ b, 0 ≤ b → b < pNb p → pIn p b = true) (q0 : ∀ b, 0 ≤ q b) (q1 : ∀ b, q b ≤ pDays p) : zMI d mX10_isLawful [zA 108] h (fun r h' => r = b2i (lawP p q) ∧ Fr (fun k _ => k = 124) h h') := by
  have nb := V.nb
  refine zmet rfl rfl rfl ?_
  refine zS_aload_n (zdec eX10_isLawful 0 rfl) rfl rfl ?_
  refine zvI (M' := mX10_days) (As := []) (st := []) (zdec eX10_isLawful 1 rfl) kM_X10_240 kV_X10_days ⟨by decide, rfl⟩ rfl rfl rfl rfl rfl (by omega) (r_days R) ?_
  refine zS_istore_n (zdec eX10_isLawful 2 rfl) rfl ?_
  refine zS_iconst (zdec eX10_isLawful 3 rfl) rfl ?_
  refine zS_istore_n (zdec eX10_isLawful 4 rfl) rfl ?_
  exact L_rlaw hd V R S hin q0 q1 (pNb p).toNat 0 (by omega) (by omega) (fun b b0 b1 => by omega)
theorem L_rwhy {d : Nat} {h : zH} {D : Dk} {W : Rw} {x : Int} (hd : 4 ≤ d) (VD : DV D) (RD : DR h 0 D) (RW : RR h W) (VW : RV W) (x0 : 0 ≤ x) (x1 : x < 4) (hn : W 0 x ≠ -1) (hz : W 0 x = D 0 8) : ∀ (n : Nat) (e : Int), 0 ≤ e → e + n = D 0 8 → anyI (badR D W x) e = false → zS mX10_whyNotPlan (zr d) 48 [zA 108, zI x, zI e] [] TT h (zOne (if anyI (badR D W x) (D 0 8) then -2 else 0) h) := by
  intro n
  induction n with
  | zero =>
    intro e a1 a2 a3
    have nb := VD.nb
    refine zS_iload_n (zdec eX10_whyNotPlan 27 rfl) rfl ?_
    refine zS_aload_n (zdec eX10_whyNotPlan 28 rfl) rfl rfl ?_
    refine zS_getref (i := 56) (zdec eX10_whyNotPlan 29 rfl) kF_X10_13 ⟨by decide, rfl⟩ rfl rfl rfl rfl rfl ?_
    refine zS_iload_n (zdec eX10_whyNotPlan 30 rfl) rfl ?_
    refine zS_ialoadE (v := (W 0 x)) (zdec eX10_whyNotPlan 31 rfl) ⟨by decide, rfl⟩ (by omega) (by omega) (RW.sz (by omega) (by omega) (by assumption)) ?_
    refine zS_icmp_ge (tgt := 94) (zdec eX10_whyNotPlan 32 rfl) rfl (fun cz => ?_) (fun cz => absurd (by omega) cz)
    refine zS_iconst (zdec eX10_whyNotPlan 53 rfl) rfl ?_
    exact zlI (zdec eX10_whyNotPlan 54 rfl) rfl (by rw [show D 0 8 = e by omega, a3]; rfl)
  | succ n ih =>
    intro e a1 a2 a3
    have nb := VD.nb
    have dy := VD.days
    have vs := VW.sz x0 x1
    refine zS_iload_n (zdec eX10_whyNotPlan 27 rfl) rfl ?_
    refine zS_aload_n (zdec eX10_whyNotPlan 28 rfl) rfl rfl ?_
    refine zS_getref (i := 56) (zdec eX10_whyNotPlan 29 rfl) kF_X10_13 ⟨by decide, rfl⟩ rfl rfl rfl rfl rfl ?_
    refine zS_iload_n (zdec eX10_whyNotPlan 30 rfl) rfl ?_
    refine zS_ialoadE (v := (W 0 x)) (zdec eX10_whyNotPlan 31 rfl) ⟨by decide, rfl⟩ (by omega) (by omega) (RW.sz (by omega) (by omega) (by assumption)) ?_
    refine zS_icmp_ge (tgt := 94) (zdec eX10_whyNotPlan 32 rfl) rfl (fun cz => absurd cz (by omega)) (fun cz => ?_)
    refine zS_aload_n (zdec eX10_whyNotPlan 33 rfl) rfl rfl ?_
    refine zS_getref (i := 57) (zdec eX10_whyNotPlan 34 rfl) kF_X10_16 ⟨by decide, rfl⟩ rfl rfl rfl rfl rfl ?_
    refine zS_bipush (zdec eX10_whyNotPlan 35 rfl) rfl rfl ?_
    refine zS_iload_n (zdec eX10_whyNotPlan 36 rfl) rfl ?_
    refine zS_imul (zdec eX10_whyNotPlan 37 rfl) ⟨by omega, by omega⟩ ?_
    refine zS_iload_n (zdec eX10_whyNotPlan 38 rfl) rfl ?_
    refine zS_iadd (zdec eX10_whyNotPlan 39 rfl) ⟨by omega, by omega⟩ ?_
    refine zS_laloadE (v := (W (2 + x) e)) (zdec eX10_whyNotPlan 40 rfl) ⟨by decide, rfl⟩ (by omega) (by omega) (RW.nm (by omega) (by omega) (by omega) (by omega)) ?_
    refine zS_ldc2_w (zdec eX10_whyNotPlan 41 rfl) kj_X10_115 rfl ?_
    refine zS_aload_n (zdec eX10_whyNotPlan 42 rfl) rfl rfl ?_
    refine zvI (M' := mX10_days) (As := []) (st := [zJ (-1), zJ (W (2 + x) e)]) (zdec eX10_whyNotPlan 43 rfl) kM_X10_240 kV_X10_days ⟨by decide, rfl⟩ rfl rfl rfl rfl rfl (by omega) (d_days RD) ?_
    refine zS_i2l (zdec eX10_whyNotPlan 44 rfl) ?_
    refine zS_lconst (zdec eX10_whyNotPlan 45 rfl) ?_
    refine zS_lsub (zdec eX10_whyNotPlan 46 rfl) ⟨by omega, by omega⟩ ?_
    refine zsI (M' := mX10_in) (As := [zJ (W (2 + x) e), zJ (-1), zJ ((D 0 1) - 1)]) (st := []) (zdec eX10_whyNotPlan 47 rfl) kM_X10_76 kS_X10_in rfl rfl rfl (by omega) r_in ?_
    refine zS_if_ne (tgt := 88) (zdec eX10_whyNotPlan 48 rfl) rfl (fun c1 => ?_) (fun c1 => ?_)
    · have z1 := d2i_n.mp c1
      refine zS_iinc (zdec eX10_whyNotPlan 51 rfl) rfl rfl ⟨by omega, by omega⟩ ?_
      refine zS_goto (tgt := 48) (zdec eX10_whyNotPlan 52 rfl) rfl ?_
      exact ih (e + 1) (by omega) (by omega) (by rw [anyI_s _ a1, a3, Bool.false_or]; exact decide_eq_false (by omega))
    · have z1 := d2i_0.mp c1
      refine zS_bipush (zdec eX10_whyNotPlan 49 rfl) rfl rfl ?_
      exact zlI (zdec eX10_whyNotPlan 50 rfl) rfl (by rw [if_pos (anyI_iff.mpr ⟨e, a1, by omega, decide_eq_true (by omega)⟩)])
theorem r_whyNotPlan {d : Nat} {h : zH} {D : Dk} {W : Rw} {x : Int} (hd : 4 ≤ d) (VD : DV D) (RD : DR h 0 D) (RW : RR h W) (VW : RV W) : zPI d mX10_whyNotPlan [zA 108, zI x] h (rfP D W x) := by
  have nb := VD.nb
  refine zmet rfl rfl rfl ?_
  refine zS_iload_n (zdec eX10_whyNotPlan 0 rfl) rfl ?_
  refine zsI (M' := mX10_isSlot) (As := [zI x]) (st := []) (zdec eX10_whyNotPlan 1 rfl) kM_X10_80 kS_X10_isSlot rfl rfl rfl (by omega) (d_isSlot (by omega)) ?_
  refine zS_if_eq (tgt := 14) (zdec eX10_whyNotPlan 2 rfl) rfl (fun c1 => ?_) (fun c1 => ?_)
  · have z1 := d2i_0.mp c1
    refine zS_bipush (zdec eX10_whyNotPlan 6 rfl) rfl rfl ?_
    exact zlI (zdec eX10_whyNotPlan 7 rfl) rfl (by unfold rfP; rw [if_pos (by omega)])
  · have z1 := d2i_n.mp c1
    refine zS_aload_n (zdec eX10_whyNotPlan 3 rfl) rfl rfl ?_
    refine zvI (M' := mX10_isDesk) (As := []) (st := []) (zdec eX10_whyNotPlan 4 rfl) kM_X10_332 kV_X10_isDesk ⟨by decide, rfl⟩ rfl rfl rfl rfl rfl (by omega) (d_isDesk VD RD) ?_
    refine zS_if_ne (tgt := 17) (zdec eX10_whyNotPlan 5 rfl) rfl (fun c2 => ?_) (fun c2 => ?_)
    · have z2 := d2i_n.mp c2
      refine zS_aload_n (zdec eX10_whyNotPlan 8 rfl) rfl rfl ?_
      refine zS_getref (i := 55) (zdec eX10_whyNotPlan 9 rfl) kF_X10_7 ⟨by decide, rfl⟩ rfl rfl rfl rfl rfl ?_
      refine zS_iload_n (zdec eX10_whyNotPlan 10 rfl) rfl ?_
      refine zS_ialoadE (v := (if W 0 x = -1 then -1 else W 1 x)) (zdec eX10_whyNotPlan 11 rfl) ⟨by decide, rfl⟩ (by omega) (by omega) (RW.wd (by omega) (by omega)) ?_
      refine zS_iconst (zdec eX10_whyNotPlan 12 rfl) rfl ?_
      refine zS_icmp_ne (tgt := 30) (zdec eX10_whyNotPlan 13 rfl) rfl (fun c3 => ?_) (fun c3 => ?_)
      · have he : W 0 x ≠ -1 := fun w => c3 (if_pos w)
        refine zS_aload_n (zdec eX10_whyNotPlan 16 rfl) rfl rfl ?_
        refine zS_getref (i := 56) (zdec eX10_whyNotPlan 17 rfl) kF_X10_13 ⟨by decide, rfl⟩ rfl rfl rfl rfl rfl ?_
        refine zS_iload_n (zdec eX10_whyNotPlan 18 rfl) rfl ?_
        refine zS_ialoadE (v := (W 0 x)) (zdec eX10_whyNotPlan 19 rfl) ⟨by decide, rfl⟩ (by omega) (by omega) (RW.sz (by omega) (by omega) (by assumption)) ?_
        refine zS_aload_n (zdec eX10_whyNotPlan 20 rfl) rfl rfl ?_
        refine zvI (M' := mX10_bills) (As := []) (st := [zI (W 0 x)]) (zdec eX10_whyNotPlan 21 rfl) kM_X10_236 kV_X10_bills ⟨by decide, rfl⟩ rfl rfl rfl rfl rfl (by omega) (d_bills RD) ?_
        refine zS_icmp_eq (tgt := 46) (zdec eX10_whyNotPlan 22 rfl) rfl (fun c4 => ?_) (fun c4 => ?_)
        · refine zS_iconst (zdec eX10_whyNotPlan 25 rfl) rfl ?_
          refine zS_istore_n (zdec eX10_whyNotPlan 26 rfl) rfl ?_
          unfold rfP
          rw [if_neg (by omega), if_neg he, if_neg (fun w => w c4)]
          exact L_rwhy hd VD RD RW VW (by omega) (by omega) he c4 (D 0 8).toNat 0 (by omega) (by omega) (anyI_0 _ (by omega))
        · refine zS_bipush (zdec eX10_whyNotPlan 23 rfl) rfl rfl ?_
          exact zlI (zdec eX10_whyNotPlan 24 rfl) rfl (by unfold rfP; rw [if_neg (by omega), if_neg he, if_pos c4])
      · have he : W 0 x = -1 := by by_cases w : W 0 x = -1; exact w; rw [if_neg w] at c3; have := VW.wd (show 0 ≤ x by omega) (by omega) w; omega
        refine zS_bipush (zdec eX10_whyNotPlan 14 rfl) rfl rfl ?_
        exact zlI (zdec eX10_whyNotPlan 15 rfl) rfl (by unfold rfP; rw [if_neg (by omega), if_pos he])
    · have z2 := d2i_0.mp c2
      refine zS_bipush (zdec eX10_whyNotPlan 6 rfl) rfl rfl ?_
      exact zlI (zdec eX10_whyNotPlan 7 rfl) rfl (by unfold rfP; rw [if_pos (by omega)])
theorem L_rlayp {d : Nat} {h : zH} {D : Dk} {p : Pb} {W : Rw} {x : Int} (hp : pb0 D = p) (hd : 4 ≤ d) (VD : DV D) (hd0 : 0 < D 0 0) (RD : DR h 0 D) (RW : RR h W) (x0 : 0 ≤ x) (x1 : x < 4) (hz : W 0 x = D 0 8) (hv : ∀ i, 0 ≤ i → i < D 0 8 → -1 ≤ W (2 + x) i ∧ W (2 + x) i < D 0 1) : ∀ (n : Nat) (e : Int) (h1 : zH), 0 ≤ e → e + n = pNb p → Fr (fun k j => (k = 108 ∧ 23 ≤ j ∧ j ≤ 28) ∨ (121 ≤ k ∧ k ≤ 123)) h h1 → WR h1 p → (∀ b, 0 ≤ b → b < e → h1 123 b = roQ D W x (D 0 8) b) → zS mX10_laysPlan (zr d) 6 [zA 108, zI x, zI e] [] TT h1 (zAnV (fun h' => WR h' p ∧ PlR h' p (roQ D W x (D 0 8)) ∧ Fr (fun k j => (k = 108 ∧ 23 ≤ j ∧ j ≤ 28) ∨ (121 ≤ k ∧ k ≤ 123)) h h')) := by
  intro n
  induction n with
  | zero =>
    intro e h1 a1 a2 i1 R i2
    refine zS_iload_n (zdec eX10_laysPlan 4 rfl) rfl ?_
    refine zS_aload_n (zdec eX10_laysPlan 5 rfl) rfl rfl ?_
    refine zvI (M' := mX10_bills) (As := []) (st := [zI e]) (zdec eX10_laysPlan 6 rfl) kM_X10_236 kV_X10_bills ⟨by decide, rfl⟩ rfl rfl rfl rfl rfl (by omega) (r_bills R) ?_
    refine zS_icmp_ge (tgt := 63) (zdec eX10_laysPlan 7 rfl) rfl (fun cz => ?_) (fun cz => absurd (by omega) cz)
    exact zlMV (zdec eX10_laysPlan 37 rfl) rfl ⟨R, fun b b0 b1 => i2 b b0 (by omega), i1⟩
  | succ n ih =>
    intro e h1 a1 a2 i1 R i2
    have pn : pNb p = D 0 8 := by rw [← hp]; rfl
    have pd : pDays p = D 0 1 := by rw [← hp]; rfl
    have nb := VD.nb
    have dy := VD.days
    have RW1 : RR h1 W := RW.fr i1 (fun k j z => by omega)
    have hve := hv e a1 (by omega)
    refine zS_iload_n (zdec eX10_laysPlan 4 rfl) rfl ?_
    refine zS_aload_n (zdec eX10_laysPlan 5 rfl) rfl rfl ?_
    refine zvI (M' := mX10_bills) (As := []) (st := [zI e]) (zdec eX10_laysPlan 6 rfl) kM_X10_236 kV_X10_bills ⟨by decide, rfl⟩ rfl rfl rfl rfl rfl (by omega) (r_bills R) ?_
    refine zS_icmp_ge (tgt := 63) (zdec eX10_laysPlan 7 rfl) rfl (fun cz => absurd cz (by omega)) (fun cz => ?_)
    refine zS_aload_n (zdec eX10_laysPlan 8 rfl) rfl rfl ?_
    refine zS_getref (i := 69) (zdec eX10_laysPlan 9 rfl) kF_X10_59 ⟨by decide, rfl⟩ rfl rfl rfl rfl rfl ?_
    refine zS_iload_n (zdec eX10_laysPlan 10 rfl) rfl ?_
    refine zS_aload_n (zdec eX10_laysPlan 11 rfl) rfl rfl ?_
    refine zS_getref (i := 57) (zdec eX10_laysPlan 12 rfl) kF_X10_16 ⟨by decide, rfl⟩ rfl rfl rfl rfl rfl ?_
    refine zS_bipush (zdec eX10_laysPlan 13 rfl) rfl rfl ?_
    refine zS_iload_n (zdec eX10_laysPlan 14 rfl) rfl ?_
    refine zS_imul (zdec eX10_laysPlan 15 rfl) ⟨by omega, by omega⟩ ?_
    refine zS_iload_n (zdec eX10_laysPlan 16 rfl) rfl ?_
    refine zS_iadd (zdec eX10_laysPlan 17 rfl) ⟨by omega, by omega⟩ ?_
    refine zS_laloadE (v := (W (2 + x) e)) (zdec eX10_laysPlan 18 rfl) ⟨by decide, rfl⟩ (by omega) (by omega) (RW1.nm (by omega) (by omega) (by omega) (by omega)) ?_
    refine zS_ldc2_w (zdec eX10_laysPlan 19 rfl) kj_X10_115 rfl ?_
    refine zS_lcmp (zdec eX10_laysPlan 20 rfl) ?_
    refine zS_if_ne (tgt := 44) (zdec eX10_laysPlan 21 rfl) rfl (fun c1 => ?_) (fun c1 => ?_)
    · refine zS_aload_n (zdec eX10_laysPlan 25 rfl) rfl rfl ?_
      refine zS_getref (i := 57) (zdec eX10_laysPlan 26 rfl) kF_X10_16 ⟨by decide, rfl⟩ rfl rfl rfl rfl rfl ?_
      refine zS_bipush (zdec eX10_laysPlan 27 rfl) rfl rfl ?_
      refine zS_iload_n (zdec eX10_laysPlan 28 rfl) rfl ?_
      refine zS_imul (zdec eX10_laysPlan 29 rfl) ⟨by omega, by omega⟩ ?_
      refine zS_iload_n (zdec eX10_laysPlan 30 rfl) rfl ?_
      refine zS_iadd (zdec eX10_laysPlan 31 rfl) ⟨by omega, by omega⟩ ?_
      refine zS_laloadE (v := (W (2 + x) e)) (zdec eX10_laysPlan 32 rfl) ⟨by decide, rfl⟩ (by omega) (by omega) (RW1.nm (by omega) (by omega) (by omega) (by omega)) ?_
      refine zS_l2i (zdec eX10_laysPlan 33 rfl) ?_
      refine zS_iastore (zdec eX10_laysPlan 34 rfl) ⟨by decide, rfl⟩ (by omega) (by omega) ?_
      refine zS_iinc (zdec eX10_laysPlan 35 rfl) rfl rfl ⟨by omega, by omega⟩ ?_
      refine zS_goto (tgt := 6) (zdec eX10_laysPlan 36 rfl) rfl ?_
      refine ih (e + 1) _ (by omega) (by omega) (i1.set (by omega)) (R.set (by unfold wrP; omega)) (fun b b0 b1 => ?_)
      by_cases w : b = e
      · rw [w, zset_s]; unfold roQ; rw [zL2I_id (by omega) (by omega), if_pos ⟨a1, by omega, by have : W (2 + x) e ≠ -1 := fun w => c1 (zCmp_e.mpr w); omega, hve.2⟩]
      · rw [zset_j w]; exact i2 b b0 (by omega)
    · refine zS_aload_n (zdec eX10_laysPlan 22 rfl) rfl rfl ?_
      refine zvI (M' := mX10_days) (As := []) (st := [zI e, zA 123]) (zdec eX10_laysPlan 23 rfl) kM_X10_240 kV_X10_days ⟨by decide, rfl⟩ rfl rfl rfl rfl rfl (by omega) (r_days R) ?_
      refine zS_goto (tgt := 56) (zdec eX10_laysPlan 24 rfl) rfl ?_
      refine zS_iastore (zdec eX10_laysPlan 34 rfl) ⟨by decide, rfl⟩ (by omega) (by omega) ?_
      refine zS_iinc (zdec eX10_laysPlan 35 rfl) rfl rfl ⟨by omega, by omega⟩ ?_
      refine zS_goto (tgt := 6) (zdec eX10_laysPlan 36 rfl) rfl ?_
      refine ih (e + 1) _ (by omega) (by omega) (i1.set (by omega)) (R.set (by unfold wrP; omega)) (fun b b0 b1 => ?_)
      by_cases w : b = e
      · rw [w, zset_s]; unfold roQ; rw [if_neg (by have := zCmp_e.mp c1; omega), pd]
      · rw [zset_j w]; exact i2 b b0 (by omega)
theorem r_laysPlan {d : Nat} {h : zH} {D : Dk} {p : Pb} {W : Rw} {x : Int} (hp : pb0 D = p) (hd : 4 ≤ d) (VD : DV D) (hd0 : 0 < D 0 0) (RD : DR h 0 D) (RW : RR h W) (x0 : 0 ≤ x) (x1 : x < 4) (hz : W 0 x = D 0 8) (hv : ∀ i, 0 ≤ i → i < D 0 8 → -1 ≤ W (2 + x) i ∧ W (2 + x) i < D 0 1) : zMV d mX10_laysPlan [zA 108, zI x] h (fun h' => WR h' p ∧ PlR h' p (roQ D W x (D 0 8)) ∧ Fr (fun k j => (k = 108 ∧ 23 ≤ j ∧ j ≤ 28) ∨ (121 ≤ k ∧ k ≤ 123)) h h') := by
  have pn : pNb p = D 0 8 := by rw [← hp]; rfl
  have pd : pDays p = D 0 1 := by rw [← hp]; rfl
  have nb := VD.nb
  have dy := VD.days
  refine zmet rfl rfl rfl ?_
  refine zS_aload_n (zdec eX10_laysPlan 0 rfl) rfl rfl ?_
  refine zvMV (M' := mX10_lays) (As := []) (st := []) (zdec eX10_laysPlan 1 rfl) kM_X10_314 kV_X10_lays ⟨by decide, rfl⟩ rfl rfl rfl rfl rfl (by omega) (r_lays (by omega) VD hd0 RD) (fun h2 ⟨R, cl2, g2⟩ => ?_)
  rw [hp] at R
  refine zS_iconst (zdec eX10_laysPlan 2 rfl) rfl ?_
  refine zS_istore_n (zdec eX10_laysPlan 3 rfl) rfl ?_
  exact L_rlayp hp hd VD hd0 RD RW x0 x1 hz hv (pNb p).toNat 0 h2 (by omega) (by omega) (g2.mono (fun k j z => by omega)) R (fun b b0 b1 => by omega)
theorem q_sums {d : Nat} {h : zH} {D : Dk} {W : Rw} {x : Int} (hd : 200 ≤ d) (VD : DV D) (RD : DR h 0 D) (RW : RR h W) (VW : RV W) : zMI d mX10_sums [zA 108, zI x] h (fun r h' => r = a_sums D W x ∧ Fr sQR h h') := by
  obtain ⟨p, hp⟩ : ∃ p, pb0 D = p := ⟨_, rfl⟩
  obtain ⟨q, hq⟩ : ∃ q, planP p = q := ⟨_, rfl⟩
  have pd : pDays p = D 0 1 := by rw [← hp]; rfl
  have pn : pNb p = D 0 8 := by rw [← hp]; rfl
  have dy := VD.days
  have nb := VD.nb
  have ns := VD.ns
  have nl := VD.nl
  have na := VD.na
  have vfl := VD.fl
  have vfe := VD.fee
  have hin : ∀ b, 0 ≤ b → b < pNb p → pIn p b = true := fun b _ _ => by rw [← hp]; rfl
  refine zmet rfl rfl rfl ?_
  refine zS_aload_n (zdec eX10_sums 0 rfl) rfl rfl ?_
  refine zS_iconst (zdec eX10_sums 1 rfl) rfl ?_
  refine zS_putfield (x := 0) (zdec eX10_sums 2 rfl) kF_X10_71 (Or.inl kf10_0) ⟨by decide, rfl⟩ rfl rfl rfl (Or.inl (fun q => by cases q)) ?_
  obtain ⟨h0, E0⟩ : ∃ x, x = zset h 108 0 0 := ⟨_, rfl⟩
  rw [show zset h 108 0 (0 : Int) = h0 from E0.symm]
  have f0 : Fr sQR h h0 := by rw [E0]; exact Fr.rf.set (by omega)
  have RD0 : DR h0 0 D := RD.fr f0 (fun k j z => by omega)
  refine zS_aload_n (zdec eX10_sums 3 rfl) rfl rfl ?_
  refine zS_iload_n (zdec eX10_sums 4 rfl) rfl ?_
  have RW0 : RR h0 W := RW.fr f0 (fun k j z => by omega)
  refine zvI (M' := mX10_whyNotPlan) (As := [zI x]) (st := []) (zdec eX10_sums 5 rfl) kM_X10_370 kV_X10_whyNotPlan ⟨by decide, rfl⟩ rfl rfl rfl rfl rfl (by omega) (r_whyNotPlan (by omega) VD RD0 RW0 VW) ?_
  refine zS_istore_n (zdec eX10_sums 6 rfl) rfl ?_
  refine zS_iload_n (zdec eX10_sums 7 rfl) rfl ?_
  refine zS_if_eq (tgt := 17) (zdec eX10_sums 8 rfl) rfl (fun c1 => ?_) (fun c1 => ?_)
  · refine zS_aload_n (zdec eX10_sums 11 rfl) rfl rfl ?_
    refine zS_iload_n (zdec eX10_sums 12 rfl) rfl ?_
    have r0 := rfP_0 c1
    have hd0 := r0.1.2
    refine zvMV (M' := mX10_laysPlan) (As := [zI x]) (st := []) (zdec eX10_sums 13 rfl) kM_X10_373 kV_X10_laysPlan ⟨by decide, rfl⟩ rfl rfl rfl rfl rfl (by omega) (r_laysPlan hp (by omega) VD hd0 RD0 RW0 r0.1.1.1 r0.1.1.2 r0.2.1 r0.2.2) (fun h2 ⟨R, S, g2⟩ => ?_)
    have V : PV p := by rw [← hp]; exact pb0_V VD hd0
    have f2 : Fr sQR h h2 := f0.tr g2 (fun k j z => z) (fun k j z => by omega)
    have q0 : ∀ b, 0 ≤ (roQ D W x (D 0 8)) b := fun b => (roQ_rng VD W x (D 0 8) b).1
    have q1 : ∀ b, (roQ D W x (D 0 8)) b ≤ pDays p := fun b => by rw [pd]; exact (roQ_rng VD W x (D 0 8) b).2
    refine zS_aload_n (zdec eX10_sums 14 rfl) rfl rfl ?_
    refine zvI (M' := mX10_totalNow) (As := []) (st := []) (zdec eX10_sums 15 rfl) kM_X10_358 kV_X10_totalNow ⟨by decide, rfl⟩ rfl rfl rfl rfl rfl (by omega) (r_totalNow (by omega) V R S q0 q1) ?_
    exact zlMI (zdec eX10_sums 16 rfl) rfl ⟨by unfold a_sums; rw [hp, if_pos c1], f2⟩
  · refine zS_iload_n (zdec eX10_sums 9 rfl) rfl ?_
    exact zlMI (zdec eX10_sums 10 rfl) rfl ⟨by unfold a_sums; rw [if_neg c1], f0⟩
theorem q_lawful {d : Nat} {h : zH} {D : Dk} {W : Rw} {x : Int} (hd : 200 ≤ d) (VD : DV D) (RD : DR h 0 D) (RW : RR h W) (VW : RV W) : zMI d mX10_lawful [zA 108, zI x] h (fun r h' => r = a_lawful D W x ∧ Fr sQR h h') := by
  obtain ⟨p, hp⟩ : ∃ p, pb0 D = p := ⟨_, rfl⟩
  obtain ⟨q, hq⟩ : ∃ q, planP p = q := ⟨_, rfl⟩
  have pd : pDays p = D 0 1 := by rw [← hp]; rfl
  have pn : pNb p = D 0 8 := by rw [← hp]; rfl
  have dy := VD.days
  have nb := VD.nb
  have ns := VD.ns
  have nl := VD.nl
  have na := VD.na
  have vfl := VD.fl
  have vfe := VD.fee
  have hin : ∀ b, 0 ≤ b → b < pNb p → pIn p b = true := fun b _ _ => by rw [← hp]; rfl
  refine zmet rfl rfl rfl ?_
  refine zS_aload_n (zdec eX10_lawful 0 rfl) rfl rfl ?_
  refine zS_iconst (zdec eX10_lawful 1 rfl) rfl ?_
  refine zS_putfield (x := 0) (zdec eX10_lawful 2 rfl) kF_X10_71 (Or.inl kf10_0) ⟨by decide, rfl⟩ rfl rfl rfl (Or.inl (fun q => by cases q)) ?_
  obtain ⟨h0, E0⟩ : ∃ x, x = zset h 108 0 0 := ⟨_, rfl⟩
  rw [show zset h 108 0 (0 : Int) = h0 from E0.symm]
  have f0 : Fr sQR h h0 := by rw [E0]; exact Fr.rf.set (by omega)
  have RD0 : DR h0 0 D := RD.fr f0 (fun k j z => by omega)
  refine zS_aload_n (zdec eX10_lawful 3 rfl) rfl rfl ?_
  refine zS_iload_n (zdec eX10_lawful 4 rfl) rfl ?_
  have RW0 : RR h0 W := RW.fr f0 (fun k j z => by omega)
  refine zvI (M' := mX10_whyNotPlan) (As := [zI x]) (st := []) (zdec eX10_lawful 5 rfl) kM_X10_370 kV_X10_whyNotPlan ⟨by decide, rfl⟩ rfl rfl rfl rfl rfl (by omega) (r_whyNotPlan (by omega) VD RD0 RW0 VW) ?_
  refine zS_istore_n (zdec eX10_lawful 6 rfl) rfl ?_
  refine zS_iload_n (zdec eX10_lawful 7 rfl) rfl ?_
  refine zS_if_eq (tgt := 17) (zdec eX10_lawful 8 rfl) rfl (fun c1 => ?_) (fun c1 => ?_)
  · refine zS_aload_n (zdec eX10_lawful 11 rfl) rfl rfl ?_
    refine zS_iload_n (zdec eX10_lawful 12 rfl) rfl ?_
    have r0 := rfP_0 c1
    have hd0 := r0.1.2
    refine zvMV (M' := mX10_laysPlan) (As := [zI x]) (st := []) (zdec eX10_lawful 13 rfl) kM_X10_373 kV_X10_laysPlan ⟨by decide, rfl⟩ rfl rfl rfl rfl rfl (by omega) (r_laysPlan hp (by omega) VD hd0 RD0 RW0 r0.1.1.1 r0.1.1.2 r0.2.1 r0.2.2) (fun h2 ⟨R, S, g2⟩ => ?_)
    have V : PV p := by rw [← hp]; exact pb0_V VD hd0
    have f2 : Fr sQR h h2 := f0.tr g2 (fun k j z => z) (fun k j z => by omega)
    have q0 : ∀ b, 0 ≤ (roQ D W x (D 0 8)) b := fun b => (roQ_rng VD W x (D 0 8) b).1
    have q1 : ∀ b, (roQ D W x (D 0 8)) b ≤ pDays p := fun b => by rw [pd]; exact (roQ_rng VD W x (D 0 8) b).2
    refine zS_aload_n (zdec eX10_lawful 14 rfl) rfl rfl ?_
    refine zvMI (M' := mX10_isLawful) (As := []) (st := []) (zdec eX10_lawful 15 rfl) kM_X10_376 kV_X10_isLawful ⟨by decide, rfl⟩ rfl rfl rfl rfl rfl (by omega) (r_isLawful (by omega) V R S hin q0 q1) (fun x3 h3 ⟨e3, g3⟩ => ?_)
    have f3 : Fr sQR h h3 := f2.tr g3 (fun k j z => z) (fun k j z => by omega)
    refine zS_if_eq (tgt := 33) (zdec eX10_lawful 16 rfl) rfl (fun c2 => ?_) (fun c2 => ?_)
    · refine zS_iconst (zdec eX10_lawful 19 rfl) rfl ?_
      exact zlMI (zdec eX10_lawful 20 rfl) rfl ⟨by unfold a_lawful; rw [hp, if_pos c1, ← e3]; rcases b2i_01 (lawP p (roQ D W x (D 0 8))) with z | z <;> omega, f3⟩
    · refine zS_iconst (zdec eX10_lawful 17 rfl) rfl ?_
      refine zS_goto (tgt := 34) (zdec eX10_lawful 18 rfl) rfl ?_
      exact zlMI (zdec eX10_lawful 20 rfl) rfl ⟨by unfold a_lawful; rw [hp, if_pos c1, ← e3]; rcases b2i_01 (lawP p (roQ D W x (D 0 8))) with z | z <;> omega, f3⟩
  · refine zS_iload_n (zdec eX10_lawful 9 rfl) rfl ?_
    exact zlMI (zdec eX10_lawful 10 rfl) rfl ⟨by unfold a_lawful; rw [if_neg c1], f0⟩
theorem K_falls {d : Nat} {h h3 : zH} {D : Dk} {p : Pb} {W : Rw} {x y : Int} (hd : 50 ≤ d) (hp : pb0 D = p) (VD : DV D) (R3 : WR h3 p) (CA : CaR h3 p (roQ D W x (D 0 8))) (f3 : Fr sQR h h3) : ∀ (n : Nat) (e : Int), 0 ≤ e → e + n = D 0 1 → fsI (fun t => decide (cashP p (roQ D W x (D 0 8)) t < D 0 5)) e = -1 → zS mX10_falls (zr d) 28 [zA 108, zI x, zI y, zI e] [] TT h3 (zAnI (fun r h' => r = fsI (fun t => decide (cashP p (roQ D W x (D 0 8)) t < D 0 5)) (D 0 1) ∧ Fr sQR h h')) := by
  intro n
  induction n with
  | zero =>
    intro e a1 a2 a3
    have pd : pDays p = D 0 1 := by rw [← hp]; rfl
    have pf : pFl p = D 0 5 := by rw [← hp]; rfl
    have dy := VD.days
    refine zS_iload_n (zdec eX10_falls 18 rfl) rfl ?_
    refine zS_aload_n (zdec eX10_falls 19 rfl) rfl rfl ?_
    refine zvI (M' := mX10_days) (As := []) (st := [zI e]) (zdec eX10_falls 20 rfl) kM_X10_240 kV_X10_days ⟨by decide, rfl⟩ rfl rfl rfl rfl rfl (by omega) (r_days R3) ?_
    refine zS_icmp_ge (tgt := 57) (zdec eX10_falls 21 rfl) rfl (fun cz => ?_) (fun cz => absurd (by omega) cz)
    refine zS_iconst (zdec eX10_falls 33 rfl) rfl ?_
    exact zlMI (zdec eX10_falls 34 rfl) rfl ⟨by rw [show D 0 1 = e by omega]; exact a3.symm, f3⟩
  | succ n ih =>
    intro e a1 a2 a3
    have pd : pDays p = D 0 1 := by rw [← hp]; rfl
    have pf : pFl p = D 0 5 := by rw [← hp]; rfl
    have dy := VD.days
    refine zS_iload_n (zdec eX10_falls 18 rfl) rfl ?_
    refine zS_aload_n (zdec eX10_falls 19 rfl) rfl rfl ?_
    refine zvI (M' := mX10_days) (As := []) (st := [zI e]) (zdec eX10_falls 20 rfl) kM_X10_240 kV_X10_days ⟨by decide, rfl⟩ rfl rfl rfl rfl rfl (by omega) (r_days R3) ?_
    refine zS_icmp_ge (tgt := 57) (zdec eX10_falls 21 rfl) rfl (fun cz => absurd cz (by omega)) (fun cz => ?_)
    refine zS_aload_n (zdec eX10_falls 22 rfl) rfl rfl ?_
    refine zS_getref (i := 70) (zdec eX10_falls 23 rfl) kF_X10_62 ⟨by decide, rfl⟩ rfl rfl rfl rfl rfl ?_
    refine zS_iload_n (zdec eX10_falls 24 rfl) rfl ?_
    refine zS_ialoadE (v := (cashP p (roQ D W x (D 0 8)) e)) (zdec eX10_falls 25 rfl) ⟨by decide, rfl⟩ (by omega) (by omega) (CA _ (by omega) (by omega)) ?_
    refine zS_aload_n (zdec eX10_falls 26 rfl) rfl rfl ?_
    refine zS_getfieldE (x := 25) (v := (pFl p)) (zdec eX10_falls 27 rfl) kF_X10_252 ⟨by decide, rfl⟩ rfl rfl rfl R3.fl ?_
    refine zS_icmp_ge (tgt := 51) (zdec eX10_falls 28 rfl) rfl (fun c1 => ?_) (fun c1 => ?_)
    · refine zS_iinc (zdec eX10_falls 31 rfl) rfl rfl ⟨by omega, by omega⟩ ?_
      refine zS_goto (tgt := 28) (zdec eX10_falls 32 rfl) rfl ?_
      exact ih (e + 1) (by omega) (by omega) (fsI_next a1 a3 (decide_eq_false (by omega)))
    · refine zS_iload_n (zdec eX10_falls 29 rfl) rfl ?_
      exact zlMI (zdec eX10_falls 30 rfl) rfl ⟨(fsI_hit a1 (by omega) a3 (decide_eq_true (by omega))).symm, f3⟩
theorem q_falls {d : Nat} {h : zH} {D : Dk} {W : Rw} {x : Int} (hd : 200 ≤ d) (VD : DV D) (RD : DR h 0 D) (RW : RR h W) (VW : RV W) : zMI d mX10_falls [zA 108, zI x] h (fun r h' => r = a_falls D W x ∧ Fr sQR h h') := by
  obtain ⟨p, hp⟩ : ∃ p, pb0 D = p := ⟨_, rfl⟩
  obtain ⟨q, hq⟩ : ∃ q, planP p = q := ⟨_, rfl⟩
  have pd : pDays p = D 0 1 := by rw [← hp]; rfl
  have pn : pNb p = D 0 8 := by rw [← hp]; rfl
  have dy := VD.days
  have nb := VD.nb
  have ns := VD.ns
  have nl := VD.nl
  have na := VD.na
  have vfl := VD.fl
  have vfe := VD.fee
  have hin : ∀ b, 0 ≤ b → b < pNb p → pIn p b = true := fun b _ _ => by rw [← hp]; rfl
  refine zmet rfl rfl rfl ?_
  refine zS_aload_n (zdec eX10_falls 0 rfl) rfl rfl ?_
  refine zS_iconst (zdec eX10_falls 1 rfl) rfl ?_
  refine zS_putfield (x := 0) (zdec eX10_falls 2 rfl) kF_X10_71 (Or.inl kf10_0) ⟨by decide, rfl⟩ rfl rfl rfl (Or.inl (fun q => by cases q)) ?_
  obtain ⟨h0, E0⟩ : ∃ x, x = zset h 108 0 0 := ⟨_, rfl⟩
  rw [show zset h 108 0 (0 : Int) = h0 from E0.symm]
  have f0 : Fr sQR h h0 := by rw [E0]; exact Fr.rf.set (by omega)
  have RD0 : DR h0 0 D := RD.fr f0 (fun k j z => by omega)
  refine zS_aload_n (zdec eX10_falls 3 rfl) rfl rfl ?_
  refine zS_iload_n (zdec eX10_falls 4 rfl) rfl ?_
  have RW0 : RR h0 W := RW.fr f0 (fun k j z => by omega)
  refine zvI (M' := mX10_whyNotPlan) (As := [zI x]) (st := []) (zdec eX10_falls 5 rfl) kM_X10_370 kV_X10_whyNotPlan ⟨by decide, rfl⟩ rfl rfl rfl rfl rfl (by omega) (r_whyNotPlan (by omega) VD RD0 RW0 VW) ?_
  refine zS_istore_n (zdec eX10_falls 6 rfl) rfl ?_
  refine zS_iload_n (zdec eX10_falls 7 rfl) rfl ?_
  refine zS_if_eq (tgt := 17) (zdec eX10_falls 8 rfl) rfl (fun c1 => ?_) (fun c1 => ?_)
  · refine zS_aload_n (zdec eX10_falls 11 rfl) rfl rfl ?_
    refine zS_iload_n (zdec eX10_falls 12 rfl) rfl ?_
    have r0 := rfP_0 c1
    have hd0 := r0.1.2
    refine zvMV (M' := mX10_laysPlan) (As := [zI x]) (st := []) (zdec eX10_falls 13 rfl) kM_X10_373 kV_X10_laysPlan ⟨by decide, rfl⟩ rfl rfl rfl rfl rfl (by omega) (r_laysPlan hp (by omega) VD hd0 RD0 RW0 r0.1.1.1 r0.1.1.2 r0.2.1 r0.2.2) (fun h2 ⟨R, S, g2⟩ => ?_)
    have V : PV p := by rw [← hp]; exact pb0_V VD hd0
    have f2 : Fr sQR h h2 := f0.tr g2 (fun k j z => z) (fun k j z => by omega)
    have q0 : ∀ b, 0 ≤ (roQ D W x (D 0 8)) b := fun b => (roQ_rng VD W x (D 0 8) b).1
    have q1 : ∀ b, (roQ D W x (D 0 8)) b ≤ pDays p := fun b => by rw [pd]; exact (roQ_rng VD W x (D 0 8) b).2
    refine zS_aload_n (zdec eX10_falls 14 rfl) rfl rfl ?_
    refine zvMV (M' := mX10_laysCash) (As := []) (st := []) (zdec eX10_falls 15 rfl) kM_X10_292 kV_X10_laysCash ⟨by decide, rfl⟩ rfl rfl rfl rfl rfl (by omega) (r_laysCash (by omega) V R S) (fun h3 ⟨CA, g3⟩ => ?_)
    have f3 : Fr sQR h h3 := f2.tr g3 (fun k j z => z) (fun k j z => by omega)
    have R3 : WR h3 p := R.fr g3 (fun k j z => by unfold wrP; omega)
    refine zS_iconst (zdec eX10_falls 16 rfl) rfl ?_
    refine zS_istore_n (zdec eX10_falls 17 rfl) rfl ?_
    unfold a_falls
    rw [hp, if_pos c1]
    exact K_falls (by omega) hp VD R3 CA f3 (D 0 1).toNat 0 (by omega) (by omega) rfl
  · refine zS_iload_n (zdec eX10_falls 9 rfl) rfl ?_
    exact zlMI (zdec eX10_falls 10 rfl) rfl ⟨by unfold a_falls; rw [if_neg c1], f0⟩

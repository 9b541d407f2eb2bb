/-! THE REFERENCE (place 108): the same problem, the same plan -/
def WR (h : zH) (p : Pb) : Prop := h 115 7 = pNb p ∧ h 115 0 = pDays p ∧ h 115 5 = pFee p ∧ h 108 25 = pFl p ∧ h 108 23 = pLaw p ∧ h 108 24 = pCash p ∧ h 115 8 = pNl p ∧
  (∀ b, 0 ≤ b → b < pNb p → h 122 b = pNet p b ∧ h 121 b = pOff p b ∧ h 117 (7 * b + 3) = pBy p b ∧ h 117 (7 * b + 4) = pDue p b ∧ h 117 (7 * b + 5) = pLate p b ∧ h 116 (pOf p b) = pRk p b ∧ h 117 (7 * b) = pOf p b) ∧
  (∀ i, 0 ≤ i → i < pNl p → h 118 (2 * i) = pAmt p i ∧ h 118 (2 * i + 1) = pOn p i) ∧
  (∀ d, 0 ≤ d → d < 7 → bitB (h 108 27) d = pCl p d) ∧ (∀ b, 0 ≤ b → b < pNb p → bitB (h 108 26) b = !pIn p b) ∧ ∀ i, 0 ≤ i → i < pNl p → bitB (h 108 28) i = !pCm p i
section WRa
variable {h h' : zH} {p : Pb} {q : Int → Int}
theorem WR.nb (R : WR h p) : h 115 7 = pNb p := R.1
theorem WR.days (R : WR h p) : h 115 0 = pDays p := R.2.1
theorem WR.fee (R : WR h p) : h 115 5 = pFee p := R.2.2.1
theorem WR.fl (R : WR h p) : h 108 25 = pFl p := R.2.2.2.1
theorem WR.law (R : WR h p) : h 108 23 = pLaw p := R.2.2.2.2.1
theorem WR.cash (R : WR h p) : h 108 24 = pCash p := R.2.2.2.2.2.1
theorem WR.nl (R : WR h p) : h 115 8 = pNl p := R.2.2.2.2.2.2.1
theorem WR.net (R : WR h p) {b : Int} (h0 : 0 ≤ b) (h1 : b < pNb p) : h 122 b = pNet p b := (R.2.2.2.2.2.2.2.1 b h0 h1).1
theorem WR.off (R : WR h p) {b : Int} (h0 : 0 ≤ b) (h1 : b < pNb p) : h 121 b = pOff p b := (R.2.2.2.2.2.2.2.1 b h0 h1).2.1
theorem WR.by' (R : WR h p) {b : Int} (h0 : 0 ≤ b) (h1 : b < pNb p) : h 117 (7 * b + 3) = pBy p b := (R.2.2.2.2.2.2.2.1 b h0 h1).2.2.1
theorem WR.due (R : WR h p) {b : Int} (h0 : 0 ≤ b) (h1 : b < pNb p) : h 117 (7 * b + 4) = pDue p b := (R.2.2.2.2.2.2.2.1 b h0 h1).2.2.2.1
theorem WR.late (R : WR h p) {b : Int} (h0 : 0 ≤ b) (h1 : b < pNb p) : h 117 (7 * b + 5) = pLate p b := (R.2.2.2.2.2.2.2.1 b h0 h1).2.2.2.2.1
theorem WR.rk (R : WR h p) {b : Int} (h0 : 0 ≤ b) (h1 : b < pNb p) : h 116 (pOf p b) = pRk p b := (R.2.2.2.2.2.2.2.1 b h0 h1).2.2.2.2.2.1
theorem WR.of' (R : WR h p) {b : Int} (h0 : 0 ≤ b) (h1 : b < pNb p) : h 117 (7 * b) = pOf p b := (R.2.2.2.2.2.2.2.1 b h0 h1).2.2.2.2.2.2
theorem WR.amt (R : WR h p) {i : Int} (h0 : 0 ≤ i) (h1 : i < pNl p) : h 118 (2 * i) = pAmt p i := (R.2.2.2.2.2.2.2.2.1 i h0 h1).1
theorem WR.on' (R : WR h p) {i : Int} (h0 : 0 ≤ i) (h1 : i < pNl p) : h 118 (2 * i + 1) = pOn p i := (R.2.2.2.2.2.2.2.2.1 i h0 h1).2
theorem WR.cl (R : WR h p) {d : Int} (h0 : 0 ≤ d) (h1 : d < 7) : bitB (h 108 27) d = pCl p d := R.2.2.2.2.2.2.2.2.2.1 d h0 h1
theorem WR.in' (R : WR h p) {b : Int} (h0 : 0 ≤ b) (h1 : b < pNb p) : bitB (h 108 26) b = !pIn p b := R.2.2.2.2.2.2.2.2.2.2.1 b h0 h1
theorem WR.cm (R : WR h p) {i : Int} (h0 : 0 ≤ i) (h1 : i < pNl p) : bitB (h 108 28) i = !pCm p i := R.2.2.2.2.2.2.2.2.2.2.2 i h0 h1
def wrP (k j : Int) : Prop := (k = 108 ∧ 23 ≤ j ∧ j ≤ 28) ∨ (115 ≤ k ∧ k ≤ 118) ∨ k = 121 ∨ k = 122
theorem WR.of (R : WR h p) (e : ∀ k j, wrP k j → h' k j = h k j) : WR h' p := by
  obtain ⟨r1, r2, r3, r4, r5, r6, r7, r8, r9, r10, r11, r12⟩ := R
  refine ⟨(e _ _ (by unfold wrP; omega)).trans r1, (e _ _ (by unfold wrP; omega)).trans r2, (e _ _ (by unfold wrP; omega)).trans r3, (e _ _ (by unfold wrP; omega)).trans r4, (e _ _ (by unfold wrP; omega)).trans r5, (e _ _ (by unfold wrP; omega)).trans r6, (e _ _ (by unfold wrP; omega)).trans r7, fun b b0 b1 => ?_, fun i i0 i1 => ?_, fun d d0 d1 => ?_, fun b b0 b1 => ?_, fun i i0 i1 => ?_⟩
  · rw [e 122 _ (by unfold wrP; omega), e 121 _ (by unfold wrP; omega), e 117 _ (by unfold wrP; omega), e 117 _ (by unfold wrP; omega), e 117 _ (by unfold wrP; omega), e 116 _ (by unfold wrP; omega), e 117 _ (by unfold wrP; omega)]; exact r8 b b0 b1
  · rw [e 118 _ (by unfold wrP; omega), e 118 _ (by unfold wrP; omega)]; exact r9 i i0 i1
  · rw [e 108 _ (by unfold wrP; omega)]; exact r10 d d0 d1
  · rw [e 108 _ (by unfold wrP; omega)]; exact r11 b b0 b1
  · rw [e 108 _ (by unfold wrP; omega)]; exact r12 i i0 i1
theorem WR.fr {S : Int → Int → Prop} (R : WR h p) (f : Fr S h h') (hn : ∀ k j, S k j → ¬ wrP k j) : WR h' p := R.of (fun k j hw => f k j (fun z => hn k j z hw))
theorem WR.set {k j v : Int} (R : WR h p) (hn : ¬ wrP k j) : WR (zset h k j v) p := R.fr (S := fun a b => a = k ∧ b = j) (Fr.rf.set ⟨rfl, rfl⟩) (fun a b z => by obtain ⟨rfl, rfl⟩ := z; exact hn)
/-- the plan held -/
def PlR (h : zH) (p : Pb) (q : Int → Int) : Prop := ∀ b, 0 ≤ b → b < pNb p → h 123 b = q b
def CaR (h : zH) (p : Pb) (q : Int → Int) : Prop := ∀ d, 0 ≤ d → d < pDays p → h 124 d = cashP p q d
theorem PlR.fr {S : Int → Int → Prop} (R : PlR h p q) (f : Fr S h h') (hn : ∀ k j, S k j → k ≠ 123) : PlR h' p q := fun b b0 b1 => (f _ _ (fun z => hn _ _ z rfl)).trans (R b b0 b1)
end WRa
theorem sumI_swap (f : Int → Int → Int) {m : Int} (m0 : 0 ≤ m) : ∀ k : Int, 0 ≤ k → sumI (fun d => sumI (fun b => f d b) m) k = sumI (fun b => sumI (fun d => f d b) k) m := by
  refine up_ind ?_ (fun j hj ih => ?_)
  · rw [sumI_0 _ (by omega)]
    exact (sumI_zero (fun b _ _ => sumI_0 _ (by omega))).symm
  · rw [sumI_s _ hj, ih, ← sumI_add]
    exact sumI_congr (fun b _ _ => (sumI_s _ hj).symm)
theorem sumI_at {f : Int → Int} {k x : Int} (x0 : 0 ≤ x) (x1 : x < k) (h : ∀ j, 0 ≤ j → j < k → j ≠ x → f j = 0) : sumI f k = f x := by
  have := sumI_one (f := f) (g := fun _ => 0) x0 x1 (fun j j0 j1 w => h j j0 j1 w)
  rw [this, sumI_zero (fun _ _ _ => rfl)]
  omega
theorem total_days {p : Pb} (V : PV p) {q : Int → Int} (q0 : ∀ b, 0 ≤ q b) (q1 : ∀ b, q b ≤ pDays p) : sumI (outP p q) (pDays p) + (outP p q (pDays p) - (if usedP p q (pDays p) then pFee p else 0)) = totalP p q := by
  have dy := V.days
  have nb := V.nb
  unfold totalP feesP costsP
  have e1 : sumI (outP p q) (pDays p) = sumI (fun d => if usedP p q d then pFee p else 0) (pDays p) + sumI (fun d => sumI (fun b => if onP p q d b then priceP p b d else 0) (pNb p)) (pDays p) := sumI_add _ _ _
  have e2 : outP p q (pDays p) - (if usedP p q (pDays p) then pFee p else 0) = sumI (fun b => if onP p q (pDays p) b then priceP p b (pDays p) else 0) (pNb p) := by unfold outP; omega
  have e3 : sumI (fun d => sumI (fun b => if onP p q d b then priceP p b d else 0) (pNb p)) (pDays p + 1) = sumI (fun b => if pIn p b then priceP p b (q b) else 0) (pNb p) := by
    rw [sumI_swap _ nb.1 _ (by omega)]
    refine sumI_congr (fun b b0 b1 => ?_)
    rw [sumI_at (x := q b) (q0 b) (by have := q1 b; omega) (fun j _ _ w => ?_)]
    · have : onP p q (q b) b = pIn p b := by unfold onP; rw [beq_self_eq_true, Bool.and_true]
      rw [this]
    · have : onP p q j b = false := by unfold onP; rw [show (q b == j) = false by simpa using fun z => w z.symm, Bool.and_false]
      rw [this]; rfl
  rw [sumI_s _ (by omega)] at e3
  omega
theorem r_in {d : Nat} {h : zH} {a b c : Int} : zPI d mX10_in [zJ a, zJ b, zJ c] h (d2i (b ≤ a ∧ a ≤ c)) := by
  refine zmet rfl rfl rfl ?_
  refine zS_lload_n (zdec eX10_in 0 rfl) rfl ?_
  refine zS_lload_n (zdec eX10_in 1 rfl) rfl ?_
  refine zS_lcmp (zdec eX10_in 2 rfl) ?_
  refine zS_if_lt (tgt := 17) (zdec eX10_in 3 rfl) rfl (fun c1 => ?_) (fun c1 => ?_)
  · refine zS_iconst (zdec eX10_in 10 rfl) rfl ?_
    exact zlZ (zdec eX10_in 11 rfl) rfl (Or.inl rfl) (by rw [d2i_f (by have := zCmp_lt.mp c1; omega)])
  · refine zS_lload_n (zdec eX10_in 4 rfl) rfl ?_
    refine zS_lload (zdec eX10_in 5 rfl) rfl ?_
    refine zS_lcmp (zdec eX10_in 6 rfl) ?_
    refine zS_if_gt (tgt := 17) (zdec eX10_in 7 rfl) rfl (fun c2 => ?_) (fun c2 => ?_)
    · refine zS_iconst (zdec eX10_in 10 rfl) rfl ?_
      exact zlZ (zdec eX10_in 11 rfl) rfl (Or.inl rfl) (by rw [d2i_f (by have := zCmp_gt.mp c2; omega)])
    · refine zS_iconst (zdec eX10_in 8 rfl) rfl ?_
      refine zS_goto (tgt := 18) (zdec eX10_in 9 rfl) rfl ?_
      exact zlZ (zdec eX10_in 11 rfl) rfl (Or.inr rfl) (by rw [d2i_t (by have := mt zCmp_lt.mpr c1; have := mt zCmp_gt.mpr c2; omega)])
theorem r_isBit {d : Nat} {h : zH} {a k : Int} : zPI d mX10_isBit [zI a, zI k] h (b2i (bitB a k)) := by
  refine zmet rfl rfl rfl ?_
  refine zS_iload_n (zdec eX10_isBit 0 rfl) rfl ?_
  refine zS_iload_n (zdec eX10_isBit 1 rfl) rfl ?_
  refine zS_ishr (zdec eX10_isBit 2 rfl) ?_
  refine zS_iconst (zdec eX10_isBit 3 rfl) rfl ?_
  refine zS_iand (zdec eX10_isBit 4 rfl) ?_
  refine zS_iconst (zdec eX10_isBit 5 rfl) rfl ?_
  refine zS_icmp_ne (tgt := 13) (zdec eX10_isBit 6 rfl) rfl (fun c1 => ?_) (fun c1 => ?_)
  · refine zS_iconst (zdec eX10_isBit 9 rfl) rfl ?_
    exact zlZ (zdec eX10_isBit 10 rfl) rfl (Or.inl rfl) (by rw [bitB_f.mpr c1]; rfl)
  · refine zS_iconst (zdec eX10_isBit 7 rfl) rfl ?_
    refine zS_goto (tgt := 14) (zdec eX10_isBit 8 rfl) rfl ?_
    exact zlZ (zdec eX10_isBit 10 rfl) rfl (Or.inr rfl) (by rw [bitB_t.mpr c1]; rfl)
theorem r_lessOf {d : Nat} {h : zH} {a b : Int} : zPI d mX10_lessOf [zI a, zI b] h (min a b) := by
  refine zmet rfl rfl rfl ?_
  refine zS_iload_n (zdec eX10_lessOf 0 rfl) rfl ?_
  refine zS_iload_n (zdec eX10_lessOf 1 rfl) rfl ?_
  refine zS_icmp_ge (tgt := 9) (zdec eX10_lessOf 2 rfl) rfl (fun c1 => ?_) (fun c1 => ?_)
  · refine zS_iload_n (zdec eX10_lessOf 5 rfl) rfl ?_
    exact zlI (zdec eX10_lessOf 6 rfl) rfl (by omega)
  · refine zS_iload_n (zdec eX10_lessOf 3 rfl) rfl ?_
    refine zS_goto (tgt := 10) (zdec eX10_lessOf 4 rfl) rfl ?_
    exact zlI (zdec eX10_lessOf 6 rfl) rfl (by omega)
theorem r_moreOf {d : Nat} {h : zH} {a b : Int} : zPI d mX10_moreOf [zI a, zI b] h (max a b) := by
  refine zmet rfl rfl rfl ?_
  refine zS_iload_n (zdec eX10_moreOf 0 rfl) rfl ?_
  refine zS_iload_n (zdec eX10_moreOf 1 rfl) rfl ?_
  refine zS_icmp_le (tgt := 9) (zdec eX10_moreOf 2 rfl) rfl (fun c1 => ?_) (fun c1 => ?_)
  · refine zS_iload_n (zdec eX10_moreOf 5 rfl) rfl ?_
    exact zlI (zdec eX10_moreOf 6 rfl) rfl (by omega)
  · refine zS_iload_n (zdec eX10_moreOf 3 rfl) rfl ?_
    refine zS_goto (tgt := 10) (zdec eX10_moreOf 4 rfl) rfl ?_
    exact zlI (zdec eX10_moreOf 6 rfl) rfl (by omega)
theorem r_days {d : Nat} {h : zH} {p : Pb} (R : WR h p) : zPI d mX10_days [zA 108] h (pDays p) := by
  refine zmet rfl rfl rfl ?_
  refine zS_aload_n (zdec eX10_days 0 rfl) rfl rfl ?_
  refine zS_getref (i := 61) (zdec eX10_days 1 rfl) kF_X10_34 ⟨by decide, rfl⟩ rfl rfl rfl rfl rfl ?_
  refine zS_iconst (zdec eX10_days 2 rfl) rfl ?_
  refine zS_ialoadE (v := (pDays p)) (zdec eX10_days 3 rfl) ⟨by decide, rfl⟩ (by decide) (by decide) R.days ?_
  exact zlI (zdec eX10_days 4 rfl) rfl rfl
theorem r_bills {d : Nat} {h : zH} {p : Pb} (R : WR h p) : zPI d mX10_bills [zA 108] h (pNb p) := by
  refine zmet rfl rfl rfl ?_
  refine zS_aload_n (zdec eX10_bills 0 rfl) rfl rfl ?_
  refine zS_getref (i := 61) (zdec eX10_bills 1 rfl) kF_X10_34 ⟨by decide, rfl⟩ rfl rfl rfl rfl rfl ?_
  refine zS_bipush (zdec eX10_bills 2 rfl) rfl rfl ?_
  refine zS_ialoadE (v := (pNb p)) (zdec eX10_bills 3 rfl) ⟨by decide, rfl⟩ (by decide) (by decide) R.nb ?_
  exact zlI (zdec eX10_bills 4 rfl) rfl rfl
theorem r_isThere {d : Nat} {h : zH} {p : Pb} {b : Int} (hd : 1 ≤ d) (V : PV p) (R : WR h p) (b0 : 0 ≤ b) (b1 : b < pNb p) : zPI d mX10_isThere [zA 108, zI b] h (b2i (pIn p b)) := by
  have ri := R.in' b0 b1
  refine zmet rfl rfl rfl ?_
  refine zS_aload_n (zdec eX10_isThere 0 rfl) rfl rfl ?_
  refine zS_getfieldE (x := 26) (v := (h 108 26)) (zdec eX10_isThere 1 rfl) kF_X10_255 ⟨by decide, rfl⟩ rfl rfl rfl rfl ?_
  refine zS_iload_n (zdec eX10_isThere 2 rfl) rfl ?_
  refine zsI (M' := mX10_isBit) (As := [zI (h 108 26), zI b]) (st := []) (zdec eX10_isThere 3 rfl) kM_X10_264 kS_X10_isBit rfl rfl rfl (by omega) r_isBit ?_
  refine zS_if_ne (tgt := 15) (zdec eX10_isThere 4 rfl) rfl (fun c1 => ?_) (fun c1 => ?_)
  · have z1 := b2i_n.mp c1
    refine zS_iconst (zdec eX10_isThere 7 rfl) rfl ?_
    exact zlZ (zdec eX10_isThere 8 rfl) rfl (Or.inl rfl) (by rw [z1] at ri; cases hh : pIn p b <;> rw [hh] at ri <;> first | rfl | cases ri)
  · have z1 := b2i_0.mp c1
    refine zS_iconst (zdec eX10_isThere 5 rfl) rfl ?_
    refine zS_goto (tgt := 16) (zdec eX10_isThere 6 rfl) rfl ?_
    exact zlZ (zdec eX10_isThere 8 rfl) rfl (Or.inr rfl) (by rw [z1] at ri; cases hh : pIn p b <;> rw [hh] at ri <;> first | rfl | cases ri)
theorem r_offOf {d : Nat} {h : zH} {p : Pb} {b : Int} (V : PV p) (R : WR h p) (b0 : 0 ≤ b) (b1 : b < pNb p) : zPI d mX10_offOf [zA 108, zI b] h (gainP p b) := by
  have nb := V.nb
  have dy := V.days
  have n1 := V.net b0 b1
  have n2 := V.off b0 b1
  have m := mulB n1.1 n1.2 n2.1 n2.2
  refine zmet rfl rfl rfl ?_
  refine zS_aload_n (zdec eX10_offOf 0 rfl) rfl rfl ?_
  refine zS_getref (i := 68) (zdec eX10_offOf 1 rfl) kF_X10_56 ⟨by decide, rfl⟩ rfl rfl rfl rfl rfl ?_
  refine zS_iload_n (zdec eX10_offOf 2 rfl) rfl ?_
  refine zS_ialoadE (v := (pNet p b)) (zdec eX10_offOf 3 rfl) ⟨by decide, rfl⟩ (by omega) (by omega) (R.net (by omega) (by omega)) ?_
  refine zS_aload_n (zdec eX10_offOf 4 rfl) rfl rfl ?_
  refine zS_getref (i := 67) (zdec eX10_offOf 5 rfl) kF_X10_53 ⟨by decide, rfl⟩ rfl rfl rfl rfl rfl ?_
  refine zS_iload_n (zdec eX10_offOf 6 rfl) rfl ?_
  refine zS_ialoadE (v := (pOff p b)) (zdec eX10_offOf 7 rfl) ⟨by decide, rfl⟩ (by omega) (by omega) (R.off (by omega) (by omega)) ?_
  refine zS_imul (zdec eX10_offOf 8 rfl) ⟨by omega, by omega⟩ ?_
  refine zS_bipush (zdec eX10_offOf 9 rfl) rfl rfl ?_
  refine zS_idiv (zdec eX10_offOf 10 rfl) (by decide) (fun q => absurd q.2 (by decide)) ?_
  exact zlI (zdec eX10_offOf 11 rfl) rfl rfl
theorem r_lateOf {d : Nat} {h : zH} {p : Pb} {b x : Int} (hd : 1 ≤ d) (V : PV p) (R : WR h p) (b0 : 0 ≤ b) (b1 : b < pNb p) (x0 : 0 ≤ x) (x1 : x ≤ 7) : zPI d mX10_lateOf [zA 108, zI b, zI x] h (penP p b x) := by
  have nb := V.nb
  have dy := V.days
  have n1 := V.late b0 b1
  have n2 := V.due b0 b1
  have m := mulB n1.1 n1.2 (show 0 ≤ max 0 (x - pDue p b) by omega) (show max 0 (x - pDue p b) ≤ 7 by omega)
  refine zmet rfl rfl rfl ?_
  refine zS_aload_n (zdec eX10_lateOf 0 rfl) rfl rfl ?_
  refine zS_getref (i := 63) (zdec eX10_lateOf 1 rfl) kF_X10_40 ⟨by decide, rfl⟩ rfl rfl rfl rfl rfl ?_
  refine zS_bipush (zdec eX10_lateOf 2 rfl) rfl rfl ?_
  refine zS_iload_n (zdec eX10_lateOf 3 rfl) rfl ?_
  refine zS_imul (zdec eX10_lateOf 4 rfl) ⟨by omega, by omega⟩ ?_
  refine zS_iconst (zdec eX10_lateOf 5 rfl) rfl ?_
  refine zS_iadd (zdec eX10_lateOf 6 rfl) ⟨by omega, by omega⟩ ?_
  refine zS_ialoadE (v := (pLate p b)) (zdec eX10_lateOf 7 rfl) ⟨by decide, rfl⟩ (by omega) (by omega) (R.late (by omega) (by omega)) ?_
  refine zS_iconst (zdec eX10_lateOf 8 rfl) rfl ?_
  refine zS_iload_n (zdec eX10_lateOf 9 rfl) rfl ?_
  refine zS_aload_n (zdec eX10_lateOf 10 rfl) rfl rfl ?_
  refine zS_getref (i := 63) (zdec eX10_lateOf 11 rfl) kF_X10_40 ⟨by decide, rfl⟩ rfl rfl rfl rfl rfl ?_
  refine zS_bipush (zdec eX10_lateOf 12 rfl) rfl rfl ?_
  refine zS_iload_n (zdec eX10_lateOf 13 rfl) rfl ?_
  refine zS_imul (zdec eX10_lateOf 14 rfl) ⟨by omega, by omega⟩ ?_
  refine zS_iconst (zdec eX10_lateOf 15 rfl) rfl ?_
  refine zS_iadd (zdec eX10_lateOf 16 rfl) ⟨by omega, by omega⟩ ?_
  refine zS_ialoadE (v := (pDue p b)) (zdec eX10_lateOf 17 rfl) ⟨by decide, rfl⟩ (by omega) (by omega) (R.due (by omega) (by omega)) ?_
  refine zS_isub (zdec eX10_lateOf 18 rfl) ⟨by omega, by omega⟩ ?_
  refine zsI (M' := mX10_moreOf) (As := [zI 0, zI (x - (pDue p b))]) (st := [zI (pLate p b)]) (zdec eX10_lateOf 19 rfl) kM_X10_268 kS_X10_moreOf rfl rfl rfl (by omega) r_moreOf ?_
  refine zS_imul (zdec eX10_lateOf 20 rfl) ⟨by omega, by omega⟩ ?_
  exact zlI (zdec eX10_lateOf 21 rfl) rfl (by unfold penP; split; rw [Int.max_eq_right (by omega), Int.mul_comm]; rw [Int.max_eq_left (by omega)]; omega)
theorem r_costOf {d : Nat} {h : zH} {p : Pb} {b x : Int} (hd : 2 ≤ d) (V : PV p) (R : WR h p) (b0 : 0 ≤ b) (b1 : b < pNb p) (x0 : 0 ≤ x) (x1 : x ≤ 7) : zPI d mX10_costOf [zA 108, zI b, zI x] h (priceP p b x) := by
  have nb := V.nb
  have dy := V.days
  have n1 := V.net b0 b1
  have n2 := gainB V b0 b1
  have n3 := penB V b0 b1 x1
  refine zmet rfl rfl rfl ?_
  refine zS_aload_n (zdec eX10_costOf 0 rfl) rfl rfl ?_
  refine zS_getref (i := 68) (zdec eX10_costOf 1 rfl) kF_X10_56 ⟨by decide, rfl⟩ rfl rfl rfl rfl rfl ?_
  refine zS_iload_n (zdec eX10_costOf 2 rfl) rfl ?_
  refine zS_ialoadE (v := (pNet p b)) (zdec eX10_costOf 3 rfl) ⟨by decide, rfl⟩ (by omega) (by omega) (R.net (by omega) (by omega)) ?_
  refine zS_iload_n (zdec eX10_costOf 4 rfl) rfl ?_
  refine zS_aload_n (zdec eX10_costOf 5 rfl) rfl rfl ?_
  refine zvI (M' := mX10_days) (As := []) (st := [zI x, zI (pNet p b)]) (zdec eX10_costOf 6 rfl) kM_X10_240 kV_X10_days ⟨by decide, rfl⟩ rfl rfl rfl rfl rfl (by omega) (r_days R) ?_
  refine zS_icmp_ge (tgt := 37) (zdec eX10_costOf 7 rfl) rfl (fun c1 => ?_) (fun c1 => ?_)
  · refine zS_iconst (zdec eX10_costOf 22 rfl) rfl ?_
    refine zS_isub (zdec eX10_costOf 23 rfl) ⟨by omega, by omega⟩ ?_
    refine zS_aload_n (zdec eX10_costOf 24 rfl) rfl rfl ?_
    refine zS_iload_n (zdec eX10_costOf 25 rfl) rfl ?_
    refine zS_iload_n (zdec eX10_costOf 26 rfl) rfl ?_
    refine zvI (M' := mX10_lateOf) (As := [zI b, zI x]) (st := [zI ((pNet p b) - 0)]) (zdec eX10_costOf 27 rfl) kM_X10_274 kV_X10_lateOf ⟨by decide, rfl⟩ rfl rfl rfl rfl rfl (by omega) (r_lateOf (by omega) V R (by omega) (by omega) (by omega) (by omega)) ?_
    refine zS_iadd (zdec eX10_costOf 28 rfl) ⟨by omega, by omega⟩ ?_
    exact zlI (zdec eX10_costOf 29 rfl) rfl (by unfold priceP; rw [if_neg (by omega)])
  · refine zS_iload_n (zdec eX10_costOf 8 rfl) rfl ?_
    refine zS_aload_n (zdec eX10_costOf 9 rfl) rfl rfl ?_
    refine zS_getref (i := 63) (zdec eX10_costOf 10 rfl) kF_X10_40 ⟨by decide, rfl⟩ rfl rfl rfl rfl rfl ?_
    refine zS_bipush (zdec eX10_costOf 11 rfl) rfl rfl ?_
    refine zS_iload_n (zdec eX10_costOf 12 rfl) rfl ?_
    refine zS_imul (zdec eX10_costOf 13 rfl) ⟨by omega, by omega⟩ ?_
    refine zS_iconst (zdec eX10_costOf 14 rfl) rfl ?_
    refine zS_iadd (zdec eX10_costOf 15 rfl) ⟨by omega, by omega⟩ ?_
    refine zS_ialoadE (v := (pBy p b)) (zdec eX10_costOf 16 rfl) ⟨by decide, rfl⟩ (by omega) (by omega) (R.by' (by omega) (by omega)) ?_
    refine zS_icmp_gt (tgt := 37) (zdec eX10_costOf 17 rfl) rfl (fun c2 => ?_) (fun c2 => ?_)
    · refine zS_iconst (zdec eX10_costOf 22 rfl) rfl ?_
      refine zS_isub (zdec eX10_costOf 23 rfl) ⟨by omega, by omega⟩ ?_
      refine zS_aload_n (zdec eX10_costOf 24 rfl) rfl rfl ?_
      refine zS_iload_n (zdec eX10_costOf 25 rfl) rfl ?_
      refine zS_iload_n (zdec eX10_costOf 26 rfl) rfl ?_
      refine zvI (M' := mX10_lateOf) (As := [zI b, zI x]) (st := [zI ((pNet p b) - 0)]) (zdec eX10_costOf 27 rfl) kM_X10_274 kV_X10_lateOf ⟨by decide, rfl⟩ rfl rfl rfl rfl rfl (by omega) (r_lateOf (by omega) V R (by omega) (by omega) (by omega) (by omega)) ?_
      refine zS_iadd (zdec eX10_costOf 28 rfl) ⟨by omega, by omega⟩ ?_
      exact zlI (zdec eX10_costOf 29 rfl) rfl (by unfold priceP; rw [if_neg (by omega)])
    · refine zS_aload_n (zdec eX10_costOf 18 rfl) rfl rfl ?_
      refine zS_iload_n (zdec eX10_costOf 19 rfl) rfl ?_
      refine zvI (M' := mX10_offOf) (As := [zI b]) (st := [zI (pNet p b)]) (zdec eX10_costOf 20 rfl) kM_X10_271 kV_X10_offOf ⟨by decide, rfl⟩ rfl rfl rfl rfl rfl (by omega) (r_offOf V R (by omega) (by omega)) ?_
      refine zS_goto (tgt := 38) (zdec eX10_costOf 21 rfl) rfl ?_
      refine zS_isub (zdec eX10_costOf 23 rfl) ⟨by omega, by omega⟩ ?_
      refine zS_aload_n (zdec eX10_costOf 24 rfl) rfl rfl ?_
      refine zS_iload_n (zdec eX10_costOf 25 rfl) rfl ?_
      refine zS_iload_n (zdec eX10_costOf 26 rfl) rfl ?_
      refine zvI (M' := mX10_lateOf) (As := [zI b, zI x]) (st := [zI ((pNet p b) - (gainP p b))]) (zdec eX10_costOf 27 rfl) kM_X10_274 kV_X10_lateOf ⟨by decide, rfl⟩ rfl rfl rfl rfl rfl (by omega) (r_lateOf (by omega) V R (by omega) (by omega) (by omega) (by omega)) ?_
      refine zS_iadd (zdec eX10_costOf 28 rfl) ⟨by omega, by omega⟩ ?_
      exact zlI (zdec eX10_costOf 29 rfl) rfl (by unfold priceP; rw [if_pos ⟨by omega, by omega⟩])
theorem r_spanOf {d : Nat} {h : zH} {p : Pb} {b : Int} (hd : 1 ≤ d) (V : PV p) (R : WR h p) (b0 : 0 ≤ b) (b1 : b < pNb p) : zPI d mX10_spanOf [zA 108, zI b] h (spanP p b) := by
  have nb := V.nb
  have dy := V.days
  have n1 := V.by' b0 b1
  have n2 := V.due b0 b1
  refine zmet rfl rfl rfl ?_
  refine zS_iconst (zdec eX10_spanOf 0 rfl) rfl ?_
  refine zS_aload_n (zdec eX10_spanOf 1 rfl) rfl rfl ?_
  refine zS_getref (i := 63) (zdec eX10_spanOf 2 rfl) kF_X10_40 ⟨by decide, rfl⟩ rfl rfl rfl rfl rfl ?_
  refine zS_bipush (zdec eX10_spanOf 3 rfl) rfl rfl ?_
  refine zS_iload_n (zdec eX10_spanOf 4 rfl) rfl ?_
  refine zS_imul (zdec eX10_spanOf 5 rfl) ⟨by omega, by omega⟩ ?_
  refine zS_iconst (zdec eX10_spanOf 6 rfl) rfl ?_
  refine zS_iadd (zdec eX10_spanOf 7 rfl) ⟨by omega, by omega⟩ ?_
  refine zS_ialoadE (v := (pDue p b)) (zdec eX10_spanOf 8 rfl) ⟨by decide, rfl⟩ (by omega) (by omega) (R.due (by omega) (by omega)) ?_
  refine zS_aload_n (zdec eX10_spanOf 9 rfl) rfl rfl ?_
  refine zS_getref (i := 63) (zdec eX10_spanOf 10 rfl) kF_X10_40 ⟨by decide, rfl⟩ rfl rfl rfl rfl rfl ?_
  refine zS_bipush (zdec eX10_spanOf 11 rfl) rfl rfl ?_
  refine zS_iload_n (zdec eX10_spanOf 12 rfl) rfl ?_
  refine zS_imul (zdec eX10_spanOf 13 rfl) ⟨by omega, by omega⟩ ?_
  refine zS_iconst (zdec eX10_spanOf 14 rfl) rfl ?_
  refine zS_iadd (zdec eX10_spanOf 15 rfl) ⟨by omega, by omega⟩ ?_
  refine zS_ialoadE (v := (pBy p b)) (zdec eX10_spanOf 16 rfl) ⟨by decide, rfl⟩ (by omega) (by omega) (R.by' (by omega) (by omega)) ?_
  refine zS_isub (zdec eX10_spanOf 17 rfl) ⟨by omega, by omega⟩ ?_
  refine zsI (M' := mX10_moreOf) (As := [zI 1, zI ((pDue p b) - (pBy p b))]) (st := []) (zdec eX10_spanOf 18 rfl) kM_X10_268 kS_X10_moreOf rfl rfl rfl (by omega) r_moreOf ?_
  exact zlI (zdec eX10_spanOf 19 rfl) rfl (by unfold spanP; split <;> omega)
theorem L_rcame {d : Nat} {h : zH} {p : Pb} {x : Int} (hd : 1 ≤ d) (V : PV p) (R : WR h p) : ∀ (n : Nat) (e : Int), 0 ≤ e → e + n = pNl p → zS mX10_cameBy (zr d) 7 [zA 108, zI x, zI (pCash p + sumI (fun i => if pOn p i ≤ x ∧ pCm p i = true then pAmt p i else 0) e), zI e] [] TT h (zOne (cameP p x) h) := by
  intro n
  induction n with
  | zero =>
    intro e a1 a2
    refine zS_iload_n (zdec eX10_cameBy 5 rfl) rfl ?_
    refine zS_aload_n (zdec eX10_cameBy 6 rfl) rfl rfl ?_
    refine zS_getref (i := 61) (zdec eX10_cameBy 7 rfl) kF_X10_34 ⟨by decide, rfl⟩ rfl rfl rfl rfl rfl ?_
    refine zS_bipush (zdec eX10_cameBy 8 rfl) rfl rfl ?_
    refine zS_ialoadE (v := (pNl p)) (zdec eX10_cameBy 9 rfl) ⟨by decide, rfl⟩ (by decide) (by decide) R.nl ?_
    refine zS_icmp_ge (tgt := 64) (zdec eX10_cameBy 10 rfl) rfl (fun cz => ?_) (fun cz => absurd (by omega) cz)
    refine zS_iload_n (zdec eX10_cameBy 39 rfl) rfl ?_
    exact zlI (zdec eX10_cameBy 40 rfl) rfl (by unfold cameP; rw [show pNl p = e by omega])
  | succ n ih =>
    intro e a1 a2
    have nl := V.nl
    have ri := R.cm a1 (show e < pNl p by omega)
    have am := V.amt a1 (show e < pNl p by omega)
    have ca := V.cash
    have s0 := sumI_nn (f := (fun i => if pOn p i ≤ x ∧ pCm p i = true then pAmt p i else 0)) (k := e) (fun j j0 j1 => by have := V.amt j0 (show j < pNl p by omega); split <;> omega)
    have s1 := sumI_le (f := (fun i => if pOn p i ≤ x ∧ pCm p i = true then pAmt p i else 0)) (k := e) (B := 3000) a1 (fun j j0 j1 => by have := V.amt j0 (show j < pNl p by omega); split <;> omega)
    refine zS_iload_n (zdec eX10_cameBy 5 rfl) rfl ?_
    refine zS_aload_n (zdec eX10_cameBy 6 rfl) rfl rfl ?_
    refine zS_getref (i := 61) (zdec eX10_cameBy 7 rfl) kF_X10_34 ⟨by decide, rfl⟩ rfl rfl rfl rfl rfl ?_
    refine zS_bipush (zdec eX10_cameBy 8 rfl) rfl rfl ?_
    refine zS_ialoadE (v := (pNl p)) (zdec eX10_cameBy 9 rfl) ⟨by decide, rfl⟩ (by decide) (by decide) R.nl ?_
    refine zS_icmp_ge (tgt := 64) (zdec eX10_cameBy 10 rfl) rfl (fun cz => absurd cz (by omega)) (fun cz => ?_)
    refine zS_iload_n (zdec eX10_cameBy 11 rfl) rfl ?_
    refine zS_aload_n (zdec eX10_cameBy 12 rfl) rfl rfl ?_
    refine zS_getref (i := 64) (zdec eX10_cameBy 13 rfl) kF_X10_43 ⟨by decide, rfl⟩ rfl rfl rfl rfl rfl ?_
    refine zS_iconst (zdec eX10_cameBy 14 rfl) rfl ?_
    refine zS_iload_n (zdec eX10_cameBy 15 rfl) rfl ?_
    refine zS_imul (zdec eX10_cameBy 16 rfl) ⟨by omega, by omega⟩ ?_
    refine zS_iconst (zdec eX10_cameBy 17 rfl) rfl ?_
    refine zS_iadd (zdec eX10_cameBy 18 rfl) ⟨by omega, by omega⟩ ?_
    refine zS_ialoadE (v := (pOn p e)) (zdec eX10_cameBy 19 rfl) ⟨by decide, rfl⟩ (by omega) (by omega) (R.on' (by omega) (by omega)) ?_
    refine zS_iload_n (zdec eX10_cameBy 20 rfl) rfl ?_
    refine zS_icmp_gt (tgt := 55) (zdec eX10_cameBy 21 rfl) rfl (fun c1 => ?_) (fun c1 => ?_)
    · refine zS_iconst (zdec eX10_cameBy 34 rfl) rfl ?_
      refine zS_iadd (zdec eX10_cameBy 35 rfl) ⟨by omega, by omega⟩ ?_
      refine zS_istore_n (zdec eX10_cameBy 36 rfl) rfl ?_
      refine zS_iinc (zdec eX10_cameBy 37 rfl) rfl rfl ⟨by omega, by omega⟩ ?_
      refine zS_goto (tgt := 7) (zdec eX10_cameBy 38 rfl) rfl ?_
      have k := ih (e + 1) (by omega) (by omega)
      rw [sumI_s _ a1] at k
      rw [if_neg (fun w => by have := w.1; omega), Int.add_zero] at k
      rw [Int.add_zero]
      exact k
    · refine zS_aload_n (zdec eX10_cameBy 22 rfl) rfl rfl ?_
      refine zS_getfieldE (x := 28) (v := (h 108 28)) (zdec eX10_cameBy 23 rfl) kF_X10_258 ⟨by decide, rfl⟩ rfl rfl rfl rfl ?_
      refine zS_iload_n (zdec eX10_cameBy 24 rfl) rfl ?_
      refine zsI (M' := mX10_isBit) (As := [zI (h 108 28), zI e]) (st := [zI (pCash p + sumI (fun i => if pOn p i ≤ x ∧ pCm p i = true then pAmt p i else 0) e)]) (zdec eX10_cameBy 25 rfl) kM_X10_264 kS_X10_isBit rfl rfl rfl (by omega) r_isBit ?_
      refine zS_if_ne (tgt := 55) (zdec eX10_cameBy 26 rfl) rfl (fun c2 => ?_) (fun c2 => ?_)
      · have z2 := b2i_n.mp c2
        refine zS_iconst (zdec eX10_cameBy 34 rfl) rfl ?_
        refine zS_iadd (zdec eX10_cameBy 35 rfl) ⟨by omega, by omega⟩ ?_
        refine zS_istore_n (zdec eX10_cameBy 36 rfl) rfl ?_
        refine zS_iinc (zdec eX10_cameBy 37 rfl) rfl rfl ⟨by omega, by omega⟩ ?_
        refine zS_goto (tgt := 7) (zdec eX10_cameBy 38 rfl) rfl ?_
        have k := ih (e + 1) (by omega) (by omega)
        rw [sumI_s _ a1] at k
        rw [if_neg (fun w => by rw [w.2, z2] at ri; cases ri), Int.add_zero] at k
        rw [Int.add_zero]
        exact k
      · have z2 := b2i_0.mp c2
        refine zS_aload_n (zdec eX10_cameBy 27 rfl) rfl rfl ?_
        refine zS_getref (i := 64) (zdec eX10_cameBy 28 rfl) kF_X10_43 ⟨by decide, rfl⟩ rfl rfl rfl rfl rfl ?_
        refine zS_iconst (zdec eX10_cameBy 29 rfl) rfl ?_
        refine zS_iload_n (zdec eX10_cameBy 30 rfl) rfl ?_
        refine zS_imul (zdec eX10_cameBy 31 rfl) ⟨by omega, by omega⟩ ?_
        refine zS_ialoadE (v := (pAmt p e)) (zdec eX10_cameBy 32 rfl) ⟨by decide, rfl⟩ (by omega) (by omega) (R.amt (by omega) (by omega)) ?_
        refine zS_goto (tgt := 56) (zdec eX10_cameBy 33 rfl) rfl ?_
        refine zS_iadd (zdec eX10_cameBy 35 rfl) ⟨by omega, by omega⟩ ?_
        refine zS_istore_n (zdec eX10_cameBy 36 rfl) rfl ?_
        refine zS_iinc (zdec eX10_cameBy 37 rfl) rfl rfl ⟨by omega, by omega⟩ ?_
        refine zS_goto (tgt := 7) (zdec eX10_cameBy 38 rfl) rfl ?_
        have k := ih (e + 1) (by omega) (by omega)
        rw [sumI_s _ a1] at k
        rw [if_pos ⟨by omega, by rw [z2] at ri; cases hh : pCm p e <;> rw [hh] at ri <;> first | rfl | cases ri⟩, ← Int.add_assoc] at k
        exact k
theorem r_cameBy {d : Nat} {h : zH} {p : Pb} {x : Int} (hd : 1 ≤ d) (V : PV p) (R : WR h p) : zPI d mX10_cameBy [zA 108, zI x] h (cameP p x) := by
  have nl := V.nl
  refine zmet rfl rfl rfl ?_
  refine zS_aload_n (zdec eX10_cameBy 0 rfl) rfl rfl ?_
  refine zS_getfieldE (x := 24) (v := (pCash p)) (zdec eX10_cameBy 1 rfl) kF_X10_249 ⟨by decide, rfl⟩ rfl rfl rfl R.cash ?_
  refine zS_istore_n (zdec eX10_cameBy 2 rfl) rfl ?_
  refine zS_iconst (zdec eX10_cameBy 3 rfl) rfl ?_
  refine zS_istore_n (zdec eX10_cameBy 4 rfl) rfl ?_
  have k := L_rcame (x := x) hd V R (pNl p).toNat 0 (by omega) (by omega)
  rw [sumI_0 _ (by omega), Int.add_zero] at k
  exact k
theorem L_rused {d : Nat} {h : zH} {p : Pb} {q : Int → Int} {x : Int} (hd : 2 ≤ d) (V : PV p) (R : WR h p) (S : PlR h p q) : ∀ (n : Nat) (e : Int), 0 ≤ e → e + n = pNb p → anyI (onP p q x) e = false → zS mX10_isUsed (zr d) 2 [zA 108, zI x, zI e] [] TT h (zOne (b2i (usedP p q x)) h) := by
  intro n
  induction n with
  | zero =>
    intro e a1 a2 a3
    refine zS_iload_n (zdec eX10_isUsed 2 rfl) rfl ?_
    refine zS_aload_n (zdec eX10_isUsed 3 rfl) rfl rfl ?_
    refine zvI (M' := mX10_bills) (As := []) (st := [zI e]) (zdec eX10_isUsed 4 rfl) kM_X10_236 kV_X10_bills ⟨by decide, rfl⟩ rfl rfl rfl rfl rfl (by omega) (r_bills R) ?_
    refine zS_icmp_ge (tgt := 36) (zdec eX10_isUsed 5 rfl) rfl (fun cz => ?_) (fun cz => absurd (by omega) cz)
    refine zS_iconst (zdec eX10_isUsed 20 rfl) rfl ?_
    exact zlZ (zdec eX10_isUsed 21 rfl) rfl (Or.inl rfl) (by unfold usedP; rw [show pNb p = e by omega, a3]; rfl)
  | succ n ih =>
    intro e a1 a2 a3
    have nb := V.nb
    refine zS_iload_n (zdec eX10_isUsed 2 rfl) rfl ?_
    refine zS_aload_n (zdec eX10_isUsed 3 rfl) rfl rfl ?_
    refine zvI (M' := mX10_bills) (As := []) (st := [zI e]) (zdec eX10_isUsed 4 rfl) kM_X10_236 kV_X10_bills ⟨by decide, rfl⟩ rfl rfl rfl rfl rfl (by omega) (r_bills R) ?_
    refine zS_icmp_ge (tgt := 36) (zdec eX10_isUsed 5 rfl) rfl (fun cz => absurd cz (by omega)) (fun cz => ?_)
    refine zS_aload_n (zdec eX10_isUsed 6 rfl) rfl rfl ?_
    refine zS_iload_n (zdec eX10_isUsed 7 rfl) rfl ?_
    refine zvI (M' := mX10_isThere) (As := [zI e]) (st := []) (zdec eX10_isUsed 8 rfl) kM_X10_277 kV_X10_isThere ⟨by decide, rfl⟩ rfl rfl rfl rfl rfl (by omega) (r_isThere (by omega) V R (by omega) (by omega)) ?_
    refine zS_if_eq (tgt := 30) (zdec eX10_isUsed 9 rfl) rfl (fun c1 => ?_) (fun c1 => ?_)
    · have z1 := b2i_0.mp c1
      refine zS_iinc (zdec eX10_isUsed 18 rfl) rfl rfl ⟨by omega, by omega⟩ ?_
      refine zS_goto (tgt := 2) (zdec eX10_isUsed 19 rfl) rfl ?_
      exact ih (e + 1) (by omega) (by omega) (by rw [anyI_s _ a1, a3, Bool.false_or]; unfold onP; rw [z1, Bool.false_and])
    · have z1 := b2i_n.mp c1
      refine zS_aload_n (zdec eX10_isUsed 10 rfl) rfl rfl ?_
      refine zS_getref (i := 69) (zdec eX10_isUsed 11 rfl) kF_X10_59 ⟨by decide, rfl⟩ rfl rfl rfl rfl rfl ?_
      refine zS_iload_n (zdec eX10_isUsed 12 rfl) rfl ?_
      refine zS_ialoadE (v := (q e)) (zdec eX10_isUsed 13 rfl) ⟨by decide, rfl⟩ (by omega) (by omega) (S e (by omega) (by omega)) ?_
      refine zS_iload_n (zdec eX10_isUsed 14 rfl) rfl ?_
      refine zS_icmp_ne (tgt := 30) (zdec eX10_isUsed 15 rfl) rfl (fun c2 => ?_) (fun c2 => ?_)
      · refine zS_iinc (zdec eX10_isUsed 18 rfl) rfl rfl ⟨by omega, by omega⟩ ?_
        refine zS_goto (tgt := 2) (zdec eX10_isUsed 19 rfl) rfl ?_
        exact ih (e + 1) (by omega) (by omega) (by rw [anyI_s _ a1, a3, Bool.false_or]; unfold onP; rw [show (q e == x) = false by simpa using c2, Bool.and_false])
      · refine zS_iconst (zdec eX10_isUsed 16 rfl) rfl ?_
        exact zlZ (zdec eX10_isUsed 17 rfl) rfl (Or.inr rfl) (by unfold usedP; rw [anyI_iff.mpr ⟨e, a1, by omega, by unfold onP; rw [z1, c2, beq_self_eq_true]; rfl⟩]; rfl)
theorem r_isUsed {d : Nat} {h : zH} {p : Pb} {q : Int → Int} {x : Int} (hd : 2 ≤ d) (V : PV p) (R : WR h p) (S : PlR h p q) : zPI d mX10_isUsed [zA 108, zI x] h (b2i (usedP p q x)) := by
  have nb := V.nb
  refine zmet rfl rfl rfl ?_
  refine zS_iconst (zdec eX10_isUsed 0 rfl) rfl ?_
  refine zS_istore_n (zdec eX10_isUsed 1 rfl) rfl ?_
  exact L_rused hd V R S (pNb p).toNat 0 (by omega) (by omega) (anyI_0 _ (by omega))
theorem L_rout {d : Nat} {h : zH} {p : Pb} {q : Int → Int} {x : Int} (hd : 3 ≤ d) (V : PV p) (R : WR h p) (S : PlR h p q) (x0 : 0 ≤ x) (x1 : x ≤ 7) : ∀ (n : Nat) (e : Int), 0 ≤ e → e + n = pNb p → zS mX10_outOn (zr d) 21 [zA 108, zI x, zI ((if usedP p q x then pFee p else 0) + sumI (fun b => if onP p q x b then priceP p b x else 0) e), zI e] [] TT h (zOne (outP p q x) h) := by
  intro n
  induction n with
  | zero =>
    intro e a1 a2
    refine zS_iload_n (zdec eX10_outOn 13 rfl) rfl ?_
    refine zS_aload_n (zdec eX10_outOn 14 rfl) rfl rfl ?_
    refine zvI (M' := mX10_bills) (As := []) (st := [zI e]) (zdec eX10_outOn 15 rfl) kM_X10_236 kV_X10_bills ⟨by decide, rfl⟩ rfl rfl rfl rfl rfl (by omega) (r_bills R) ?_
    refine zS_icmp_ge (tgt := 66) (zdec eX10_outOn 16 rfl) rfl (fun cz => ?_) (fun cz => absurd (by omega) cz)
    refine zS_iload_n (zdec eX10_outOn 38 rfl) rfl ?_
    exact zlI (zdec eX10_outOn 39 rfl) rfl (by unfold outP; rw [show pNb p = e by omega])
  | succ n ih =>
    intro e a1 a2
    have nb := V.nb
    have fe := V.fee
    have ob := onB V q x1 a1 (show e ≤ pNb p by omega)
    have pr := priceB V a1 (show e < pNb p by omega) x1
    have ub : 0 ≤ (if usedP p q x then pFee p else 0) ∧ (if usedP p q x then pFee p else 0) ≤ 200 := by split <;> omega
    refine zS_iload_n (zdec eX10_outOn 13 rfl) rfl ?_
    refine zS_aload_n (zdec eX10_outOn 14 rfl) rfl rfl ?_
    refine zvI (M' := mX10_bills) (As := []) (st := [zI e]) (zdec eX10_outOn 15 rfl) kM_X10_236 kV_X10_bills ⟨by decide, rfl⟩ rfl rfl rfl rfl rfl (by omega) (r_bills R) ?_
    refine zS_icmp_ge (tgt := 66) (zdec eX10_outOn 16 rfl) rfl (fun cz => absurd cz (by omega)) (fun cz => ?_)
    refine zS_iload_n (zdec eX10_outOn 17 rfl) rfl ?_
    refine zS_aload_n (zdec eX10_outOn 18 rfl) rfl rfl ?_
    refine zS_iload_n (zdec eX10_outOn 19 rfl) rfl ?_
    refine zvI (M' := mX10_isThere) (As := [zI e]) (st := [zI ((if usedP p q x then pFee p else 0) + sumI (fun b => if onP p q x b then priceP p b x else 0) e)]) (zdec eX10_outOn 20 rfl) kM_X10_277 kV_X10_isThere ⟨by decide, rfl⟩ rfl rfl rfl rfl rfl (by omega) (r_isThere (by omega) V R (by omega) (by omega)) ?_
    refine zS_if_eq (tgt := 57) (zdec eX10_outOn 21 rfl) rfl (fun c1 => ?_) (fun c1 => ?_)
    · have z1 := b2i_0.mp c1
      refine zS_iconst (zdec eX10_outOn 33 rfl) rfl ?_
      refine zS_iadd (zdec eX10_outOn 34 rfl) ⟨by omega, by omega⟩ ?_
      refine zS_istore_n (zdec eX10_outOn 35 rfl) rfl ?_
      refine zS_iinc (zdec eX10_outOn 36 rfl) rfl rfl ⟨by omega, by omega⟩ ?_
      refine zS_goto (tgt := 21) (zdec eX10_outOn 37 rfl) rfl ?_
      have k := ih (e + 1) (by omega) (by omega)
      rw [sumI_s _ a1] at k
      rw [show onP p q x e = false by unfold onP; rw [z1, Bool.false_and], if_neg (show ¬ (false = true) by decide), Int.add_zero] at k
      rw [Int.add_zero]
      exact k
    · have z1 := b2i_n.mp c1
      refine zS_aload_n (zdec eX10_outOn 22 rfl) rfl rfl ?_
      refine zS_getref (i := 69) (zdec eX10_outOn 23 rfl) kF_X10_59 ⟨by decide, rfl⟩ rfl rfl rfl rfl rfl ?_
      refine zS_iload_n (zdec eX10_outOn 24 rfl) rfl ?_
      refine zS_ialoadE (v := (q e)) (zdec eX10_outOn 25 rfl) ⟨by decide, rfl⟩ (by omega) (by omega) (S e (by omega) (by omega)) ?_
      refine zS_iload_n (zdec eX10_outOn 26 rfl) rfl ?_
      refine zS_icmp_ne (tgt := 57) (zdec eX10_outOn 27 rfl) rfl (fun c2 => ?_) (fun c2 => ?_)
      · refine zS_iconst (zdec eX10_outOn 33 rfl) rfl ?_
        refine zS_iadd (zdec eX10_outOn 34 rfl) ⟨by omega, by omega⟩ ?_
        refine zS_istore_n (zdec eX10_outOn 35 rfl) rfl ?_
        refine zS_iinc (zdec eX10_outOn 36 rfl) rfl rfl ⟨by omega, by omega⟩ ?_
        refine zS_goto (tgt := 21) (zdec eX10_outOn 37 rfl) rfl ?_
        have k := ih (e + 1) (by omega) (by omega)
        rw [sumI_s _ a1] at k
        rw [show onP p q x e = false by unfold onP; rw [show (q e == x) = false by simpa using c2, Bool.and_false], if_neg (show ¬ (false = true) by decide), Int.add_zero] at k
        rw [Int.add_zero]
        exact k
      · refine zS_aload_n (zdec eX10_outOn 28 rfl) rfl rfl ?_
        refine zS_iload_n (zdec eX10_outOn 29 rfl) rfl ?_
        refine zS_iload_n (zdec eX10_outOn 30 rfl) rfl ?_
        refine zvI (M' := mX10_costOf) (As := [zI e, zI x]) (st := [zI ((if usedP p q x then pFee p else 0) + sumI (fun b => if onP p q x b then priceP p b x else 0) e)]) (zdec eX10_outOn 31 rfl) kM_X10_283 kV_X10_costOf ⟨by decide, rfl⟩ rfl rfl rfl rfl rfl (by omega) (r_costOf (by omega) V R (by omega) (by omega) (by omega) (by omega)) ?_
        refine zS_goto (tgt := 58) (zdec eX10_outOn 32 rfl) rfl ?_
        refine zS_iadd (zdec eX10_outOn 34 rfl) ⟨by omega, by omega⟩ ?_
        refine zS_istore_n (zdec eX10_outOn 35 rfl) rfl ?_
        refine zS_iinc (zdec eX10_outOn 36 rfl) rfl rfl ⟨by omega, by omega⟩ ?_
        refine zS_goto (tgt := 21) (zdec eX10_outOn 37 rfl) rfl ?_
        have k := ih (e + 1) (by omega) (by omega)
        rw [sumI_s _ a1] at k
        rw [show onP p q x e = true by unfold onP; rw [z1, c2, beq_self_eq_true]; rfl, if_pos rfl, ← Int.add_assoc] at k
        exact k
theorem r_outOn {d : Nat} {h : zH} {p : Pb} {q : Int → Int} {x : Int} (hd : 3 ≤ d) (V : PV p) (R : WR h p) (S : PlR h p q) (x0 : 0 ≤ x) (x1 : x ≤ 7) : zPI d mX10_outOn [zA 108, zI x] h (outP p q x) := by
  have nb := V.nb
  refine zmet rfl rfl rfl ?_
  refine zS_aload_n (zdec eX10_outOn 0 rfl) rfl rfl ?_
  refine zS_iload_n (zdec eX10_outOn 1 rfl) rfl ?_
  refine zvI (M' := mX10_isUsed) (As := [zI x]) (st := []) (zdec eX10_outOn 2 rfl) kM_X10_280 kV_X10_isUsed ⟨by decide, rfl⟩ rfl rfl rfl rfl rfl (by omega) (r_isUsed (by omega) V R S) ?_
  refine zS_if_eq (tgt := 17) (zdec eX10_outOn 3 rfl) rfl (fun c1 => ?_) (fun c1 => ?_)
  · have z1 := b2i_0.mp c1
    refine zS_iconst (zdec eX10_outOn 9 rfl) rfl ?_
    refine zS_istore_n (zdec eX10_outOn 10 rfl) rfl ?_
    refine zS_iconst (zdec eX10_outOn 11 rfl) rfl ?_
    refine zS_istore_n (zdec eX10_outOn 12 rfl) rfl ?_
    have k := L_rout hd V R S x0 x1 (pNb p).toNat 0 (by omega) (by omega)
    rw [sumI_0 _ (by omega), Int.add_zero, z1, if_neg (by decide)] at k
    exact k
  · have z1 := b2i_n.mp c1
    refine zS_aload_n (zdec eX10_outOn 4 rfl) rfl rfl ?_
    refine zS_getref (i := 61) (zdec eX10_outOn 5 rfl) kF_X10_34 ⟨by decide, rfl⟩ rfl rfl rfl rfl rfl ?_
    refine zS_iconst (zdec eX10_outOn 6 rfl) rfl ?_
    refine zS_ialoadE (v := (pFee p)) (zdec eX10_outOn 7 rfl) ⟨by decide, rfl⟩ (by decide) (by decide) R.fee ?_
    refine zS_goto (tgt := 18) (zdec eX10_outOn 8 rfl) rfl ?_
    refine zS_istore_n (zdec eX10_outOn 10 rfl) rfl ?_
    refine zS_iconst (zdec eX10_outOn 11 rfl) rfl ?_
    refine zS_istore_n (zdec eX10_outOn 12 rfl) rfl ?_
    have k := L_rout hd V R S x0 x1 (pNb p).toNat 0 (by omega) (by omega)
    rw [sumI_0 _ (by omega), Int.add_zero, z1, if_pos rfl] at k
    exact k
theorem L_rcash {d : Nat} {h : zH} {p : Pb} {q : Int → Int} (hd : 4 ≤ d) (V : PV p) (R : WR h p) (S : PlR h p q) : ∀ (n : Nat) (e : Int) (h1 : zH), 0 ≤ e → e + n = pDays p → Fr (fun k _ => k = 124) h h1 → (∀ j, 0 ≤ j → j < e → h1 124 j = cashP p q j) → zS mX10_laysCash (zr d) 4 [zA 108, zI (sumI (outP p q) e), zI e] [] TT h1 (zAnV (fun h' => CaR h' p q ∧ Fr (fun k _ => k = 124) h h')) := by
  intro n
  induction n with
  | zero =>
    intro e h1 a1 a2 i1 i2
    have R0 := R
    have S0 := S
    have R : WR h1 p := R.fr i1 (fun k j z => by unfold wrP; omega)
    have S : PlR h1 p q := S.fr i1 (fun k j z => by omega)
    refine zS_iload_n (zdec eX10_laysCash 4 rfl) rfl ?_
    refine zS_aload_n (zdec eX10_laysCash 5 rfl) rfl rfl ?_
    refine zvI (M' := mX10_days) (As := []) (st := [zI e]) (zdec eX10_laysCash 6 rfl) kM_X10_240 kV_X10_days ⟨by decide, rfl⟩ rfl rfl rfl rfl rfl (by omega) (r_days R) ?_
    refine zS_icmp_ge (tgt := 39) (zdec eX10_laysCash 7 rfl) rfl (fun cz => ?_) (fun cz => absurd (by omega) cz)
    exact zlMV (zdec eX10_laysCash 25 rfl) rfl ⟨fun d d0 d1 => i2 d d0 (by omega), i1⟩
  | succ n ih =>
    intro e h1 a1 a2 i1 i2
    have R0 := R
    have S0 := S
    have R : WR h1 p := R.fr i1 (fun k j z => by unfold wrP; omega)
    have S : PlR h1 p q := S.fr i1 (fun k j z => by omega)
    have dy := V.days
    have ob := outB V q (d := e) (by omega)
    have cb := cameB V e
    have s0 := sumI_nn (f := outP p q) (k := e) (fun j _ j1 => (outB V q (d := j) (by omega)).1)
    have s1 := sumI_le (f := outP p q) (k := e) (B := 18665) a1 (fun j _ j1 => (outB V q (d := j) (by omega)).2)
    refine zS_iload_n (zdec eX10_laysCash 4 rfl) rfl ?_
    refine zS_aload_n (zdec eX10_laysCash 5 rfl) rfl rfl ?_
    refine zvI (M' := mX10_days) (As := []) (st := [zI e]) (zdec eX10_laysCash 6 rfl) kM_X10_240 kV_X10_days ⟨by decide, rfl⟩ rfl rfl rfl rfl rfl (by omega) (r_days R) ?_
    refine zS_icmp_ge (tgt := 39) (zdec eX10_laysCash 7 rfl) rfl (fun cz => absurd cz (by omega)) (fun cz => ?_)
    refine zS_iload_n (zdec eX10_laysCash 8 rfl) rfl ?_
    refine zS_aload_n (zdec eX10_laysCash 9 rfl) rfl rfl ?_
    refine zS_iload_n (zdec eX10_laysCash 10 rfl) rfl ?_
    refine zvI (M' := mX10_outOn) (As := [zI e]) (st := [zI (sumI (outP p q) e)]) (zdec eX10_laysCash 11 rfl) kM_X10_286 kV_X10_outOn ⟨by decide, rfl⟩ rfl rfl rfl rfl rfl (by omega) (r_outOn (by omega) V R S (by omega) (by omega)) ?_
    refine zS_iadd (zdec eX10_laysCash 12 rfl) ⟨by omega, by omega⟩ ?_
    refine zS_istore_n (zdec eX10_laysCash 13 rfl) rfl ?_
    refine zS_aload_n (zdec eX10_laysCash 14 rfl) rfl rfl ?_
    refine zS_getref (i := 70) (zdec eX10_laysCash 15 rfl) kF_X10_62 ⟨by decide, rfl⟩ rfl rfl rfl rfl rfl ?_
    refine zS_iload_n (zdec eX10_laysCash 16 rfl) rfl ?_
    refine zS_aload_n (zdec eX10_laysCash 17 rfl) rfl rfl ?_
    refine zS_iload_n (zdec eX10_laysCash 18 rfl) rfl ?_
    refine zvI (M' := mX10_cameBy) (As := [zI e]) (st := [zI e, zA 124]) (zdec eX10_laysCash 19 rfl) kM_X10_289 kV_X10_cameBy ⟨by decide, rfl⟩ rfl rfl rfl rfl rfl (by omega) (r_cameBy (by omega) V R) ?_
    refine zS_iload_n (zdec eX10_laysCash 20 rfl) rfl ?_
    refine zS_isub (zdec eX10_laysCash 21 rfl) ⟨by omega, by omega⟩ ?_
    refine zS_iastore (zdec eX10_laysCash 22 rfl) ⟨by decide, rfl⟩ (by omega) (by omega) ?_
    refine zS_iinc (zdec eX10_laysCash 23 rfl) rfl rfl ⟨by omega, by omega⟩ ?_
    refine zS_goto (tgt := 4) (zdec eX10_laysCash 24 rfl) rfl ?_
    rw [← sumI_s _ a1]
    refine ih (e + 1) _ (by omega) (by omega) (i1.set (by omega)) (fun j j0 j1 => ?_)
    by_cases w : j = e
    · rw [w, zset_s]; unfold cashP; rfl
    · rw [zset_j w]; exact i2 j j0 (by omega)
theorem r_laysCash {d : Nat} {h : zH} {p : Pb} {q : Int → Int} (hd : 4 ≤ d) (V : PV p) (R : WR h p) (S : PlR h p q) : zMV d mX10_laysCash [zA 108] h (fun h' => CaR h' p q ∧ Fr (fun k _ => k = 124) h h') := by
  have dy := V.days
  refine zmet rfl rfl rfl ?_
  refine zS_iconst (zdec eX10_laysCash 0 rfl) rfl ?_
  refine zS_istore_n (zdec eX10_laysCash 1 rfl) rfl ?_
  refine zS_iconst (zdec eX10_laysCash 2 rfl) rfl ?_
  refine zS_istore_n (zdec eX10_laysCash 3 rfl) rfl ?_
  exact L_rcash hd V R S (pDays p).toNat 0 h (by omega) (by omega) Fr.rf (fun j j0 j1 => by omega)
def abvP (p : Pb) (q : Int → Int) (x : Int) : Bool := !anyI (fun j => decide (x ≤ j) && decide (cashP p q j < pFl p)) (pDays p)
theorem abv_iff {p : Pb} {q : Int → Int} {x : Int} (x0 : 0 ≤ x) : abvP p q x = true ↔ ∀ j, x ≤ j → j < pDays p → pFl p ≤ cashP p q j := by
  unfold abvP
  rw [Bool.not_eq_true', anyI_f]
  constructor
  · intro h j j0 j1
    have z := h j (by omega) j1
    rw [decide_eq_true j0, Bool.true_and] at z
    have := of_decide_eq_false z
    omega
  · intro h j j0 j1
    by_cases w : x ≤ j
    · rw [decide_eq_true w, Bool.true_and]
      have := h j w j1
      exact decide_eq_false (by omega)
    · rw [decide_eq_false w, Bool.false_and]
theorem L_rabv {d : Nat} {h h1 : zH} {p : Pb} {q : Int → Int} {x : Int} (hd : 5 ≤ d) (V : PV p) (R : WR h1 p) (CA : CaR h1 p q) (i1 : Fr (fun k _ => k = 124) h h1) (x0 : 0 ≤ x) : ∀ (n : Nat) (e : Int), x ≤ e → e + n = pDays p → (∀ j, x ≤ j → j < e → pFl p ≤ cashP p q j) → zS mX10_isAbove (zr d) 6 [zA 108, zI x, zI e] [] TT h1 (zAnI (fun r h' => r = b2i (abvP p q x) ∧ CaR h' p q ∧ Fr (fun k _ => k = 124) h h')) := by
  intro n
  induction n with
  | zero =>
    intro e a1 a2 a3
    refine zS_iload_n (zdec eX10_isAbove 4 rfl) rfl ?_
    refine zS_aload_n (zdec eX10_isAbove 5 rfl) rfl rfl ?_
    refine zvI (M' := mX10_days) (As := []) (st := [zI e]) (zdec eX10_isAbove 6 rfl) kM_X10_240 kV_X10_days ⟨by decide, rfl⟩ rfl rfl rfl rfl rfl (by omega) (r_days R) ?_
    refine zS_icmp_ge (tgt := 35) (zdec eX10_isAbove 7 rfl) rfl (fun cz => ?_) (fun cz => absurd (by omega) cz)
    refine zS_iconst (zdec eX10_isAbove 19 rfl) rfl ?_
    exact zlMZ (zdec eX10_isAbove 20 rfl) rfl (Or.inr rfl) ⟨by rw [(abv_iff x0).mpr (fun j j0 j1 => a3 j j0 (by omega))]; rfl, CA, i1⟩
  | succ n ih =>
    intro e a1 a2 a3
    have dy := V.days
    refine zS_iload_n (zdec eX10_isAbove 4 rfl) rfl ?_
    refine zS_aload_n (zdec eX10_isAbove 5 rfl) rfl rfl ?_
    refine zvI (M' := mX10_days) (As := []) (st := [zI e]) (zdec eX10_isAbove 6 rfl) kM_X10_240 kV_X10_days ⟨by decide, rfl⟩ rfl rfl rfl rfl rfl (by omega) (r_days R) ?_
    refine zS_icmp_ge (tgt := 35) (zdec eX10_isAbove 7 rfl) rfl (fun cz => absurd cz (by omega)) (fun cz => ?_)
    refine zS_aload_n (zdec eX10_isAbove 8 rfl) rfl rfl ?_
    refine zS_getref (i := 70) (zdec eX10_isAbove 9 rfl) kF_X10_62 ⟨by decide, rfl⟩ rfl rfl rfl rfl rfl ?_
    refine zS_iload_n (zdec eX10_isAbove 10 rfl) rfl ?_
    refine zS_ialoadE (v := (cashP p q e)) (zdec eX10_isAbove 11 rfl) ⟨by decide, rfl⟩ (by omega) (by omega) (CA _ (by omega) (by omega)) ?_
    refine zS_aload_n (zdec eX10_isAbove 12 rfl) rfl rfl ?_
    refine zS_getfieldE (x := 25) (v := (pFl p)) (zdec eX10_isAbove 13 rfl) kF_X10_252 ⟨by decide, rfl⟩ rfl rfl rfl R.fl ?_
    refine zS_icmp_ge (tgt := 29) (zdec eX10_isAbove 14 rfl) rfl (fun c1 => ?_) (fun c1 => ?_)
    · refine zS_iinc (zdec eX10_isAbove 17 rfl) rfl rfl ⟨by omega, by omega⟩ ?_
      refine zS_goto (tgt := 6) (zdec eX10_isAbove 18 rfl) rfl ?_
      exact ih (e + 1) (by omega) (by omega) (fun j j0 j1 => by
          by_cases w : j = e
          · rw [w]; omega
          · exact a3 j j0 (by omega))
    · refine zS_iconst (zdec eX10_isAbove 15 rfl) rfl ?_
      exact zlMZ (zdec eX10_isAbove 16 rfl) rfl (Or.inl rfl) ⟨by rw [show abvP p q x = false from Bool.eq_false_iff.mpr (fun w => by have := (abv_iff x0).mp w e a1 (by omega); omega)]; rfl, CA, i1⟩
theorem r_isAbove {d : Nat} {h : zH} {p : Pb} {q : Int → Int} {x : Int} (hd : 5 ≤ d) (V : PV p) (R : WR h p) (S : PlR h p q) (x0 : 0 ≤ x) (x1 : x ≤ pDays p) : zMI d mX10_isAbove [zA 108, zI x] h (fun r h' => r = b2i (abvP p q x) ∧ CaR h' p q ∧ Fr (fun k _ => k = 124) h h') := by
  have dy := V.days
  refine zmet rfl rfl rfl ?_
  refine zS_aload_n (zdec eX10_isAbove 0 rfl) rfl rfl ?_
  refine zvMV (M' := mX10_laysCash) (As := []) (st := []) (zdec eX10_isAbove 1 rfl) kM_X10_292 kV_X10_laysCash ⟨by decide, rfl⟩ rfl rfl rfl rfl rfl (by omega) (r_laysCash (by omega) V R S) (fun h1 ⟨CA, i1⟩ => ?_)
  have R1 : WR h1 p := R.fr i1 (fun k j z => by unfold wrP; omega)
  refine zS_iload_n (zdec eX10_isAbove 2 rfl) rfl ?_
  refine zS_istore_n (zdec eX10_isAbove 3 rfl) rfl ?_
  exact L_rabv hd V R1 CA i1 x0 (pDays p - x).toNat x (by omega) (by omega) (fun j j0 j1 => by omega)
theorem L_rtot {d : Nat} {h : zH} {p : Pb} {q : Int → Int} (hd : 4 ≤ d) (V : PV p) (R : WR h p) (S : PlR h p q) (q0 : ∀ b, 0 ≤ q b) (q1 : ∀ b, q b ≤ pDays p) : ∀ (n : Nat) (e : Int), 0 ≤ e → e + n = pDays p → zS mX10_totalNow (zr d) 4 [zA 108, zI (sumI (outP p q) e), zI e] [] TT h (zOne (totalP p q) h) := by
  intro n
  induction n with
  | zero =>
    intro e a1 a2
    have he : e = pDays p := by omega
    have dy := V.days
    have fe := V.fee
    have ob := outB V q (d := e) (by omega)
    have s0 := sumI_nn (f := outP p q) (k := e) (fun j _ j1 => (outB V q (d := j) (by omega)).1)
    have s1 := sumI_le (f := outP p q) (k := e) (B := 18665) a1 (fun j _ j1 => (outB V q (d := j) (by omega)).2)
    have td := total_days V q0 q1
    refine zS_iload_n (zdec eX10_totalNow 4 rfl) rfl ?_
    refine zS_aload_n (zdec eX10_totalNow 5 rfl) rfl rfl ?_
    refine zvI (M' := mX10_days) (As := []) (st := [zI e]) (zdec eX10_totalNow 6 rfl) kM_X10_240 kV_X10_days ⟨by decide, rfl⟩ rfl rfl rfl rfl rfl (by omega) (r_days R) ?_
    refine zS_icmp_gt (tgt := 61) (zdec eX10_totalNow 7 rfl) rfl (fun cz => absurd cz (by omega)) (fun cz => ?_)
    refine zS_iload_n (zdec eX10_totalNow 8 rfl) rfl ?_
    refine zS_iload_n (zdec eX10_totalNow 9 rfl) rfl ?_
    refine zS_aload_n (zdec eX10_totalNow 10 rfl) rfl rfl ?_
    refine zvI (M' := mX10_days) (As := []) (st := [zI e, zI (sumI (outP p q) e)]) (zdec eX10_totalNow 11 rfl) kM_X10_240 kV_X10_days ⟨by decide, rfl⟩ rfl rfl rfl rfl rfl (by omega) (r_days R) ?_
    refine zS_icmp_ge (tgt := 29) (zdec eX10_totalNow 12 rfl) rfl (fun cz => ?_) (fun cz => absurd (by omega) cz)
    refine zS_aload_n (zdec eX10_totalNow 17 rfl) rfl rfl ?_
    refine zS_iload_n (zdec eX10_totalNow 18 rfl) rfl ?_
    refine zvI (M' := mX10_outOn) (As := [zI e]) (st := [zI (sumI (outP p q) e)]) (zdec eX10_totalNow 19 rfl) kM_X10_286 kV_X10_outOn ⟨by decide, rfl⟩ rfl rfl rfl rfl rfl (by omega) (r_outOn (by omega) V R S (by omega) (by omega)) ?_
    refine zS_aload_n (zdec eX10_totalNow 20 rfl) rfl rfl ?_
    refine zS_iload_n (zdec eX10_totalNow 21 rfl) rfl ?_
    refine zvI (M' := mX10_isUsed) (As := [zI e]) (st := [zI (outP p q e), zI (sumI (outP p q) e)]) (zdec eX10_totalNow 22 rfl) kM_X10_280 kV_X10_isUsed ⟨by decide, rfl⟩ rfl rfl rfl rfl rfl (by omega) (r_isUsed (by omega) V R S) ?_
    refine zS_if_eq (tgt := 51) (zdec eX10_totalNow 23 rfl) rfl (fun c1 => ?_) (fun c1 => ?_)
    · have z1 := b2i_0.mp c1
      refine zS_iconst (zdec eX10_totalNow 29 rfl) rfl ?_
      refine zS_isub (zdec eX10_totalNow 30 rfl) ⟨by omega, by omega⟩ ?_
      refine zS_iadd (zdec eX10_totalNow 31 rfl) ⟨by omega, by omega⟩ ?_
      refine zS_istore_n (zdec eX10_totalNow 32 rfl) rfl ?_
      refine zS_iinc (zdec eX10_totalNow 33 rfl) rfl rfl ⟨by omega, by omega⟩ ?_
      refine zS_goto (tgt := 4) (zdec eX10_totalNow 34 rfl) rfl ?_
      refine zS_iload_n (zdec eX10_totalNow 4 rfl) rfl ?_
      refine zS_aload_n (zdec eX10_totalNow 5 rfl) rfl rfl ?_
      refine zvI (M' := mX10_days) (As := []) (st := [zI (e + 1)]) (zdec eX10_totalNow 6 rfl) kM_X10_240 kV_X10_days ⟨by decide, rfl⟩ rfl rfl rfl rfl rfl (by omega) (r_days R) ?_
      refine zS_icmp_gt (tgt := 61) (zdec eX10_totalNow 7 rfl) rfl (fun cz => ?_) (fun cz => absurd (by omega) cz)
      refine zS_iload_n (zdec eX10_totalNow 35 rfl) rfl ?_
      exact zlI (zdec eX10_totalNow 36 rfl) rfl (by rw [← td, ← he, z1, if_neg (by decide)])
    · have z1 := b2i_n.mp c1
      refine zS_aload_n (zdec eX10_totalNow 24 rfl) rfl rfl ?_
      refine zS_getref (i := 61) (zdec eX10_totalNow 25 rfl) kF_X10_34 ⟨by decide, rfl⟩ rfl rfl rfl rfl rfl ?_
      refine zS_iconst (zdec eX10_totalNow 26 rfl) rfl ?_
      refine zS_ialoadE (v := (pFee p)) (zdec eX10_totalNow 27 rfl) ⟨by decide, rfl⟩ (by decide) (by decide) R.fee ?_
      refine zS_goto (tgt := 52) (zdec eX10_totalNow 28 rfl) rfl ?_
      refine zS_isub (zdec eX10_totalNow 30 rfl) ⟨by omega, by omega⟩ ?_
      refine zS_iadd (zdec eX10_totalNow 31 rfl) ⟨by omega, by omega⟩ ?_
      refine zS_istore_n (zdec eX10_totalNow 32 rfl) rfl ?_
      refine zS_iinc (zdec eX10_totalNow 33 rfl) rfl rfl ⟨by omega, by omega⟩ ?_
      refine zS_goto (tgt := 4) (zdec eX10_totalNow 34 rfl) rfl ?_
      refine zS_iload_n (zdec eX10_totalNow 4 rfl) rfl ?_
      refine zS_aload_n (zdec eX10_totalNow 5 rfl) rfl rfl ?_
      refine zvI (M' := mX10_days) (As := []) (st := [zI (e + 1)]) (zdec eX10_totalNow 6 rfl) kM_X10_240 kV_X10_days ⟨by decide, rfl⟩ rfl rfl rfl rfl rfl (by omega) (r_days R) ?_
      refine zS_icmp_gt (tgt := 61) (zdec eX10_totalNow 7 rfl) rfl (fun cz => ?_) (fun cz => absurd (by omega) cz)
      refine zS_iload_n (zdec eX10_totalNow 35 rfl) rfl ?_
      exact zlI (zdec eX10_totalNow 36 rfl) rfl (by rw [← td, ← he, z1, if_pos rfl])
  | succ n ih =>
    intro e a1 a2
    have dy := V.days
    have fe := V.fee
    have ob := outB V q (d := e) (by omega)
    have s0 := sumI_nn (f := outP p q) (k := e) (fun j _ j1 => (outB V q (d := j) (by omega)).1)
    have s1 := sumI_le (f := outP p q) (k := e) (B := 18665) a1 (fun j _ j1 => (outB V q (d := j) (by omega)).2)
    have td := total_days V q0 q1
    refine zS_iload_n (zdec eX10_totalNow 4 rfl) rfl ?_
    refine zS_aload_n (zdec eX10_totalNow 5 rfl) rfl rfl ?_
    refine zvI (M' := mX10_days) (As := []) (st := [zI e]) (zdec eX10_totalNow 6 rfl) kM_X10_240 kV_X10_days ⟨by decide, rfl⟩ rfl rfl rfl rfl rfl (by omega) (r_days R) ?_
    refine zS_icmp_gt (tgt := 61) (zdec eX10_totalNow 7 rfl) rfl (fun cz => absurd cz (by omega)) (fun cz => ?_)
    refine zS_iload_n (zdec eX10_totalNow 8 rfl) rfl ?_
    refine zS_iload_n (zdec eX10_totalNow 9 rfl) rfl ?_
    refine zS_aload_n (zdec eX10_totalNow 10 rfl) rfl rfl ?_
    refine zvI (M' := mX10_days) (As := []) (st := [zI e, zI (sumI (outP p q) e)]) (zdec eX10_totalNow 11 rfl) kM_X10_240 kV_X10_days ⟨by decide, rfl⟩ rfl rfl rfl rfl rfl (by omega) (r_days R) ?_
    refine zS_icmp_ge (tgt := 29) (zdec eX10_totalNow 12 rfl) rfl (fun cz => absurd cz (by omega)) (fun cz => ?_)
    refine zS_aload_n (zdec eX10_totalNow 13 rfl) rfl rfl ?_
    refine zS_iload_n (zdec eX10_totalNow 14 rfl) rfl ?_
    refine zvI (M' := mX10_outOn) (As := [zI e]) (st := [zI (sumI (outP p q) e)]) (zdec eX10_totalNow 15 rfl) kM_X10_286 kV_X10_outOn ⟨by decide, rfl⟩ rfl rfl rfl rfl rfl (by omega) (r_outOn (by omega) V R S (by omega) (by omega)) ?_
    refine zS_goto (tgt := 53) (zdec eX10_totalNow 16 rfl) rfl ?_
    refine zS_iadd (zdec eX10_totalNow 31 rfl) ⟨by omega, by omega⟩ ?_
    refine zS_istore_n (zdec eX10_totalNow 32 rfl) rfl ?_
    refine zS_iinc (zdec eX10_totalNow 33 rfl) rfl rfl ⟨by omega, by omega⟩ ?_
    refine zS_goto (tgt := 4) (zdec eX10_totalNow 34 rfl) rfl ?_
    rw [← sumI_s _ a1]
    exact ih (e + 1) (by omega) (by omega)
theorem r_totalNow {d : Nat} {h : zH} {p : Pb} {q : Int → Int} (hd : 4 ≤ d) (V : PV p) (R : WR h p) (S : PlR h p q) (q0 : ∀ b, 0 ≤ q b) (q1 : ∀ b, q b ≤ pDays p) : zPI d mX10_totalNow [zA 108] h (totalP p q) := by
  have dy := V.days
  refine zmet rfl rfl rfl ?_
  refine zS_iconst (zdec eX10_totalNow 0 rfl) rfl ?_
  refine zS_istore_n (zdec eX10_totalNow 1 rfl) rfl ?_
  refine zS_iconst (zdec eX10_totalNow 2 rfl) rfl ?_
  refine zS_istore_n (zdec eX10_totalNow 3 rfl) rfl ?_
  exact L_rtot hd V R S q0 q1 (pDays p).toNat 0 (by omega) (by omega)

abbrev sSe : Int → Int → Prop := fun k j => k = 28 ∨ k = 30 ∨ k = 31 ∨ (k = 75 ∧ j = 3) ∨ k = 76 ∨ k = 77
def SeR (h : zH) (p : Pb) (fb fd : Int) : Prop := h 75 4 = fb ∧ h 75 5 = fd ∧ ∀ c, 0 ≤ c → c ≤ pNb p → h 78 c = restP p c
def SeS (h : zH) (p : Pb) (s : Int × Int) : Prop := h 75 3 = s.1 ∧ (0 ≤ s.2 → ∀ c, 0 ≤ c → c < pNb p → h 76 c = preP p (pNb p) s.2 c)
def SeT (h : zH) (q : Int → Int) (b : Int) : Prop := ∀ c, 0 ≤ c → c < b → h 77 c = q c
def fitP (fb fd b : Int) (q : Int → Int) : Prop := fb = -1 ∨ b ≤ fb ∨ q fb = fd
theorem SeR.of {h h' : zH} {p : Pb} {fb fd : Int} (R : SeR h p fb fd) (e1 : h' 75 4 = h 75 4) (e2 : h' 75 5 = h 75 5) (e3 : ∀ c, h' 78 c = h 78 c) : SeR h' p fb fd := ⟨e1.trans R.1, e2.trans R.2.1, fun c a b => (e3 c).trans (R.2.2 c a b)⟩
theorem SeR.fr {h h' : zH} {p : Pb} {fb fd : Int} (R : SeR h p fb fd) (f : Fr sSe h h') : SeR h' p fb fd := R.of (f 75 4 (by decide)) (f 75 5 (by decide)) (fun c => f 78 c (by omega))
theorem SeS.of {h h' : zH} {p : Pb} {s : Int × Int} (S : SeS h p s) (e1 : h' 75 3 = h 75 3) (e2 : ∀ c, h' 76 c = h 76 c) : SeS h' p s := ⟨e1.trans S.1, fun z c a b => (e2 c).trans (S.2 z c a b)⟩
theorem law_none (p : Pb) : lawP p (fun _ => pDays p) = true := by
  unfold lawP
  rw [anyI_f.mpr (fun d d0 d1 => ?_)]
  · rfl
  · unfold badP
    rw [used_none (by omega), anyI_f.mpr (fun j j0 j1 => used_none (by omega))]
    rfl
theorem updI_upd {α : Type} (f : Int → α) (k : Int) (v w : α) : updI (updI f k v) k w = updI f k w := by
  funext c
  by_cases e : c = k
  · subst e; rw [updI_s, updI_s]
  · rw [updI_n e, updI_n e, updI_n e]
theorem L_rest2 {d : Nat} {h1 : zH} {p : Pb} {e : Int} {Q : Option zV → zT → zH → Prop} (hd : 2 ≤ d) (V : PV p) (R : WC h1 p) (e0 : 0 ≤ e) (e1 : e < pNb p) (K : zS mX4_reckonRest (zr d) 63 [zA 75, zA 14, zI e, zI (minP p e), zI (pDays p + 1)] [] TT h1 Q) : ∀ (n : Nat) (x : Int), 0 ≤ x → x + n = pDays p + 1 → zS mX4_reckonRest (zr d) 33 [zA 75, zA 14, zI e, zI (mnI (priceP p e) x), zI x] [] TT h1 Q := by
  intro n
  induction n with
  | zero =>
    intro x a1 a2
    have dy := V.days
    refine zS_iload (zdec eX4_reckonRest 19 rfl) rfl ?_
    refine zS_aload_n (zdec eX4_reckonRest 20 rfl) rfl rfl ?_
    refine zS_getref (i := 18) (zdec eX4_reckonRest 21 rfl) kF_X4_44 ⟨by decide, rfl⟩ rfl rfl rfl rfl rfl ?_
    refine zS_getfieldE (x := 1) (v := (pDays p)) (zdec eX4_reckonRest 22 rfl) kF_X4_54 ⟨by decide, rfl⟩ rfl rfl rfl R.days ?_
    refine zS_icmp_gt (tgt := 63) (zdec eX4_reckonRest 23 rfl) rfl (fun cz => ?_) (fun cz => absurd (by omega) cz)
    rw [show x = pDays p + 1 by omega]
    exact K
  | succ n ih =>
    intro x a1 a2
    have dy := V.days
    have nb := V.nb
    have mb := mnI_nn (f := priceP p e) (k := x) (by omega) (fun j j0 j1 => (priceB V e0 e1 (show j ≤ 7 by omega)).1)
    refine zS_iload (zdec eX4_reckonRest 19 rfl) rfl ?_
    refine zS_aload_n (zdec eX4_reckonRest 20 rfl) rfl rfl ?_
    refine zS_getref (i := 18) (zdec eX4_reckonRest 21 rfl) kF_X4_44 ⟨by decide, rfl⟩ rfl rfl rfl rfl rfl ?_
    refine zS_getfieldE (x := 1) (v := (pDays p)) (zdec eX4_reckonRest 22 rfl) kF_X4_54 ⟨by decide, rfl⟩ rfl rfl rfl R.days ?_
    refine zS_icmp_gt (tgt := 63) (zdec eX4_reckonRest 23 rfl) rfl (fun cz => absurd cz (by omega)) (fun cz => ?_)
    refine zS_iload_n (zdec eX4_reckonRest 24 rfl) rfl ?_
    refine zS_aload_n (zdec eX4_reckonRest 25 rfl) rfl rfl ?_
    refine zS_iload_n (zdec eX4_reckonRest 26 rfl) rfl ?_
    refine zS_iload (zdec eX4_reckonRest 27 rfl) rfl ?_
    refine zvI (M' := mX8_price) (As := [zI e, zI x]) (st := [zI (mnI (priceP p e) x)]) (zdec eX4_reckonRest 28 rfl) kM_X4_57 kV_X8_price ⟨by decide, rfl⟩ rfl rfl rfl rfl rfl (by omega) (c_price (by omega) V R (by omega) (by omega) (by omega) (by omega)) ?_
    refine zS_min (zdec eX4_reckonRest 29 rfl) kM_X4_61 rfl (by omega) ?_
    refine zS_istore_n (zdec eX4_reckonRest 30 rfl) rfl ?_
    refine zS_iinc (zdec eX4_reckonRest 31 rfl) rfl rfl ⟨by omega, by omega⟩ ?_
    refine zS_goto (tgt := 33) (zdec eX4_reckonRest 32 rfl) rfl ?_
    have k := ih (x + 1) (by omega) (by omega)
    rw [mnI_s _ (by omega)] at k
    exact k
theorem L_rest1 {d : Nat} {h : zH} {p : Pb} (hd : 2 ≤ d) (V : PV p) (R : WC h p) : ∀ (n : Nat) (e : Int) (h1 : zH), e + 1 = n → e < pNb p → (∀ c, e < c → c ≤ pNb p → h1 78 c = restP p c) → Fr (fun k _ => k = 78) h h1 → zS mX4_reckonRest (zr d) 23 [zA 75, zA 14, zI e, zN, zN] [] TT h1 (zAnV (fun h' => (∀ c, 0 ≤ c → c ≤ pNb p → h' 78 c = restP p c) ∧ Fr (fun k _ => k = 78) h h')) := by
  intro n
  induction n with
  | zero =>
    intro e h1 a1 a2 i1 i2
    have R0 := R
    have R : WC h1 p := R.fr V i2 (fun k j z => by unfold wcP; omega)
    have dy := V.days
    have nb := V.nb
    refine zS_iload_n (zdec eX4_reckonRest 13 rfl) rfl ?_
    refine zS_if_lt (tgt := 85) (zdec eX4_reckonRest 14 rfl) rfl (fun cz => ?_) (fun cz => absurd (by omega) cz)
    exact zlMV (zdec eX4_reckonRest 47 rfl) rfl ⟨fun c c0 c1 => i1 c (by omega) c1, i2⟩
  | succ n ih =>
    intro e h1 a1 a2 i1 i2
    have R0 := R
    have R : WC h1 p := R.fr V i2 (fun k j z => by unfold wcP; omega)
    have dy := V.days
    have nb := V.nb
    have mb := minB V (c := e) (by omega) (by omega)
    have rb := restB V (b := e + 1) (by omega) (by omega)
    refine zS_iload_n (zdec eX4_reckonRest 13 rfl) rfl ?_
    refine zS_if_lt (tgt := 85) (zdec eX4_reckonRest 14 rfl) rfl (fun cz => absurd cz (by omega)) (fun cz => ?_)
    refine zS_ldc (zdec eX4_reckonRest 15 rfl) kc_X4_53 rfl ?_
    refine zS_istore_n (zdec eX4_reckonRest 16 rfl) rfl ?_
    refine zS_iconst (zdec eX4_reckonRest 17 rfl) rfl ?_
    refine zS_istore (zdec eX4_reckonRest 18 rfl) rfl ?_
    have K : zS mX4_reckonRest (zr d) 63 [zA 75, zA 14, zI e, zI (minP p e), zI (pDays p + 1)] [] TT h1 (zAnV (fun h' => (∀ c, 0 ≤ c → c ≤ pNb p → h' 78 c = restP p c) ∧ Fr (fun k _ => k = 78) h h')) := by
      refine zS_aload_n (zdec eX4_reckonRest 33 rfl) rfl rfl ?_
      refine zS_getref (i := 50) (zdec eX4_reckonRest 34 rfl) kF_X4_18 ⟨by decide, rfl⟩ rfl rfl rfl rfl rfl ?_
      refine zS_iload_n (zdec eX4_reckonRest 35 rfl) rfl ?_
      refine zS_aload_n (zdec eX4_reckonRest 36 rfl) rfl rfl ?_
      refine zS_getref (i := 50) (zdec eX4_reckonRest 37 rfl) kF_X4_18 ⟨by decide, rfl⟩ rfl rfl rfl rfl rfl ?_
      refine zS_iload_n (zdec eX4_reckonRest 38 rfl) rfl ?_
      refine zS_iconst (zdec eX4_reckonRest 39 rfl) rfl ?_
      refine zS_iadd (zdec eX4_reckonRest 40 rfl) ⟨by omega, by omega⟩ ?_
      refine zS_ialoadE (v := (restP p (e + 1))) (zdec eX4_reckonRest 41 rfl) ⟨by decide, rfl⟩ (by omega) (by omega) (i1 _ (by omega) (by omega)) ?_
      refine zS_iload_n (zdec eX4_reckonRest 42 rfl) rfl ?_
      refine zS_iadd (zdec eX4_reckonRest 43 rfl) ⟨by omega, by omega⟩ ?_
      refine zS_iastore (zdec eX4_reckonRest 44 rfl) ⟨by decide, rfl⟩ (by omega) (by omega) ?_
      refine zS_iinc (zdec eX4_reckonRest 45 rfl) rfl rfl ⟨by omega, by omega⟩ ?_
      refine zS_goto (tgt := 23) (zdec eX4_reckonRest 46 rfl) rfl ?_
      refine zS_forget (i := 3) ?_
      refine zS_forget (i := 4) ?_
      exact ih (e - 1) _ (by omega) (by omega) (fun c c0 c1 => by
          by_cases w : c = e
          · rw [w, zset_s, ← rest_s (by omega)]
          · rw [zset_j w]; exact i1 c (by omega) c1) (i2.set rfl)
    exact L_rest2 hd V R (by omega) (by omega) K (pDays p + 1).toNat 0 (by omega) (by omega)
theorem c_reckonRest {d : Nat} {h : zH} {p : Pb} (hd : 2 ≤ d) (V : PV p) (R : WC h p) : zMV d mX4_reckonRest [zA 75, zA 14] h (fun h' => (∀ c, 0 ≤ c → c ≤ pNb p → h' 78 c = restP p c) ∧ Fr (fun k _ => k = 78) h h') := by
  have nb := V.nb
  refine zmet rfl rfl rfl ?_
  refine zS_aload_n (zdec eX4_reckonRest 0 rfl) rfl rfl ?_
  refine zS_getref (i := 50) (zdec eX4_reckonRest 1 rfl) kF_X4_18 ⟨by decide, rfl⟩ rfl rfl rfl rfl rfl ?_
  refine zS_aload_n (zdec eX4_reckonRest 2 rfl) rfl rfl ?_
  refine zS_getref (i := 18) (zdec eX4_reckonRest 3 rfl) kF_X4_44 ⟨by decide, rfl⟩ rfl rfl rfl rfl rfl ?_
  refine zS_getfieldE (x := 8) (v := (pNb p)) (zdec eX4_reckonRest 4 rfl) kF_X4_48 ⟨by decide, rfl⟩ rfl rfl rfl R.nb ?_
  refine zS_iconst (zdec eX4_reckonRest 5 rfl) rfl ?_
  refine zS_iastore (zdec eX4_reckonRest 6 rfl) ⟨by decide, rfl⟩ (by omega) (by omega) ?_
  refine zS_aload_n (zdec eX4_reckonRest 7 rfl) rfl rfl ?_
  refine zS_getref (i := 18) (zdec eX4_reckonRest 8 rfl) kF_X4_44 ⟨by decide, rfl⟩ rfl rfl rfl rfl rfl ?_
  refine zS_getfieldE (x := 8) (v := (pNb p)) (zdec eX4_reckonRest 9 rfl) kF_X4_48 ⟨by decide, rfl⟩ rfl rfl rfl ((congrFun (zset_k (by decide)) _).trans R.nb) ?_
  refine zS_iconst (zdec eX4_reckonRest 10 rfl) rfl ?_
  refine zS_isub (zdec eX4_reckonRest 11 rfl) ⟨by omega, by omega⟩ ?_
  refine zS_istore_n (zdec eX4_reckonRest 12 rfl) rfl ?_
  exact L_rest1 hd V R (pNb p).toNat (pNb p - 1) _ (by omega) (by omega) (fun c c0 c1 => by rw [show c = pNb p by omega, zset_s, rest_n]) (Fr.rf.set rfl)
def ChC (p : Pb) (fb fd L : Int) (k : Nat) : Prop := ∀ {d : Nat} {h : zH} {b m : Int}, 4 + 2 * k ≤ d → 0 ≤ b → b + k = pNb p → 0 ≤ m → WC h p → PlC h p (preP p b m) → SeR h p fb fd → SeS h p (stI p fb fd L (m * bwN p k)) → SeT h (preP p b m) b → lawP p (preP p b m) = true → fitP fb fd b (preP p b m) → zMV d mX4_choose [zA 75, zA 14, zI b, zI (parS p (preP p b m) b)] h (fun h' => PlC h' p (preP p b m) ∧ SeS h' p (stI p fb fd L ((m + 1) * bwN p k)) ∧ SeT h' (preP p b m) b ∧ Fr sSe h h')
theorem mul_nn {a b : Int} (h0 : 0 ≤ a) (h1 : 0 ≤ b) : 0 ≤ a * b := Int.mul_nonneg h0 h1
theorem c_tryDay {d : Nat} {h : zH} {p : Pb} {fb fd L : Int} {k : Nat} {b m x : Int} (hd : 5 + 2 * k ≤ d) (V : PV p) (hin : ∀ c, 0 ≤ c → c < pNb p → pIn p c = true) (IH : ChC p fb fd L k) (b0 : 0 ≤ b) (b1 : b + 1 + k = pNb p) (m0 : 0 ≤ m) (x0 : 0 ≤ x) (x1 : x ≤ pDays p) (hx : b ≠ fb ∨ x = fd) (R : WC h p) (S : PlC h p (preP p b m)) (RR : SeR h p fb fd) (SS : SeS h p (stI p fb fd L ((m * (pDays p + 1) + x) * bwN p k))) (T : SeT h (preP p b m) b) (LW : lawP p (preP p b m) = true) (FT : fitP fb fd b (preP p b m)) : zMV d mX4_tryDay [zA 75, zA 14, zI b, zI x, zI (parS p (preP p b m) b)] h (fun h' => PlC h' p (preP p b m) ∧ SeS h' p (stI p fb fd L ((m * (pDays p + 1) + x + 1) * bwN p k)) ∧ SeT h' (preP p b m) b ∧ Fr sSe h h') := by
  have dy := V.days
  have nb := V.nb
  have hm := mul_nn m0 (show 0 ≤ pDays p + 1 by omega)
  obtain ⟨q, hq⟩ : ∃ q, preP p b m = q := ⟨_, rfl⟩
  have qb : q b = pDays p := by rw [← hq]; exact preP_out (by omega) b0
  have qr : ∀ c, 0 ≤ q c ∧ q c ≤ pDays p := fun c => by rw [← hq]; exact preP_rng V b m c
  have ps : preP p (b + 1) (m * (pDays p + 1) + x) = updI q b x := by rw [preP_s V b0 x0 x1, hq]
  rw [hq] at S T LW FT ⊢
  obtain ⟨m1, hm1⟩ : ∃ m1, m1 = m * (pDays p + 1) + x := ⟨_, rfl⟩
  rw [← hm1] at SS ps ⊢
  have m10 : 0 ≤ m1 := by omega
  have pb := priceB V b0 (show b < pNb p by omega) (show x ≤ 7 by omega)
  have sb := parB V qr b0 (show b ≤ pNb p by omega)
  have fe := V.fee
  have ub : 0 ≤ (if usedP p q x then 0 else pFee p) ∧ (if usedP p q x then 0 else pFee p) ≤ 200 := by split <;> omega
  have hib := hin b b0 (by omega)
  have fit : fitP fb fd (b + 1) (updI q b x) := by
    unfold fitP at FT ⊢
    rcases hx with z | z
    · rcases FT with w | w | w
      · exact Or.inl w
      · exact Or.inr (Or.inl (by omega))
      · exact Or.inr (Or.inr (by rw [updI_n (by omega)]; exact w))
    · by_cases e : fb = b
      · exact Or.inr (Or.inr (by rw [e, updI_s]; exact z))
      · rcases FT with w | w | w
        · exact Or.inl w
        · exact Or.inr (Or.inl (by omega))
        · exact Or.inr (Or.inr (by rw [updI_n e]; exact w))
  have R1 : WC (zset h 77 b x) p := R.set V (by unfold wcP; omega)
  have S1 : PlC (zset h 77 b x) p q := S.set (by decide) (by decide) (by decide)
  have RR1 : SeR (zset h 77 b x) p fb fd := RR.of (congrFun (zset_k (by decide)) _) (congrFun (zset_k (by decide)) _) (fun c => congrFun (zset_k (by decide)) _)
  have SS1 := SS.of (h' := zset h 77 b x) (congrFun (zset_k (by decide)) _) (fun c => congrFun (zset_k (by decide)) _)
  have T1 : SeT (zset h 77 b x) (updI q b x) (b + 1) := fun c c0 c1 => by
    by_cases e : c = b
    · rw [e, zset_s, updI_s]
    · rw [zset_j e, updI_n e]; exact T c c0 (by omega)
  have f1 : Fr sSe h (zset h 77 b x) := Fr.rf.set (by omega)
  have T2 : ∀ h2 : zH, SeT h2 (updI q b x) (b + 1) → SeT h2 q b := fun h2 t c c0 c1 => by rw [t c c0 (by omega), updI_n (by omega)]
  refine zmet rfl rfl rfl ?_
  refine zS_aload_n (zdec eX4_tryDay 0 rfl) rfl rfl ?_
  refine zS_getref (i := 49) (zdec eX4_tryDay 1 rfl) kF_X4_15 ⟨by decide, rfl⟩ rfl rfl rfl rfl rfl ?_
  refine zS_iload_n (zdec eX4_tryDay 2 rfl) rfl ?_
  refine zS_iload_n (zdec eX4_tryDay 3 rfl) rfl ?_
  refine zS_iastore (zdec eX4_tryDay 4 rfl) ⟨by decide, rfl⟩ (by omega) (by omega) ?_
  refine zS_iload_n (zdec eX4_tryDay 5 rfl) rfl ?_
  refine zS_aload_n (zdec eX4_tryDay 6 rfl) rfl rfl ?_
  refine zS_getref (i := 18) (zdec eX4_tryDay 7 rfl) kF_X4_44 ⟨by decide, rfl⟩ rfl rfl rfl rfl rfl ?_
  refine zS_getfieldE (x := 1) (v := (pDays p)) (zdec eX4_tryDay 8 rfl) kF_X4_54 ⟨by decide, rfl⟩ rfl rfl rfl ((congrFun (zset_k (by decide)) _).trans R.days) ?_
  refine zS_icmp_ne (tgt := 36) (zdec eX4_tryDay 9 rfl) rfl (fun c1 => ?_) (fun c1 => ?_)
  · refine zS_aload_n (zdec eX4_tryDay 23 rfl) rfl rfl ?_
    refine zS_iload_n (zdec eX4_tryDay 24 rfl) rfl ?_
    refine zS_iload_n (zdec eX4_tryDay 25 rfl) rfl ?_
    refine zvI (M' := mX8_price) (As := [zI b, zI x]) (st := []) (zdec eX4_tryDay 26 rfl) kM_X4_57 kV_X8_price ⟨by decide, rfl⟩ rfl rfl rfl rfl rfl (by omega) (c_price (by omega) V R1 b0 (by omega) x0 (by omega)) ?_
    refine zS_aload_n (zdec eX4_tryDay 27 rfl) rfl rfl ?_
    refine zS_iload_n (zdec eX4_tryDay 28 rfl) rfl ?_
    refine zvI (M' := mX8_feeFor) (As := [zI x]) (st := [zI (priceP p b x)]) (zdec eX4_tryDay 29 rfl) kM_X4_76 kV_X8_feeFor ⟨by decide, rfl⟩ rfl rfl rfl rfl rfl (by omega) (c_feeFor V R1 (S1.file x0 (by omega)) x0 (by omega)) ?_
    refine zS_iadd (zdec eX4_tryDay 30 rfl) ⟨by omega, by omega⟩ ?_
    refine zS_istore (zdec eX4_tryDay 31 rfl) rfl ?_
    refine zS_aload_n (zdec eX4_tryDay 32 rfl) rfl rfl ?_
    refine zS_iload_n (zdec eX4_tryDay 33 rfl) rfl ?_
    refine zS_iload_n (zdec eX4_tryDay 34 rfl) rfl ?_
    refine zvMV (M' := mX8_pay) (As := [zI b, zI x]) (st := []) (zdec eX4_tryDay 35 rfl) kM_X4_80 kV_X8_pay ⟨by decide, rfl⟩ rfl rfl rfl rfl rfl (by omega) (c_pay (by omega) V R1 S1 b0 (by omega) hib qb x0 (by omega)) (fun h4 ⟨S4, g4⟩ => ?_)
    have R4 : WC h4 p := R1.fr V g4 (fun k j z => by unfold wcP; omega)
    have f4 : Fr sSe h h4 := f1.tr g4 (fun k j z => z) (fun k j z => by omega)
    have RR4 := RR.fr f4
    have SS4 := SS1.of (g4 75 3 (by decide)) (fun c => g4 76 c (by omega))
    have T4 : SeT h4 (updI q b x) (b + 1) := fun c c0 c1 => by rw [g4 77 c (by omega)]; exact T1 c c0 c1
    refine zS_aload_n (zdec eX4_tryDay 36 rfl) rfl rfl ?_
    refine zvI (M' := mX8_isLawful) (As := []) (st := []) (zdec eX4_tryDay 37 rfl) kM_X4_84 kV_X8_isLawful ⟨by decide, rfl⟩ rfl rfl rfl rfl rfl (by omega) (c_isLawful (by omega) V R4 S4) ?_
    refine zS_if_eq (tgt := 76) (zdec eX4_tryDay 38 rfl) rfl (fun c2 => ?_) (fun c2 => ?_)
    · refine zS_aload_n (zdec eX4_tryDay 48 rfl) rfl rfl ?_
      refine zS_iload_n (zdec eX4_tryDay 49 rfl) rfl ?_
      refine zvMV (M' := mX8_takeBack) (As := [zI b]) (st := []) (zdec eX4_tryDay 50 rfl) kM_X4_88 kV_X8_takeBack ⟨by decide, rfl⟩ rfl rfl rfl rfl rfl (by omega) (c_takeBack (by omega) V R4 S4 b0 (by omega) hib (updI_s _ _ _) x0 (by omega)) (fun h6 ⟨S6, f6⟩ => ?_)
      have blk : stI p fb fd L ((m1 + 1) * bwN p k) = stI p fb fd L (m1 * bwN p k) := stI_blk (Int.mul_nonneg m10 (by have := bw_pos V k; omega)) (by rw [Int.add_mul]; have := bw_pos V k; omega) (fun n n0 n1 ok => by
        have E := pre_extP V (k := k) (b := b + 1) (by omega) (by omega) n0 n1
        rw [ps] at E
        have := law_ext V E (b2i_0.mp c2)
        unfold okN at ok
        rw [this] at ok
        simp at ok)
      exact zlMV (zdec eX4_tryDay 51 rfl) rfl ⟨by rw [updI_upd, ← qb, updI_id] at S6; exact S6, by rw [blk]; exact SS4.of (f6 75 3 (by decide)) (fun c => f6 76 c (by omega)), fun c c0 c1 => by rw [f6 77 c (by omega)]; exact T2 _ T4 c c0 c1, f4.tr f6 (fun k j z => z) (fun k j z => by omega)⟩
    · refine zS_aload_n (zdec eX4_tryDay 39 rfl) rfl rfl ?_
      refine zS_aload_n (zdec eX4_tryDay 40 rfl) rfl rfl ?_
      refine zS_iload_n (zdec eX4_tryDay 41 rfl) rfl ?_
      refine zS_iconst (zdec eX4_tryDay 42 rfl) rfl ?_
      refine zS_iadd (zdec eX4_tryDay 43 rfl) ⟨by omega, by omega⟩ ?_
      refine zS_iload (zdec eX4_tryDay 44 rfl) rfl ?_
      refine zS_iload (zdec eX4_tryDay 45 rfl) rfl ?_
      refine zS_iadd (zdec eX4_tryDay 46 rfl) ⟨by omega, by omega⟩ ?_
      have k1 := IH (d := d - 1) (h := h4) (b := b + 1) (m := m1) (by omega) (by omega) (by omega) m10 R4 (by rw [ps]; exact S4) RR4 SS4 (by rw [ps]; exact T4) (by rw [ps]; exact b2i_n.mp c2) (by rw [ps]; exact fit)
      rw [ps, par_pay b0 (by omega) hib qb x0 (by omega)] at k1
      refine zvMV (M' := mX4_choose) (As := [zA 14, zI (b + 1), zI ((parS p q b) + ((priceP p b x) + (if usedP p q x then 0 else pFee p)))]) (st := []) (zdec eX4_tryDay 47 rfl) kM_X4_40 kV_X4_choose ⟨by decide, rfl⟩ rfl rfl rfl rfl rfl (by omega) k1 (fun h5 ⟨k2, k3, k4, k5⟩ => ?_)
      have R5 : WC h5 p := R4.fr V k5 (fun k j z => by unfold wcP; omega)
      have S5 := k2
      have f5 : Fr sSe h h5 := f4.tr k5 (fun k j z => z) (fun k j z => z)
      refine zS_aload_n (zdec eX4_tryDay 48 rfl) rfl rfl ?_
      refine zS_iload_n (zdec eX4_tryDay 49 rfl) rfl ?_
      refine zvMV (M' := mX8_takeBack) (As := [zI b]) (st := []) (zdec eX4_tryDay 50 rfl) kM_X4_88 kV_X8_takeBack ⟨by decide, rfl⟩ rfl rfl rfl rfl rfl (by omega) (c_takeBack (by omega) V R5 S5 b0 (by omega) hib (updI_s _ _ _) x0 (by omega)) (fun h6 ⟨S6, f6⟩ => ?_)
      exact zlMV (zdec eX4_tryDay 51 rfl) rfl ⟨by rw [updI_upd, ← qb, updI_id] at S6; exact S6, k3.of (f6 75 3 (by decide)) (fun c => f6 76 c (by omega)), fun c c0 c1 => by rw [f6 77 c (by omega)]; exact T2 _ k4 c c0 c1, f5.tr f6 (fun k j z => z) (fun k j z => by omega)⟩
  · refine zS_aload_n (zdec eX4_tryDay 10 rfl) rfl rfl ?_
    refine zS_aload_n (zdec eX4_tryDay 11 rfl) rfl rfl ?_
    refine zS_iload_n (zdec eX4_tryDay 12 rfl) rfl ?_
    refine zS_iconst (zdec eX4_tryDay 13 rfl) rfl ?_
    refine zS_iadd (zdec eX4_tryDay 14 rfl) ⟨by omega, by omega⟩ ?_
    refine zS_iload (zdec eX4_tryDay 15 rfl) rfl ?_
    refine zS_aload_n (zdec eX4_tryDay 16 rfl) rfl rfl ?_
    refine zS_iload_n (zdec eX4_tryDay 17 rfl) rfl ?_
    refine zS_iload_n (zdec eX4_tryDay 18 rfl) rfl ?_
    refine zvI (M' := mX8_price) (As := [zI b, zI x]) (st := [zI (parS p q b), zI (b + 1), zA 14, zA 75]) (zdec eX4_tryDay 19 rfl) kM_X4_57 kV_X8_price ⟨by decide, rfl⟩ rfl rfl rfl rfl rfl (by omega) (c_price (by omega) V R1 b0 (by omega) x0 (by omega)) ?_
    refine zS_iadd (zdec eX4_tryDay 20 rfl) ⟨by omega, by omega⟩ ?_
    have xd : x = pDays p := by omega
    have uq : updI q b x = q := by rw [xd, ← qb]; exact updI_id q b
    rw [uq] at ps fit T1
    have k1 := IH (d := d - 1) (h := (zset h 77 b x)) (b := b + 1) (m := m1) (by omega) (by omega) (by omega) m10 R1 (by rw [ps]; exact S1) RR1 SS1 (by rw [ps]; exact T1) (by rw [ps]; exact LW) (by rw [ps]; exact fit)
    rw [ps, par_non b0 qb, ← xd] at k1
    refine zvMV (M' := mX4_choose) (As := [zA 14, zI (b + 1), zI ((parS p q b) + (priceP p b x))]) (st := []) (zdec eX4_tryDay 21 rfl) kM_X4_40 kV_X4_choose ⟨by decide, rfl⟩ rfl rfl rfl rfl rfl (by omega) k1 (fun h5 ⟨k2, k3, k4, k5⟩ => ?_)
    exact zlMV (zdec eX4_tryDay 22 rfl) rfl ⟨k2, k3, T2 _ (by rw [uq]; exact k4), f1.tr k5 (fun k j z => z) (fun k j z => z)⟩

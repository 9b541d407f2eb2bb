theorem PlR.put {h : zH} {p : Pb} {q : Int → Int} (S : PlR h p q) (b v : Int) : PlR (zset h 123 b v) p (updI q b v) := fun c c0 c1 => by
  by_cases w : c = b
  · rw [w, zset_s, updI_s]
  · rw [zset_j w, updI_n w]; exact S c c0 c1
theorem updI_2 {α : Type} (f : Int → α) (k : Int) (v w : α) : updI (updI f k v) k w = updI f k w := by
  funext j
  unfold updI
  split <;> rfl
theorem PlR.re {h : zH} {p : Pb} {q : Int → Int} {b y : Int} (S : PlR h p (updI q b y)) (v : Int) : PlR (zset h 123 b v) p (updI q b v) := by
  have := S.put b v
  rw [updI_2] at this
  exact this
def loR (p : Pb) (q : Int → Int) (b x : Int) : Int := if x = pDays p then 100000000 else goesP p q b x
theorem can_abv {p : Pb} {q : Int → Int} {b e : Int} (b0 : 0 ≤ b) (b1 : b < pNb p) (hi : pIn p b = true) (hq : q b = pDays p) (e0 : 0 ≤ e) : abvP p (updI q b e) e = true ↔ ∀ j, e ≤ j → j < pDays p → pFl p ≤ cashP p q j - goesP p q b e := by
  rw [abv_iff e0]
  constructor
  · intro h j j0 j1
    have := h j j0 j1
    rw [cashP_upd b0 b1 hi hq e0 j1, if_pos j0] at this
    exact this
  · intro h j j0 j1
    rw [cashP_upd b0 b1 hi hq e0 j1, if_pos j0]
    exact h j j0 j1
theorem L_dayF {d : Nat} {h : zH} {p : Pb} {q : Int → Int} {b : Int} (hd : 6 ≤ d) (V : PV p) (R : WR h p) (b0 : 0 ≤ b) (b1 : b < pNb p) (hi : pIn p b = true) (hq : q b = pDays p) : ∀ (n : Nat) (e x y : Int) (h1 : zH), 0 ≤ e → e + n = pDays p → Fr (fun k _ => k = 123 ∨ k = 124) h h1 → PlR h1 p (updI q b y) → bestR (canP p q b) (goesP p q b) (pDays p) 0 e x → zS mX10_dayFor (zr d) 12 [zA 108, zI b, zI x, zI (loR p q b x), zI e, zN] [] TT h1 (zAnI (fun r h' => r = bestP p q b ∧ (∀ c, 0 ≤ c → c < pNb p → c ≠ b → h' 123 c = q c) ∧ Fr (fun k _ => k = 123 ∨ k = 124) h h')) := by
  intro n
  induction n with
  | zero =>
    intro e x y h1 a1 a2 i1 S br
    have R0 := R
    have R : WR h1 p := R.fr i1 (fun k j z => by unfold wrP; omega)
    have nb := V.nb
    have dy := V.days
    refine zS_iload (zdec eX10_dayFor 7 rfl) rfl ?_
    refine zS_aload_n (zdec eX10_dayFor 8 rfl) rfl rfl ?_
    refine zvI (M' := mX10_days) (As := []) (st := [zI e]) (zdec eX10_dayFor 9 rfl) kM_X10_240 kV_X10_days ⟨by decide, rfl⟩ rfl rfl rfl rfl rfl (by omega) (r_days R) ?_
    refine zS_icmp_ge (tgt := 113) (zdec eX10_dayFor 10 rfl) rfl (fun cz => ?_) (fun cz => absurd (by omega) cz)
    refine zS_iload_n (zdec eX10_dayFor 58 rfl) rfl ?_
    exact zlMI (zdec eX10_dayFor 59 rfl) rfl ⟨(bestP_eq (by unfold isBest; rw [show pDays p = e by omega] at br ⊢; exact br)).symm, fun c c0 c1 cn => by rw [S c c0 c1, updI_n cn], i1⟩
  | succ n ih =>
    intro e x y h1 a1 a2 i1 S br
    have R0 := R
    have R : WR h1 p := R.fr i1 (fun k j z => by unfold wrP; omega)
    have nb := V.nb
    have dy := V.days
    have cl := R.cl a1 (show e < 7 by omega)
    have fe := V.fee
    have pb := priceB V b0 b1 (d := e) (by omega)
    refine zS_iload (zdec eX10_dayFor 7 rfl) rfl ?_
    refine zS_aload_n (zdec eX10_dayFor 8 rfl) rfl rfl ?_
    refine zvI (M' := mX10_days) (As := []) (st := [zI e]) (zdec eX10_dayFor 9 rfl) kM_X10_240 kV_X10_days ⟨by decide, rfl⟩ rfl rfl rfl rfl rfl (by omega) (r_days R) ?_
    refine zS_icmp_ge (tgt := 113) (zdec eX10_dayFor 10 rfl) rfl (fun cz => absurd cz (by omega)) (fun cz => ?_)
    refine zS_aload_n (zdec eX10_dayFor 11 rfl) rfl rfl ?_
    refine zS_getfieldE (x := 27) (v := (h1 108 27)) (zdec eX10_dayFor 12 rfl) kF_X10_261 ⟨by decide, rfl⟩ rfl rfl rfl rfl ?_
    refine zS_iload (zdec eX10_dayFor 13 rfl) rfl ?_
    refine zsI (M' := mX10_isBit) (As := [zI (h1 108 27), zI e]) (st := []) (zdec eX10_dayFor 14 rfl) kM_X10_264 kS_X10_isBit rfl rfl rfl (by omega) r_isBit ?_
    refine zS_if_eq (tgt := 36) (zdec eX10_dayFor 15 rfl) rfl (fun c1 => ?_) (fun c1 => ?_)
    · have z1 := b2i_0.mp c1
      refine zS_aload_n (zdec eX10_dayFor 17 rfl) rfl rfl ?_
      refine zS_getref (i := 69) (zdec eX10_dayFor 18 rfl) kF_X10_59 ⟨by decide, rfl⟩ rfl rfl rfl rfl rfl ?_
      refine zS_iload_n (zdec eX10_dayFor 19 rfl) rfl ?_
      refine zS_aload_n (zdec eX10_dayFor 20 rfl) rfl rfl ?_
      refine zvI (M' := mX10_days) (As := []) (st := [zI b, zA 123]) (zdec eX10_dayFor 21 rfl) kM_X10_240 kV_X10_days ⟨by decide, rfl⟩ rfl rfl rfl rfl rfl (by omega) (r_days R) ?_
      refine zS_iastore (zdec eX10_dayFor 22 rfl) ⟨by decide, rfl⟩ (by omega) (by omega) ?_
      have Ra : WR (zset h1 123 b (pDays p)) p := R.set (by unfold wrP; omega)
      have Sa : PlR (zset h1 123 b (pDays p)) p q := by have := S.re (pDays p); rw [← hq, updI_id] at this; rw [← hq]; exact this
      have gb := goesB V q b0 b1 (d := e) (by omega)
      refine zS_aload_n (zdec eX10_dayFor 23 rfl) rfl rfl ?_
      refine zS_iload_n (zdec eX10_dayFor 24 rfl) rfl ?_
      refine zS_iload (zdec eX10_dayFor 25 rfl) rfl ?_
      refine zvI (M' := mX10_costOf) (As := [zI b, zI e]) (st := []) (zdec eX10_dayFor 26 rfl) kM_X10_283 kV_X10_costOf ⟨by decide, rfl⟩ rfl rfl rfl rfl rfl (by omega) (r_costOf (by omega) V Ra (by omega) (by omega) (by omega) (by omega)) ?_
      refine zS_aload_n (zdec eX10_dayFor 27 rfl) rfl rfl ?_
      refine zS_iload (zdec eX10_dayFor 28 rfl) rfl ?_
      refine zvI (M' := mX10_isUsed) (As := [zI e]) (st := [zI (priceP p b e)]) (zdec eX10_dayFor 29 rfl) kM_X10_280 kV_X10_isUsed ⟨by decide, rfl⟩ rfl rfl rfl rfl rfl (by omega) (r_isUsed (by omega) V Ra Sa) ?_
      refine zS_if_eq (tgt := 66) (zdec eX10_dayFor 30 rfl) rfl (fun c2 => ?_) (fun c2 => ?_)
      · have z2 := b2i_0.mp c2
        refine zS_aload_n (zdec eX10_dayFor 33 rfl) rfl rfl ?_
        refine zS_getref (i := 61) (zdec eX10_dayFor 34 rfl) kF_X10_34 ⟨by decide, rfl⟩ rfl rfl rfl rfl rfl ?_
        refine zS_iconst (zdec eX10_dayFor 35 rfl) rfl ?_
        refine zS_ialoadE (v := (pFee p)) (zdec eX10_dayFor 36 rfl) ⟨by decide, rfl⟩ (by decide) (by decide) Ra.fee ?_
        refine zS_iadd (zdec eX10_dayFor 37 rfl) ⟨by omega, by omega⟩ ?_
        rw [show priceP p b e + pFee p = goesP p q b e by unfold goesP; rw [z2, if_neg (by decide)]]
        have Sb : PlR (zset (zset h1 123 b (pDays p)) 123 b e) p (updI q b e) := Sa.put b e
        have Rb : WR (zset (zset h1 123 b (pDays p)) 123 b e) p := Ra.set (by unfold wrP; omega)
        refine zS_istore (zdec eX10_dayFor 38 rfl) rfl ?_
        refine zS_aload_n (zdec eX10_dayFor 39 rfl) rfl rfl ?_
        refine zS_getref (i := 69) (zdec eX10_dayFor 40 rfl) kF_X10_59 ⟨by decide, rfl⟩ rfl rfl rfl rfl rfl ?_
        refine zS_iload_n (zdec eX10_dayFor 41 rfl) rfl ?_
        refine zS_iload (zdec eX10_dayFor 42 rfl) rfl ?_
        refine zS_iastore (zdec eX10_dayFor 43 rfl) ⟨by decide, rfl⟩ (by omega) (by omega) ?_
        refine zS_iload (zdec eX10_dayFor 44 rfl) rfl ?_
        refine zS_iload_n (zdec eX10_dayFor 45 rfl) rfl ?_
        refine zS_icmp_ge (tgt := 107) (zdec eX10_dayFor 46 rfl) rfl (fun c3 => ?_) (fun c3 => ?_)
        · refine zS_iinc (zdec eX10_dayFor 56 rfl) rfl rfl ⟨by omega, by omega⟩ ?_
          refine zS_goto (tgt := 12) (zdec eX10_dayFor 57 rfl) rfl ?_
          refine zS_forget (i := 5) ?_
          have xn : x ≠ pDays p := fun w => by unfold loR at c3; rw [if_pos w] at c3; omega
          have lx : loR p q b x = goesP p q b x := by unfold loR; rw [if_neg xn]
          exact ih (e + 1) x e _ (by omega) (by omega) ((i1.set (by omega)).set (by omega)) Sb (bestR_fwd_no br a1 (Or.inr ⟨xn, by omega⟩) (fun d _ _ => by omega))
        · refine zS_aload_n (zdec eX10_dayFor 47 rfl) rfl rfl ?_
          refine zS_iload (zdec eX10_dayFor 48 rfl) rfl ?_
          refine zvMI (M' := mX10_isAbove) (As := [zI e]) (st := []) (zdec eX10_dayFor 49 rfl) kM_X10_311 kV_X10_isAbove ⟨by decide, rfl⟩ rfl rfl rfl rfl rfl (by omega) (r_isAbove (by omega) V Rb Sb a1 (by omega)) (fun x3 h3 ⟨e3, CA, g3⟩ => ?_)
          subst e3
          have f3 : Fr (fun k _ => k = 123 ∨ k = 124) h h3 := ((i1.set (by omega)).set (by omega)).tr g3 (fun k j z => z) (fun k j z => by omega)
          have Sc : PlR h3 p (updI q b e) := Sb.fr g3 (fun k j z => by omega)
          refine zS_if_ne (tgt := 101) (zdec eX10_dayFor 50 rfl) rfl (fun c4 => ?_) (fun c4 => ?_)
          · refine zS_iload (zdec eX10_dayFor 52 rfl) rfl ?_
            refine zS_istore_n (zdec eX10_dayFor 53 rfl) rfl ?_
            refine zS_iload (zdec eX10_dayFor 54 rfl) rfl ?_
            refine zS_istore_n (zdec eX10_dayFor 55 rfl) rfl ?_
            refine zS_iinc (zdec eX10_dayFor 56 rfl) rfl rfl ⟨by omega, by omega⟩ ?_
            refine zS_goto (tgt := 12) (zdec eX10_dayFor 57 rfl) rfl ?_
            refine zS_forget (i := 5) ?_
            have ca : canP p q b e := ⟨cl.symm.trans z1, (can_abv b0 b1 hi hq a1).mp (b2i_n.mp c4)⟩
            have k := ih (e + 1) e e h3 (by omega) (by omega) f3 Sc (bestR_fwd_yes br a1 ca (by by_cases xn : x = pDays p; exact Or.inl xn; unfold loR at c3; rw [if_neg xn] at c3; exact Or.inr (by omega)) (fun d _ _ => by omega))
            rw [show loR p q b e = goesP p q b e by unfold loR; rw [if_neg (by omega)]] at k
            exact k
          · refine zS_goto (tgt := 107) (zdec eX10_dayFor 51 rfl) rfl ?_
            refine zS_iinc (zdec eX10_dayFor 56 rfl) rfl rfl ⟨by omega, by omega⟩ ?_
            refine zS_goto (tgt := 12) (zdec eX10_dayFor 57 rfl) rfl ?_
            refine zS_forget (i := 5) ?_
            exact ih (e + 1) x e h3 (by omega) (by omega) f3 Sc (bestR_fwd_no br a1 (Or.inl (fun w => by have := (can_abv b0 b1 hi hq a1).mpr w.2; have z : abvP p (updI q b e) e = false := b2i_0.mp (by omega); rw [z] at this; cases this)) (fun d _ _ => by omega))
      · have z2 := b2i_n.mp c2
        refine zS_iconst (zdec eX10_dayFor 31 rfl) rfl ?_
        refine zS_goto (tgt := 72) (zdec eX10_dayFor 32 rfl) rfl ?_
        refine zS_iadd (zdec eX10_dayFor 37 rfl) ⟨by omega, by omega⟩ ?_
        rw [show priceP p b e + 0 = goesP p q b e by unfold goesP; rw [z2, if_pos rfl]]
        have Sb : PlR (zset (zset h1 123 b (pDays p)) 123 b e) p (updI q b e) := Sa.put b e
        have Rb : WR (zset (zset h1 123 b (pDays p)) 123 b e) p := Ra.set (by unfold wrP; omega)
        refine zS_istore (zdec eX10_dayFor 38 rfl) rfl ?_
        refine zS_aload_n (zdec eX10_dayFor 39 rfl) rfl rfl ?_
        refine zS_getref (i := 69) (zdec eX10_dayFor 40 rfl) kF_X10_59 ⟨by decide, rfl⟩ rfl rfl rfl rfl rfl ?_
        refine zS_iload_n (zdec eX10_dayFor 41 rfl) rfl ?_
        refine zS_iload (zdec eX10_dayFor 42 rfl) rfl ?_
        refine zS_iastore (zdec eX10_dayFor 43 rfl) ⟨by decide, rfl⟩ (by omega) (by omega) ?_
        refine zS_iload (zdec eX10_dayFor 44 rfl) rfl ?_
        refine zS_iload_n (zdec eX10_dayFor 45 rfl) rfl ?_
        refine zS_icmp_ge (tgt := 107) (zdec eX10_dayFor 46 rfl) rfl (fun c3 => ?_) (fun c3 => ?_)
        · refine zS_iinc (zdec eX10_dayFor 56 rfl) rfl rfl ⟨by omega, by omega⟩ ?_
          refine zS_goto (tgt := 12) (zdec eX10_dayFor 57 rfl) rfl ?_
          refine zS_forget (i := 5) ?_
          have xn : x ≠ pDays p := fun w => by unfold loR at c3; rw [if_pos w] at c3; omega
          have lx : loR p q b x = goesP p q b x := by unfold loR; rw [if_neg xn]
          exact ih (e + 1) x e _ (by omega) (by omega) ((i1.set (by omega)).set (by omega)) Sb (bestR_fwd_no br a1 (Or.inr ⟨xn, by omega⟩) (fun d _ _ => by omega))
        · refine zS_aload_n (zdec eX10_dayFor 47 rfl) rfl rfl ?_
          refine zS_iload (zdec eX10_dayFor 48 rfl) rfl ?_
          refine zvMI (M' := mX10_isAbove) (As := [zI e]) (st := []) (zdec eX10_dayFor 49 rfl) kM_X10_311 kV_X10_isAbove ⟨by decide, rfl⟩ rfl rfl rfl rfl rfl (by omega) (r_isAbove (by omega) V Rb Sb a1 (by omega)) (fun x3 h3 ⟨e3, CA, g3⟩ => ?_)
          subst e3
          have f3 : Fr (fun k _ => k = 123 ∨ k = 124) h h3 := ((i1.set (by omega)).set (by omega)).tr g3 (fun k j z => z) (fun k j z => by omega)
          have Sc : PlR h3 p (updI q b e) := Sb.fr g3 (fun k j z => by omega)
          refine zS_if_ne (tgt := 101) (zdec eX10_dayFor 50 rfl) rfl (fun c4 => ?_) (fun c4 => ?_)
          · refine zS_iload (zdec eX10_dayFor 52 rfl) rfl ?_
            refine zS_istore_n (zdec eX10_dayFor 53 rfl) rfl ?_
            refine zS_iload (zdec eX10_dayFor 54 rfl) rfl ?_
            refine zS_istore_n (zdec eX10_dayFor 55 rfl) rfl ?_
            refine zS_iinc (zdec eX10_dayFor 56 rfl) rfl rfl ⟨by omega, by omega⟩ ?_
            refine zS_goto (tgt := 12) (zdec eX10_dayFor 57 rfl) rfl ?_
            refine zS_forget (i := 5) ?_
            have ca : canP p q b e := ⟨cl.symm.trans z1, (can_abv b0 b1 hi hq a1).mp (b2i_n.mp c4)⟩
            have k := ih (e + 1) e e h3 (by omega) (by omega) f3 Sc (bestR_fwd_yes br a1 ca (by by_cases xn : x = pDays p; exact Or.inl xn; unfold loR at c3; rw [if_neg xn] at c3; exact Or.inr (by omega)) (fun d _ _ => by omega))
            rw [show loR p q b e = goesP p q b e by unfold loR; rw [if_neg (by omega)]] at k
            exact k
          · refine zS_goto (tgt := 107) (zdec eX10_dayFor 51 rfl) rfl ?_
            refine zS_iinc (zdec eX10_dayFor 56 rfl) rfl rfl ⟨by omega, by omega⟩ ?_
            refine zS_goto (tgt := 12) (zdec eX10_dayFor 57 rfl) rfl ?_
            refine zS_forget (i := 5) ?_
            exact ih (e + 1) x e h3 (by omega) (by omega) f3 Sc (bestR_fwd_no br a1 (Or.inl (fun w => by have := (can_abv b0 b1 hi hq a1).mpr w.2; have z : abvP p (updI q b e) e = false := b2i_0.mp (by omega); rw [z] at this; cases this)) (fun d _ _ => by omega))
    · have z1 := b2i_n.mp c1
      refine zS_goto (tgt := 107) (zdec eX10_dayFor 16 rfl) rfl ?_
      refine zS_iinc (zdec eX10_dayFor 56 rfl) rfl rfl ⟨by omega, by omega⟩ ?_
      refine zS_goto (tgt := 12) (zdec eX10_dayFor 57 rfl) rfl ?_
      refine ih (e + 1) x y h1 (by omega) (by omega) i1 S (bestR_fwd_no br a1 (Or.inl (fun w => by have := w.1; rw [← cl, z1] at this; cases this)) (fun d _ _ => by omega))
theorem r_dayFor {d : Nat} {h : zH} {p : Pb} {q : Int → Int} {b : Int} (hd : 6 ≤ d) (V : PV p) (R : WR h p) (b0 : 0 ≤ b) (b1 : b < pNb p) (hi : pIn p b = true) (hq : q b = pDays p) (S : PlR h p q) : zMI d mX10_dayFor [zA 108, zI b] h (fun r h' => r = bestP p q b ∧ (∀ c, 0 ≤ c → c < pNb p → c ≠ b → h' 123 c = q c) ∧ Fr (fun k _ => k = 123 ∨ k = 124) h h') := by
  have dy := V.days
  refine zmet rfl rfl rfl ?_
  refine zS_aload_n (zdec eX10_dayFor 0 rfl) rfl rfl ?_
  refine zvI (M' := mX10_days) (As := []) (st := []) (zdec eX10_dayFor 1 rfl) kM_X10_240 kV_X10_days ⟨by decide, rfl⟩ rfl rfl rfl rfl rfl (by omega) (r_days R) ?_
  refine zS_istore_n (zdec eX10_dayFor 2 rfl) rfl ?_
  refine zS_ldc_w (zdec eX10_dayFor 3 rfl) kc_X10_310 rfl ?_
  refine zS_istore_n (zdec eX10_dayFor 4 rfl) rfl ?_
  refine zS_iconst (zdec eX10_dayFor 5 rfl) rfl ?_
  refine zS_istore (zdec eX10_dayFor 6 rfl) rfl ?_
  have k := L_dayF hd V R b0 b1 hi hq (pDays p).toNat 0 (pDays p) (pDays p) h (by omega) (by omega) Fr.rf (by rw [← hq, updI_id]; exact S) (bestR_nil (by omega))
  rw [show loR p q b (pDays p) = 100000000 by unfold loR; rw [if_pos rfl]] at k
  exact k
theorem L_runs {d : Nat} {h : zH} {p : Pb} (hd : 7 ≤ d) (V : PV p) (R : WR h p) : ∀ (n : Nat) (e : Int) (h1 : zH), 0 ≤ e → e + n = ((ordP p).length : Int) → Fr (fun k j => (k = 108 ∧ j = 34) ∨ (123 ≤ k ∧ k ≤ 125)) h h1 → OrdR h1 (ordP p) → PlR h1 p (planQ p ((ordP p).take e.toNat) (fun _ => pDays p)) → zS mX10_runs (zr d) 32 [zA 108, zI e] [] TT h1 (zAnV (fun h' => PlR h' p (planP p) ∧ OrdR h' (ordP p) ∧ Fr (fun k j => (k = 108 ∧ j = 34) ∨ (123 ≤ k ∧ k ≤ 125)) h h')) := by
  intro n
  induction n with
  | zero =>
    intro e h1 a1 a2 i1 O S
    have R0 := R
    have R : WR h1 p := R.fr i1 (fun k j z => by unfold wrP; omega)
    have nb := V.nb
    have dy := V.days
    refine zS_iload_n (zdec eX10_runs 18 rfl) rfl ?_
    refine zS_aload_n (zdec eX10_runs 19 rfl) rfl rfl ?_
    refine zS_getfieldE (x := 34) (v := ((ordP p).length : Int)) (zdec eX10_runs 20 rfl) kF_X10_298 ⟨by decide, rfl⟩ rfl rfl rfl O.1 ?_
    refine zS_icmp_ge (tgt := 67) (zdec eX10_runs 21 rfl) rfl (fun cz => ?_) (fun cz => absurd (by omega) cz)
    exact zlMV (zdec eX10_runs 37 rfl) rfl ⟨by unfold planP; rw [List.take_of_length_le (by omega)] at S; exact S, O, i1⟩
  | succ n ih =>
    intro e h1 a1 a2 i1 O S
    have R0 := R
    have R : WR h1 p := R.fr i1 (fun k j z => by unfold wrP; omega)
    have nb := V.nb
    have dy := V.days
    have ol : ((ordP p).length : Int) ≤ pNb p := ordI_len (p := p) (e := pNb p) (by omega)
    have is := ordP_is V
    have ob := (is.2 _).mp (getD_mem (show e.toNat < (ordP p).length by omega))
    have hq : (planQ p ((ordP p).take e.toNat) (fun _ => pDays p)) ((ordP p).getD e.toNat 0) = pDays p := planQ_not (not_take is.1 (by omega))
    refine zS_iload_n (zdec eX10_runs 18 rfl) rfl ?_
    refine zS_aload_n (zdec eX10_runs 19 rfl) rfl rfl ?_
    refine zS_getfieldE (x := 34) (v := ((ordP p).length : Int)) (zdec eX10_runs 20 rfl) kF_X10_298 ⟨by decide, rfl⟩ rfl rfl rfl O.1 ?_
    refine zS_icmp_ge (tgt := 67) (zdec eX10_runs 21 rfl) rfl (fun cz => absurd cz (by omega)) (fun cz => ?_)
    refine zS_aload_n (zdec eX10_runs 22 rfl) rfl rfl ?_
    refine zS_getref (i := 69) (zdec eX10_runs 23 rfl) kF_X10_59 ⟨by decide, rfl⟩ rfl rfl rfl rfl rfl ?_
    refine zS_aload_n (zdec eX10_runs 24 rfl) rfl rfl ?_
    refine zS_getref (i := 71) (zdec eX10_runs 25 rfl) kF_X10_65 ⟨by decide, rfl⟩ rfl rfl rfl rfl rfl ?_
    refine zS_iload_n (zdec eX10_runs 26 rfl) rfl ?_
    refine zS_ialoadE (v := ((ordP p).getD e.toNat 0)) (zdec eX10_runs 27 rfl) ⟨by decide, rfl⟩ (by omega) (by omega) (by have := O.2 e.toNat (by omega); rw [Int.toNat_of_nonneg a1] at this; exact this) ?_
    refine zS_aload_n (zdec eX10_runs 28 rfl) rfl rfl ?_
    refine zS_aload_n (zdec eX10_runs 29 rfl) rfl rfl ?_
    refine zS_getref (i := 71) (zdec eX10_runs 30 rfl) kF_X10_65 ⟨by decide, rfl⟩ rfl rfl rfl rfl rfl ?_
    refine zS_iload_n (zdec eX10_runs 31 rfl) rfl ?_
    refine zS_ialoadE (v := ((ordP p).getD e.toNat 0)) (zdec eX10_runs 32 rfl) ⟨by decide, rfl⟩ (by omega) (by omega) (by have := O.2 e.toNat (by omega); rw [Int.toNat_of_nonneg a1] at this; exact this) ?_
    refine zvMI (M' := mX10_dayFor) (As := [zI ((ordP p).getD e.toNat 0)]) (st := [zI ((ordP p).getD e.toNat 0), zA 123]) (zdec eX10_runs 33 rfl) kM_X10_307 kV_X10_dayFor ⟨by decide, rfl⟩ rfl rfl rfl rfl rfl (by omega) (r_dayFor (q := (planQ p ((ordP p).take e.toNat) (fun _ => pDays p))) (by omega) V R ob.1 ob.2.1 ob.2.2 hq S) (fun x3 h3 ⟨e3, S3, g3⟩ => ?_)
    refine zS_iastore (zdec eX10_runs 34 rfl) ⟨by decide, rfl⟩ (by omega) (by omega) ?_
    refine zS_iinc (zdec eX10_runs 35 rfl) rfl rfl ⟨by omega, by omega⟩ ?_
    refine zS_goto (tgt := 32) (zdec eX10_runs 36 rfl) rfl ?_
    refine ih (e + 1) _ (by omega) (by omega) ((i1.tr g3 (fun k j z => z) (fun k j z => by omega)).set (by omega)) ⟨by rw [zset_n (by omega), g3 _ _ (by omega)]; exact O.1, fun j hj => by rw [zset_n (by omega), g3 _ _ (by omega)]; exact O.2 j hj⟩ ?_
    rw [take_s a1 (by omega), planQ_app]
    intro c c0 c1
    by_cases w : c = ((ordP p).getD e.toNat 0)
    · rw [w, zset_s, updI_s, e3]
    · rw [zset_j w, updI_n w]; exact S3 c c0 c1 w
theorem L_runs0 {d : Nat} {h : zH} {p : Pb} (hd : 7 ≤ d) (V : PV p) (R : WR h p) : ∀ (n : Nat) (e : Int) (h1 : zH), 0 ≤ e → e + n = pNb p → Fr (fun k j => (k = 108 ∧ j = 34) ∨ (123 ≤ k ∧ k ≤ 125)) h h1 → OrdR h1 (ordP p) → (∀ c, 0 ≤ c → c < e → h1 123 c = pDays p) → zS mX10_runs (zr d) 6 [zA 108, zI e] [] TT h1 (zAnV (fun h' => PlR h' p (planP p) ∧ OrdR h' (ordP p) ∧ Fr (fun k j => (k = 108 ∧ j = 34) ∨ (123 ≤ k ∧ k ≤ 125)) h h')) := by
  intro n
  induction n with
  | zero =>
    intro e h1 a1 a2 i1 O i2
    have R0 := R
    have R : WR h1 p := R.fr i1 (fun k j z => by unfold wrP; omega)
    have nb := V.nb
    have dy := V.days
    refine zS_iload_n (zdec eX10_runs 4 rfl) rfl ?_
    refine zS_aload_n (zdec eX10_runs 5 rfl) rfl rfl ?_
    refine zvI (M' := mX10_bills) (As := []) (st := [zI e]) (zdec eX10_runs 6 rfl) kM_X10_236 kV_X10_bills ⟨by decide, rfl⟩ rfl rfl rfl rfl rfl (by omega) (r_bills R) ?_
    refine zS_icmp_ge (tgt := 30) (zdec eX10_runs 7 rfl) rfl (fun cz => ?_) (fun cz => absurd (by omega) cz)
    refine zS_iconst (zdec eX10_runs 16 rfl) rfl ?_
    refine zS_istore_n (zdec eX10_runs 17 rfl) rfl ?_
    exact L_runs hd V R0 (ordP p).length 0 h1 (by omega) (by omega) i1 O (fun c c0 c1 => i2 c c0 (by omega))
  | succ n ih =>
    intro e h1 a1 a2 i1 O i2
    have R0 := R
    have R : WR h1 p := R.fr i1 (fun k j z => by unfold wrP; omega)
    have nb := V.nb
    have dy := V.days
    refine zS_iload_n (zdec eX10_runs 4 rfl) rfl ?_
    refine zS_aload_n (zdec eX10_runs 5 rfl) rfl rfl ?_
    refine zvI (M' := mX10_bills) (As := []) (st := [zI e]) (zdec eX10_runs 6 rfl) kM_X10_236 kV_X10_bills ⟨by decide, rfl⟩ rfl rfl rfl rfl rfl (by omega) (r_bills R) ?_
    refine zS_icmp_ge (tgt := 30) (zdec eX10_runs 7 rfl) rfl (fun cz => absurd cz (by omega)) (fun cz => ?_)
    refine zS_aload_n (zdec eX10_runs 8 rfl) rfl rfl ?_
    refine zS_getref (i := 69) (zdec eX10_runs 9 rfl) kF_X10_59 ⟨by decide, rfl⟩ rfl rfl rfl rfl rfl ?_
    refine zS_iload_n (zdec eX10_runs 10 rfl) rfl ?_
    refine zS_aload_n (zdec eX10_runs 11 rfl) rfl rfl ?_
    refine zvI (M' := mX10_days) (As := []) (st := [zI e, zA 123]) (zdec eX10_runs 12 rfl) kM_X10_240 kV_X10_days ⟨by decide, rfl⟩ rfl rfl rfl rfl rfl (by omega) (r_days R) ?_
    refine zS_iastore (zdec eX10_runs 13 rfl) ⟨by decide, rfl⟩ (by omega) (by omega) ?_
    refine zS_iinc (zdec eX10_runs 14 rfl) rfl rfl ⟨by omega, by omega⟩ ?_
    refine zS_goto (tgt := 6) (zdec eX10_runs 15 rfl) rfl ?_
    refine ih (e + 1) _ (by omega) (by omega) (i1.set (by omega)) ⟨by rw [zset_n (by omega)]; exact O.1, fun j hj => by rw [zset_n (by omega)]; exact O.2 j hj⟩ (fun c c0 c1 => ?_)
    by_cases w : c = e
    · rw [w, zset_s]
    · rw [zset_j w]; exact i2 c c0 (by omega)
theorem r_runs {d : Nat} {h : zH} {p : Pb} (hd : 7 ≤ d) (V : PV p) (R : WR h p) : zMV d mX10_runs [zA 108] h (fun h' => PlR h' p (planP p) ∧ OrdR h' (ordP p) ∧ Fr (fun k j => (k = 108 ∧ j = 34) ∨ (123 ≤ k ∧ k ≤ 125)) h h') := by
  have nb := V.nb
  refine zmet rfl rfl rfl ?_
  refine zS_aload_n (zdec eX10_runs 0 rfl) rfl rfl ?_
  refine zvMV (M' := mX10_laysTurns) (As := []) (st := []) (zdec eX10_runs 1 rfl) kM_X10_304 kV_X10_laysTurns ⟨by decide, rfl⟩ rfl rfl rfl rfl rfl (by omega) (r_laysTurns (by omega) V R) (fun h1 ⟨O, g1⟩ => ?_)
  have i1 : Fr (fun k j => (k = 108 ∧ j = 34) ∨ (123 ≤ k ∧ k ≤ 125)) h h1 := g1.mono (fun k j z => by omega)
  refine zS_iconst (zdec eX10_runs 2 rfl) rfl ?_
  refine zS_istore_n (zdec eX10_runs 3 rfl) rfl ?_
  exact L_runs0 hd V R (pNb p).toNat 0 h1 (by omega) (by omega) i1 O (fun c c0 c1 => by omega)

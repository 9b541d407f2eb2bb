def stQ (p : Pb) (k x e : Int) : Int → Int := fun b => if 0 ≤ b ∧ b < e ∧ bitB k b = true then x else pDays p
theorem stQ_rng {p : Pb} (V : PV p) {k x e : Int} (x0 : 0 ≤ x) (x1 : x < pDays p) (b : Int) : 0 ≤ stQ p k x e b ∧ stQ p k x e b ≤ pDays p := by
  have := V.days
  unfold stQ
  split <;> omega
theorem stQ_t {p : Pb} {k x e : Int} (h0 : 0 ≤ e) (h : bitB k e = true) : updI (stQ p k x e) e x = stQ p k x (e + 1) := by
  funext b
  unfold updI stQ
  by_cases w : b = e
  · rw [if_pos w, if_pos ⟨by omega, by omega, by rw [w]; exact h⟩]
  · rw [if_neg w]
    by_cases z : 0 ≤ b ∧ b < e ∧ bitB k b = true
    · rw [if_pos z, if_pos ⟨z.1, by omega, z.2.2⟩]
    · rw [if_neg z, if_neg (fun y => z ⟨y.1, by omega, y.2.2⟩)]
theorem stQ_f {p : Pb} {k x e : Int} (h : bitB k e = false) : stQ p k x e = stQ p k x (e + 1) := by
  funext b
  unfold stQ
  by_cases z : 0 ≤ b ∧ b < e ∧ bitB k b = true
  · rw [if_pos z, if_pos ⟨z.1, by omega, z.2.2⟩]
  · rw [if_neg z, if_neg (fun y => ?_)]
    by_cases w : b = e
    · rw [w, h] at y; exact absurd y.2.2 (by decide)
    · exact z ⟨y.1, by omega, y.2.2⟩
theorem stQ_0 (p : Pb) (k x : Int) : stQ p k x 0 = fun _ => pDays p := by
  funext b
  unfold stQ
  rw [if_neg (by omega)]
def loT (p : Pb) (x k : Int) : Int := if 1 ≤ k ∧ lawP p (stQ p k x (pNb p)) = true then totalP p (stQ p k x (pNb p)) else 2147483647
def loP (p : Pb) (x : Int) : Int := mnI (loT p x) (zShl 1 (pNb p))
theorem loTB {p : Pb} (V : PV p) {x : Int} (x0 : 0 ≤ x) (x1 : x < pDays p) (k : Int) : 0 ≤ loT p x k := by
  have t := totB V (q := stQ p k x (pNb p)) (stQ_rng V x0 x1)
  unfold loT
  split <;> omega
theorem L_lod1 {d : Nat} {h : zH} {D : Dk} {p : Pb} {x m k : Int} {Q : Option zV → zT → zH → Prop} (hp : pb0 D = p) (hd : 6 ≤ d) (VD : DV D) (hd0 : 0 < D 0 0) (RD : DC h 15 D) (x0 : 0 ≤ x) (x1 : x < D 0 1) (K : ∀ h2 : zH, Fr sQ h h2 → WC h2 p → PlC h2 p (stQ p k x (D 0 8)) → zS mX9_leastOnDay (zr d) 72 [zA 0, zI x, zI m, zI k, zI (D 0 8)] [] TT h2 Q) : ∀ (n : Nat) (e : Int) (h1 : zH), 0 ≤ e → e + n = D 0 8 → Fr sQ h h1 → WC h1 p → PlC h1 p (stQ p k x e) → zS mX9_leastOnDay (zr d) 34 [zA 0, zI x, zI m, zI k, zI e] [] TT h1 Q := by
  intro n
  induction n with
  | zero =>
    intro e h1 a1 a2 i1 i2 i3
    have RD1 : DC h1 15 D := RD.fr i1 (fun k j z => by omega)
    refine zS_iload (zdec eX9_leastOnDay 17 rfl) rfl ?_
    refine zS_aload_n (zdec eX9_leastOnDay 18 rfl) rfl rfl ?_
    refine zS_getref (i := 2) (zdec eX9_leastOnDay 19 rfl) kF_X9_27 ⟨by decide, rfl⟩ rfl rfl rfl rfl rfl ?_
    refine zS_getfieldE (x := 8) (v := (D 0 8)) (zdec eX9_leastOnDay 20 rfl) kF_X9_202 ⟨by decide, rfl⟩ rfl rfl rfl (RD1.s (by decide) (by decide)) ?_
    refine zS_icmp_ge (tgt := 72) (zdec eX9_leastOnDay 21 rfl) rfl (fun cz => ?_) (fun cz => absurd (by omega) cz)
    rw [show e = D 0 8 by omega] at i3 ⊢
    exact K h1 i1 i2 i3
  | succ n ih =>
    intro e h1 a1 a2 i1 i2 i3
    have RD1 : DC h1 15 D := RD.fr i1 (fun k j z => by omega)
    have pn : pNb p = D 0 8 := by rw [← hp]; rfl
    have pd : pDays p = D 0 1 := by rw [← hp]; rfl
    have V : PV p := by rw [← hp]; exact pb0_V VD hd0
    have nb := VD.nb
    have dy := VD.days
    refine zS_iload (zdec eX9_leastOnDay 17 rfl) rfl ?_
    refine zS_aload_n (zdec eX9_leastOnDay 18 rfl) rfl rfl ?_
    refine zS_getref (i := 2) (zdec eX9_leastOnDay 19 rfl) kF_X9_27 ⟨by decide, rfl⟩ rfl rfl rfl rfl rfl ?_
    refine zS_getfieldE (x := 8) (v := (D 0 8)) (zdec eX9_leastOnDay 20 rfl) kF_X9_202 ⟨by decide, rfl⟩ rfl rfl rfl (RD1.s (by decide) (by decide)) ?_
    refine zS_icmp_ge (tgt := 72) (zdec eX9_leastOnDay 21 rfl) rfl (fun cz => absurd cz (by omega)) (fun cz => ?_)
    refine zS_iload_n (zdec eX9_leastOnDay 22 rfl) rfl ?_
    refine zS_iload (zdec eX9_leastOnDay 23 rfl) rfl ?_
    refine zS_ishr (zdec eX9_leastOnDay 24 rfl) ?_
    refine zS_iconst (zdec eX9_leastOnDay 25 rfl) rfl ?_
    refine zS_iand (zdec eX9_leastOnDay 26 rfl) ?_
    refine zS_iconst (zdec eX9_leastOnDay 27 rfl) rfl ?_
    refine zS_icmp_ne (tgt := 66) (zdec eX9_leastOnDay 28 rfl) rfl (fun c1 => ?_) (fun c1 => ?_)
    · refine zS_iinc (zdec eX9_leastOnDay 34 rfl) rfl rfl ⟨by omega, by omega⟩ ?_
      refine zS_goto (tgt := 34) (zdec eX9_leastOnDay 35 rfl) rfl ?_
      exact ih (e + 1) h1 (by omega) (by omega) i1 i2 (by rw [← stQ_f (bitB_f.mpr c1)]; exact i3)
    · refine zS_aload_n (zdec eX9_leastOnDay 29 rfl) rfl rfl ?_
      refine zS_getref (i := 1) (zdec eX9_leastOnDay 30 rfl) kF_X9_19 ⟨by decide, rfl⟩ rfl rfl rfl rfl rfl ?_
      refine zS_iload (zdec eX9_leastOnDay 31 rfl) rfl ?_
      refine zS_iload_n (zdec eX9_leastOnDay 32 rfl) rfl ?_
      refine zvMV (M' := mX8_pay) (As := [zI e, zI x]) (st := []) (zdec eX9_leastOnDay 33 rfl) kM_X9_434 kV_X8_pay ⟨by decide, rfl⟩ rfl rfl rfl rfl rfl (by omega) (c_pay (by omega) V i2 i3 a1 (by omega) (by rw [← hp]; rfl) (by unfold stQ; rw [if_neg (by omega)]) x0 (by omega)) (fun h3 ⟨S3, g3⟩ => ?_)
      rw [stQ_t a1 (bitB_t.mpr c1)] at S3
      have f3 : Fr sQ h h3 := i1.tr g3 (fun k j z => z) (fun k j z => by omega)
      have W3 := i2.fr V g3 (fun k j z => by unfold wcP; omega)
      refine zS_iinc (zdec eX9_leastOnDay 34 rfl) rfl rfl ⟨by omega, by omega⟩ ?_
      refine zS_goto (tgt := 34) (zdec eX9_leastOnDay 35 rfl) rfl ?_
      exact ih (e + 1) h3 (by omega) (by omega) f3 W3 S3
theorem L_lod {d : Nat} {h : zH} {D : Dk} {p : Pb} {x : Int} (hp : pb0 D = p) (hd : 6 ≤ d) (VD : DV D) (hd0 : 0 < D 0 0) (RD : DC h 15 D) (x0 : 0 ≤ x) (x1 : x < D 0 1) : ∀ (n : Nat) (e : Int) (h1 : zH), 1 ≤ e → e + n = zShl 1 (D 0 8) → Fr sQ h h1 → WC h1 p → zS mX9_leastOnDay (zr d) 13 [zA 0, zI x, zI (mnI (loT p x) e), zI e, zN] [] TT h1 (zAnI (fun r h' => r = loP p x ∧ Fr sQ h h')) := by
  intro n
  induction n with
  | zero =>
    intro e h1 a1 a2 i1 i2
    have RD1 : DC h1 15 D := RD.fr i1 (fun k j z => by omega)
    have pn : pNb p = D 0 8 := by rw [← hp]; rfl
    have pd : pDays p = D 0 1 := by rw [← hp]; rfl
    have V : PV p := by rw [← hp]; exact pb0_V VD hd0
    have nb := VD.nb
    have dy := VD.days
    refine zS_iload_n (zdec eX9_leastOnDay 7 rfl) rfl ?_
    refine zS_aload_n (zdec eX9_leastOnDay 8 rfl) rfl rfl ?_
    refine zS_getref (i := 1) (zdec eX9_leastOnDay 9 rfl) kF_X9_19 ⟨by decide, rfl⟩ rfl rfl rfl rfl rfl ?_
    refine zvI (M' := mX8_allBills) (As := []) (st := [zI e]) (zdec eX9_leastOnDay 10 rfl) kM_X9_262 kV_X8_allBills ⟨by decide, rfl⟩ rfl rfl rfl rfl rfl (by omega) (c_allBills VD RD1) ?_
    refine zS_icmp_gt (tgt := 100) (zdec eX9_leastOnDay 11 rfl) rfl (fun cz => ?_) (fun cz => absurd (by omega) cz)
    refine zS_iload_n (zdec eX9_leastOnDay 48 rfl) rfl ?_
    exact zlMI (zdec eX9_leastOnDay 49 rfl) rfl ⟨by unfold loP; rw [pn, show e = zShl 1 (D 0 8) by omega], i1⟩
  | succ n ih =>
    intro e h1 a1 a2 i1 i2
    have RD1 : DC h1 15 D := RD.fr i1 (fun k j z => by omega)
    have pn : pNb p = D 0 8 := by rw [← hp]; rfl
    have pd : pDays p = D 0 1 := by rw [← hp]; rfl
    have V : PV p := by rw [← hp]; exact pb0_V VD hd0
    have nb := VD.nb
    have dy := VD.days
    have ab := allB5 nb.1 nb.2
    have mb := mnI_nn (f := loT p x) (k := e) (by omega) (fun j _ _ => loTB V x0 (by omega) j)
    refine zS_iload_n (zdec eX9_leastOnDay 7 rfl) rfl ?_
    refine zS_aload_n (zdec eX9_leastOnDay 8 rfl) rfl rfl ?_
    refine zS_getref (i := 1) (zdec eX9_leastOnDay 9 rfl) kF_X9_19 ⟨by decide, rfl⟩ rfl rfl rfl rfl rfl ?_
    refine zvI (M' := mX8_allBills) (As := []) (st := [zI e]) (zdec eX9_leastOnDay 10 rfl) kM_X9_262 kV_X8_allBills ⟨by decide, rfl⟩ rfl rfl rfl rfl rfl (by omega) (c_allBills VD RD1) ?_
    refine zS_icmp_gt (tgt := 100) (zdec eX9_leastOnDay 11 rfl) rfl (fun cz => absurd cz (by omega)) (fun cz => ?_)
    refine zS_aload_n (zdec eX9_leastOnDay 12 rfl) rfl rfl ?_
    refine zS_getref (i := 1) (zdec eX9_leastOnDay 13 rfl) kF_X9_19 ⟨by decide, rfl⟩ rfl rfl rfl rfl rfl ?_
    refine zvMV (M' := mX8_clearPlan) (As := []) (st := []) (zdec eX9_leastOnDay 14 rfl) kM_X9_431 kV_X8_clearPlan ⟨by decide, rfl⟩ rfl rfl rfl rfl rfl (by omega) (c_clearPlan (by omega) V i2) (fun h2 ⟨S2, mi2, g2⟩ => ?_)
    have f2 : Fr sQ h h2 := i1.tr g2 (fun k j z => z) (fun k j z => by omega)
    have W2 := i2.fr V g2 (fun k j z => by unfold wcP; omega)
    refine zS_iconst (zdec eX9_leastOnDay 15 rfl) rfl ?_
    refine zS_istore (zdec eX9_leastOnDay 16 rfl) rfl ?_
    refine L_lod1 hp hd VD hd0 RD x0 x1 (fun ha fa Wa Sa => ?_) (D 0 8).toNat 0 h2 (by omega) (by omega) f2 W2 (by rw [stQ_0]; exact S2)
    refine zS_aload_n (zdec eX9_leastOnDay 36 rfl) rfl rfl ?_
    refine zS_getref (i := 1) (zdec eX9_leastOnDay 37 rfl) kF_X9_19 ⟨by decide, rfl⟩ rfl rfl rfl rfl rfl ?_
    refine zvI (M' := mX8_isLawful) (As := []) (st := []) (zdec eX9_leastOnDay 38 rfl) kM_X9_237 kV_X8_isLawful ⟨by decide, rfl⟩ rfl rfl rfl rfl rfl (by omega) (c_isLawful (by omega) V Wa Sa) ?_
    refine zS_if_eq (tgt := 94) (zdec eX9_leastOnDay 39 rfl) rfl (fun c1 => ?_) (fun c1 => ?_)
    · refine zS_iinc (zdec eX9_leastOnDay 46 rfl) rfl rfl ⟨by omega, by omega⟩ ?_
      refine zS_goto (tgt := 13) (zdec eX9_leastOnDay 47 rfl) rfl ?_
      refine zS_forget (i := 4) ?_
      have k := ih (e + 1) ha (by omega) (by omega) fa Wa
      rw [mnI_s _ (by omega)] at k
      rw [show loT p x e = 2147483647 by unfold loT; rw [if_neg (by rw [pn, b2i_0.mp c1]; simp)], Int.min_eq_left mb.2] at k
      exact k
    · refine zS_iload_n (zdec eX9_leastOnDay 40 rfl) rfl ?_
      refine zS_aload_n (zdec eX9_leastOnDay 41 rfl) rfl rfl ?_
      refine zS_getref (i := 1) (zdec eX9_leastOnDay 42 rfl) kF_X9_19 ⟨by decide, rfl⟩ rfl rfl rfl rfl rfl ?_
      refine zvI (M' := mX8_whole) (As := []) (st := [zI (mnI (loT p x) e)]) (zdec eX9_leastOnDay 43 rfl) kM_X9_214 kV_X8_whole ⟨by decide, rfl⟩ rfl rfl rfl rfl rfl (by omega) (c_whole (by omega) V Wa Sa (fun b => (stQ_rng V x0 (by omega) b).1) (fun b => (stQ_rng V x0 (by omega) b).2)) ?_
      refine zS_min (zdec eX9_leastOnDay 44 rfl) kM_X9_252 rfl (by omega) ?_
      refine zS_istore_n (zdec eX9_leastOnDay 45 rfl) rfl ?_
      refine zS_iinc (zdec eX9_leastOnDay 46 rfl) rfl rfl ⟨by omega, by omega⟩ ?_
      refine zS_goto (tgt := 13) (zdec eX9_leastOnDay 47 rfl) rfl ?_
      refine zS_forget (i := 4) ?_
      have k := ih (e + 1) ha (by omega) (by omega) fa Wa
      rw [mnI_s _ (by omega)] at k
      rw [show loT p x e = totalP p (stQ p e x (D 0 8)) by unfold loT; rw [pn, if_pos ⟨a1, b2i_n.mp c1⟩]] at k
      exact k
theorem c_lod {d : Nat} {h : zH} {D : Dk} {p : Pb} {x : Int} (hp : pb0 D = p) (hd : 6 ≤ d) (VD : DV D) (hd0 : 0 < D 0 0) (RD : DC h 15 D) (x0 : 0 ≤ x) (x1 : x < D 0 1) : zMI d mX9_leastOnDay [zA 0, zI x] h (fun r h' => r = loP p x ∧ Fr sQ h h') := by
  have pn : pNb p = D 0 8 := by rw [← hp]; rfl
  have pd : pDays p = D 0 1 := by rw [← hp]; rfl
  have V : PV p := by rw [← hp]; exact pb0_V VD hd0
  have nb := VD.nb
  have dy := VD.days
  have ab := all_rng (k := D 0 8) nb.1 (by omega)
  refine zmet rfl rfl rfl ?_
  refine zS_ldc_w (zdec eX9_leastOnDay 0 rfl) kc_X9_257 rfl ?_
  refine zS_istore_n (zdec eX9_leastOnDay 1 rfl) rfl ?_
  refine zS_aload_n (zdec eX9_leastOnDay 2 rfl) rfl rfl ?_
  refine zS_getref (i := 1) (zdec eX9_leastOnDay 3 rfl) kF_X9_19 ⟨by decide, rfl⟩ rfl rfl rfl rfl rfl ?_
  refine zvMV (M' := mX8_asTold) (As := []) (st := []) (zdec eX9_leastOnDay 4 rfl) kM_X9_130 kV_X8_asTold ⟨by decide, rfl⟩ rfl rfl rfl rfl rfl (by omega) (c_asTold (by omega) hd0 VD RD) (fun h2 ⟨R, cl2, g2⟩ => ?_)
  rw [hp] at R
  have f2 : Fr sQ h h2 := g2.mono (fun k j z => by omega)
  refine zS_iconst (zdec eX9_leastOnDay 5 rfl) rfl ?_
  refine zS_istore_n (zdec eX9_leastOnDay 6 rfl) rfl ?_
  have k := L_lod hp hd VD hd0 RD x0 x1 (zShl 1 (D 0 8) - 1).toNat 1 h2 (by omega) (by omega) f2 R
  rw [show mnI (loT p x) 1 = 2147483647 by rw [show (1 : Int) = 0 + 1 from rfl, mnI_s _ (by omega), mnI_0, show loT p x 0 = 2147483647 by unfold loT; rw [if_neg (by omega)]]; rfl] at k
  exact k
theorem c_idle {d : Nat} {h : zH} {D : Dk} {p : Pb} (hp : pb0 D = p) (hd : 6 ≤ d) (VD : DV D) (hd0 : 0 < D 0 0) (RD : DC h 15 D) : zMI d mX9_idle [zA 0] h (fun r h' => r = totalP p (fun _ => pDays p) ∧ Fr sQ h h') := by
  have pn : pNb p = D 0 8 := by rw [← hp]; rfl
  have pd : pDays p = D 0 1 := by rw [← hp]; rfl
  have V : PV p := by rw [← hp]; exact pb0_V VD hd0
  have nb := VD.nb
  have dy := VD.days
  refine zmet rfl rfl rfl ?_
  refine zS_aload_n (zdec eX9_idle 0 rfl) rfl rfl ?_
  refine zS_getref (i := 1) (zdec eX9_idle 1 rfl) kF_X9_19 ⟨by decide, rfl⟩ rfl rfl rfl rfl rfl ?_
  refine zvMV (M' := mX8_asTold) (As := []) (st := []) (zdec eX9_idle 2 rfl) kM_X9_130 kV_X8_asTold ⟨by decide, rfl⟩ rfl rfl rfl rfl rfl (by omega) (c_asTold (by omega) hd0 VD RD) (fun h2 ⟨R, cl2, g2⟩ => ?_)
  rw [hp] at R
  have f2 : Fr sQ h h2 := g2.mono (fun k j z => by omega)
  refine zS_aload_n (zdec eX9_idle 3 rfl) rfl rfl ?_
  refine zS_getref (i := 1) (zdec eX9_idle 4 rfl) kF_X9_19 ⟨by decide, rfl⟩ rfl rfl rfl rfl rfl ?_
  refine zvMV (M' := mX8_clearPlan) (As := []) (st := []) (zdec eX9_idle 5 rfl) kM_X9_431 kV_X8_clearPlan ⟨by decide, rfl⟩ rfl rfl rfl rfl rfl (by omega) (c_clearPlan (by omega) V R) (fun h3 ⟨S3, mi3, g3⟩ => ?_)
  have f3 : Fr sQ h h3 := f2.tr g3 (fun k j z => z) (fun k j z => by omega)
  have W3 := R.fr V g3 (fun k j z => by unfold wcP; omega)
  refine zS_aload_n (zdec eX9_idle 6 rfl) rfl rfl ?_
  refine zS_getref (i := 1) (zdec eX9_idle 7 rfl) kF_X9_19 ⟨by decide, rfl⟩ rfl rfl rfl rfl rfl ?_
  refine zvI (M' := mX8_whole) (As := []) (st := []) (zdec eX9_idle 8 rfl) kM_X9_214 kV_X8_whole ⟨by decide, rfl⟩ rfl rfl rfl rfl rfl (by omega) (c_whole (by omega) V W3 S3 (fun b => by show 0 ≤ pDays p; omega) (fun b => Int.le_refl _)) ?_
  exact zlMI (zdec eX9_idle 9 rfl) rfl ⟨rfl, f3⟩
theorem L_batch {d : Nat} {h : zH} {D : Dk} {p : Pb} (hp : pb0 D = p) (hd : 19 ≤ d) (VD : DV D) (hd0 : 0 < D 0 0) (RD : DC h 15 D) : ∀ (n : Nat) (e : Int) (h1 : zH), 0 ≤ e → e + n = D 0 1 → Fr sQ h h1 → zS mX9_batch (zr d) 17 [zA 0, zI (min (totalP p (fun _ => pDays p)) (mnI (loP p) e)), zI e] [] TT h1 (zAnI (fun r h' => r = min (totalP p (fun _ => pDays p)) (mnI (loP p) (D 0 1)) ∧ Fr sQ h h')) := by
  intro n
  induction n with
  | zero =>
    intro e h1 a1 a2 i1
    have RD1 : DC h1 15 D := RD.fr i1 (fun k j z => by omega)
    refine zS_iload_n (zdec eX9_batch 10 rfl) rfl ?_
    refine zS_aload_n (zdec eX9_batch 11 rfl) rfl rfl ?_
    refine zS_getref (i := 2) (zdec eX9_batch 12 rfl) kF_X9_27 ⟨by decide, rfl⟩ rfl rfl rfl rfl rfl ?_
    refine zS_getfieldE (x := 1) (v := (D 0 1)) (zdec eX9_batch 13 rfl) kF_X9_127 ⟨by decide, rfl⟩ rfl rfl rfl (RD1.s (by decide) (by decide)) ?_
    refine zS_icmp_ge (tgt := 44) (zdec eX9_batch 14 rfl) rfl (fun cz => ?_) (fun cz => absurd (by omega) cz)
    refine zS_iload_n (zdec eX9_batch 23 rfl) rfl ?_
    exact zlMI (zdec eX9_batch 24 rfl) rfl ⟨by rw [show e = D 0 1 by omega], i1⟩
  | succ n ih =>
    intro e h1 a1 a2 i1
    have RD1 : DC h1 15 D := RD.fr i1 (fun k j z => by omega)
    have dy := VD.days
    refine zS_iload_n (zdec eX9_batch 10 rfl) rfl ?_
    refine zS_aload_n (zdec eX9_batch 11 rfl) rfl rfl ?_
    refine zS_getref (i := 2) (zdec eX9_batch 12 rfl) kF_X9_27 ⟨by decide, rfl⟩ rfl rfl rfl rfl rfl ?_
    refine zS_getfieldE (x := 1) (v := (D 0 1)) (zdec eX9_batch 13 rfl) kF_X9_127 ⟨by decide, rfl⟩ rfl rfl rfl (RD1.s (by decide) (by decide)) ?_
    refine zS_icmp_ge (tgt := 44) (zdec eX9_batch 14 rfl) rfl (fun cz => absurd cz (by omega)) (fun cz => ?_)
    refine zS_iload_n (zdec eX9_batch 15 rfl) rfl ?_
    refine zS_aload_n (zdec eX9_batch 16 rfl) rfl rfl ?_
    refine zS_iload_n (zdec eX9_batch 17 rfl) rfl ?_
    refine zvMI (M' := mX9_leastOnDay) (As := [zI e]) (st := [zI (min (totalP p (fun _ => pDays p)) (mnI (loP p) e))]) (zdec eX9_batch 18 rfl) kM_X9_249 kV_X9_leastOnDay ⟨by decide, rfl⟩ rfl rfl rfl rfl rfl (by omega) (c_lod (x := e) hp (by omega) VD hd0 RD1 (by omega) (by omega)) (fun x5 h5 ⟨hx5, g5⟩ => ?_)
    have f5 : Fr sQ h h5 := i1.tr g5 (fun k j z => z) (fun k j z => z)
    refine zS_min (zdec eX9_batch 19 rfl) kM_X9_252 rfl (by omega) ?_
    refine zS_istore_n (zdec eX9_batch 20 rfl) rfl ?_
    refine zS_iinc (zdec eX9_batch 21 rfl) rfl rfl ⟨by omega, by omega⟩ ?_
    refine zS_goto (tgt := 17) (zdec eX9_batch 22 rfl) rfl ?_
    have k := ih (e + 1) h5 (by omega) (by omega) f5
    rw [mnI_s _ a1, ← Int.min_assoc, ← hx5] at k
    exact k
noncomputable def a_batch (D : Dk) : Int := if 0 < D 0 0 then min (totalP (pb0 D) (fun _ => pDays (pb0 D))) (mnI (loP (pb0 D)) (D 0 1)) else -2
theorem p_batch {d : Nat} {h : zH} {D : Dk} (hd : 20 ≤ d) (VD : DV D) (RD : DC h 15 D) : zMI d mX9_batch [zA 0] h (fun r h' => r = a_batch D ∧ Fr sQ h h') := by
  obtain ⟨p, hp⟩ : ∃ p, pb0 D = p := ⟨_, rfl⟩
  obtain ⟨q, hq⟩ : ∃ q, planP p = q := ⟨_, rfl⟩
  have pd : pDays p = D 0 1 := by rw [← hp]; rfl
  have pn : pNb p = D 0 8 := by rw [← hp]; rfl
  have dy := VD.days
  have nb := VD.nb
  have ns := VD.ns
  have nl := VD.nl
  have na := VD.na
  have vfl := VD.fl
  have vfe := VD.fee
  refine zmet rfl rfl rfl ?_
  refine zS_aload_n (zdec eX9_batch 0 rfl) rfl rfl ?_
  refine zvI (M' := mX9_isThere) (As := []) (st := []) (zdec eX9_batch 1 rfl) kM_X9_143 kV_X9_isThere ⟨by decide, rfl⟩ rfl rfl rfl rfl rfl (by omega) (c_isThere RD) ?_
  refine zS_if_ne (tgt := 10) (zdec eX9_batch 2 rfl) rfl (fun c1 => ?_) (fun c1 => ?_)
  · have z1 := d2i_n.mp c1
    refine zS_aload_n (zdec eX9_batch 5 rfl) rfl rfl ?_
    have hd0 : 0 < D 0 0 := by first | omega
    refine zvMI (M' := mX9_idle) (As := []) (st := []) (zdec eX9_batch 6 rfl) kM_X9_246 kV_X9_idle ⟨by decide, rfl⟩ rfl rfl rfl rfl rfl (by omega) (c_idle hp (by omega) VD hd0 RD) (fun x5 h5 ⟨hx5, f5⟩ => ?_)
    have V : PV p := by rw [← hp]; exact pb0_V VD hd0
    have tb := totB V (q := fun _ => pDays p) (fun c => ⟨by show 0 ≤ pDays p; omega, Int.le_refl _⟩)
    refine zS_istore_n (zdec eX9_batch 7 rfl) rfl ?_
    refine zS_iconst (zdec eX9_batch 8 rfl) rfl ?_
    refine zS_istore_n (zdec eX9_batch 9 rfl) rfl ?_
    have k := L_batch (d := d) hp (by omega) VD hd0 RD (D 0 1).toNat 0 h5 (by omega) (by omega) f5
    rw [mnI_0, Int.min_eq_left (by omega), ← hx5] at k
    unfold a_batch
    rw [hp, if_pos hd0]
    exact (hx5 ▸ k)
  · have z1 := d2i_0.mp c1
    refine zS_bipush (zdec eX9_batch 3 rfl) rfl rfl ?_
    exact zlMI (zdec eX9_batch 4 rfl) rfl ⟨by unfold a_batch; (try rw [hp]); (try rw [hq]); first | rw [if_pos (by omega)] | rw [if_neg (by omega)], Fr.rf⟩
theorem L_when {d : Nat} {h : zH} {D : Dk} {p : Pb} (hp : pb0 D = p) (hd : 19 ≤ d) (VD : DV D) (hd0 : 0 < D 0 0) (RD : DC h 15 D) : ∀ (n : Nat) (e : Int) (h1 : zH), 0 ≤ e → e + n = D 0 1 → Fr sQ h h1 → zS mX9_when (zr d) 21 [zA 0, zI ((slI (fun _ => true) (loP p) (totalP p (fun _ => pDays p) + 1) e).1), zI ((slI (fun _ => true) (loP p) (totalP p (fun _ => pDays p) + 1) e).2), zI e, zN] [] TT h1 (zAnI (fun r h' => r = (slI (fun _ => true) (loP p) (totalP p (fun _ => pDays p) + 1) (D 0 1)).1 ∧ Fr sQ h h')) := by
  intro n
  induction n with
  | zero =>
    intro e h1 a1 a2 i1
    have RD1 : DC h1 15 D := RD.fr i1 (fun k j z => by omega)
    refine zS_iload_n (zdec eX9_when 14 rfl) rfl ?_
    refine zS_aload_n (zdec eX9_when 15 rfl) rfl rfl ?_
    refine zS_getref (i := 2) (zdec eX9_when 16 rfl) kF_X9_27 ⟨by decide, rfl⟩ rfl rfl rfl rfl rfl ?_
    refine zS_getfieldE (x := 1) (v := (D 0 1)) (zdec eX9_when 17 rfl) kF_X9_127 ⟨by decide, rfl⟩ rfl rfl rfl (RD1.s (by decide) (by decide)) ?_
    refine zS_icmp_ge (tgt := 56) (zdec eX9_when 18 rfl) rfl (fun cz => ?_) (fun cz => absurd (by omega) cz)
    refine zS_iload_n (zdec eX9_when 32 rfl) rfl ?_
    exact zlMI (zdec eX9_when 33 rfl) rfl ⟨by rw [show e = D 0 1 by omega], i1⟩
  | succ n ih =>
    intro e h1 a1 a2 i1
    have RD1 : DC h1 15 D := RD.fr i1 (fun k j z => by omega)
    have dy := VD.days
    refine zS_iload_n (zdec eX9_when 14 rfl) rfl ?_
    refine zS_aload_n (zdec eX9_when 15 rfl) rfl rfl ?_
    refine zS_getref (i := 2) (zdec eX9_when 16 rfl) kF_X9_27 ⟨by decide, rfl⟩ rfl rfl rfl rfl rfl ?_
    refine zS_getfieldE (x := 1) (v := (D 0 1)) (zdec eX9_when 17 rfl) kF_X9_127 ⟨by decide, rfl⟩ rfl rfl rfl (RD1.s (by decide) (by decide)) ?_
    refine zS_icmp_ge (tgt := 56) (zdec eX9_when 18 rfl) rfl (fun cz => absurd cz (by omega)) (fun cz => ?_)
    refine zS_aload_n (zdec eX9_when 19 rfl) rfl rfl ?_
    refine zS_iload_n (zdec eX9_when 20 rfl) rfl ?_
    refine zvMI (M' := mX9_leastOnDay) (As := [zI e]) (st := []) (zdec eX9_when 21 rfl) kM_X9_249 kV_X9_leastOnDay ⟨by decide, rfl⟩ rfl rfl rfl rfl rfl (by omega) (c_lod (x := e) hp (by omega) VD hd0 RD1 (by omega) (by omega)) (fun x5 h5 ⟨hx5, g5⟩ => ?_)
    have f5 : Fr sQ h h5 := i1.tr g5 (fun k j z => z) (fun k j z => z)
    refine zS_istore (zdec eX9_when 22 rfl) rfl ?_
    refine zS_iload (zdec eX9_when 23 rfl) rfl ?_
    refine zS_iload_n (zdec eX9_when 24 rfl) rfl ?_
    refine zS_icmp_ge (tgt := 50) (zdec eX9_when 25 rfl) rfl (fun c1 => ?_) (fun c1 => ?_)
    · refine zS_iinc (zdec eX9_when 30 rfl) rfl rfl ⟨by omega, by omega⟩ ?_
      refine zS_goto (tgt := 21) (zdec eX9_when 31 rfl) rfl ?_
      refine zS_forget (i := 4) ?_
      have k := ih (e + 1) h5 (by omega) (by omega) f5
      rw [slI_s _ _ _ a1] at k
      rw [if_neg (fun w => by have := w.2; omega)] at k
      exact k
    · refine zS_iload (zdec eX9_when 26 rfl) rfl ?_
      refine zS_istore_n (zdec eX9_when 27 rfl) rfl ?_
      refine zS_iload_n (zdec eX9_when 28 rfl) rfl ?_
      refine zS_istore_n (zdec eX9_when 29 rfl) rfl ?_
      refine zS_iinc (zdec eX9_when 30 rfl) rfl rfl ⟨by omega, by omega⟩ ?_
      refine zS_goto (tgt := 21) (zdec eX9_when 31 rfl) rfl ?_
      refine zS_forget (i := 4) ?_
      have k := ih (e + 1) h5 (by omega) (by omega) f5
      rw [slI_s _ _ _ a1] at k
      rw [if_pos ⟨rfl, by omega⟩, ← hx5] at k
      exact k
noncomputable def a_when (D : Dk) : Int := if 0 < D 0 0 then (slI (fun _ => true) (loP (pb0 D)) (totalP (pb0 D) (fun _ => pDays (pb0 D)) + 1) (D 0 1)).1 else -2
theorem p_when {d : Nat} {h : zH} {D : Dk} (hd : 20 ≤ d) (VD : DV D) (RD : DC h 15 D) : zMI d mX9_when [zA 0] h (fun r h' => r = a_when D ∧ Fr sQ h h') := by
  obtain ⟨p, hp⟩ : ∃ p, pb0 D = p := ⟨_, rfl⟩
  obtain ⟨q, hq⟩ : ∃ q, planP p = q := ⟨_, rfl⟩
  have pd : pDays p = D 0 1 := by rw [← hp]; rfl
  have pn : pNb p = D 0 8 := by rw [← hp]; rfl
  have dy := VD.days
  have nb := VD.nb
  have ns := VD.ns
  have nl := VD.nl
  have na := VD.na
  have vfl := VD.fl
  have vfe := VD.fee
  refine zmet rfl rfl rfl ?_
  refine zS_aload_n (zdec eX9_when 0 rfl) rfl rfl ?_
  refine zvI (M' := mX9_isThere) (As := []) (st := []) (zdec eX9_when 1 rfl) kM_X9_143 kV_X9_isThere ⟨by decide, rfl⟩ rfl rfl rfl rfl rfl (by omega) (c_isThere RD) ?_
  refine zS_if_ne (tgt := 10) (zdec eX9_when 2 rfl) rfl (fun c1 => ?_) (fun c1 => ?_)
  · have z1 := d2i_n.mp c1
    refine zS_iconst (zdec eX9_when 5 rfl) rfl ?_
    refine zS_istore_n (zdec eX9_when 6 rfl) rfl ?_
    refine zS_aload_n (zdec eX9_when 7 rfl) rfl rfl ?_
    have hd0 : 0 < D 0 0 := by first | omega
    refine zvMI (M' := mX9_idle) (As := []) (st := []) (zdec eX9_when 8 rfl) kM_X9_246 kV_X9_idle ⟨by decide, rfl⟩ rfl rfl rfl rfl rfl (by omega) (c_idle hp (by omega) VD hd0 RD) (fun x5 h5 ⟨hx5, f5⟩ => ?_)
    have V : PV p := by rw [← hp]; exact pb0_V VD hd0
    have tb := totB V (q := fun _ => pDays p) (fun c => ⟨by show 0 ≤ pDays p; omega, Int.le_refl _⟩)
    refine zS_iconst (zdec eX9_when 9 rfl) rfl ?_
    refine zS_iadd (zdec eX9_when 10 rfl) ⟨by omega, by omega⟩ ?_
    refine zS_istore_n (zdec eX9_when 11 rfl) rfl ?_
    refine zS_iconst (zdec eX9_when 12 rfl) rfl ?_
    refine zS_istore_n (zdec eX9_when 13 rfl) rfl ?_
    have k := L_when (d := d) hp (by omega) VD hd0 RD (D 0 1).toNat 0 h5 (by omega) (by omega) f5
    unfold a_when
    rw [hp, if_pos hd0]
    rw [hx5]
    exact k
  · have z1 := d2i_0.mp c1
    refine zS_bipush (zdec eX9_when 3 rfl) rfl rfl ?_
    exact zlMI (zdec eX9_when 4 rfl) rfl ⟨by unfold a_when; (try rw [hp]); (try rw [hq]); first | rw [if_pos (by omega)] | rw [if_neg (by omega)], Fr.rf⟩

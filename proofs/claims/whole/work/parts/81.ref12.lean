theorem WR.cash' {h : zH} {p : Pb} (R : WR h p) (v : Int) : WR (zset h 108 24 v) (wS p 5 v) := by
  obtain ⟨r1, r2, r3, r4, r5, r6, r7, r8, r9, r10, r11, r12⟩ := R
  exact ⟨(zset_n (by omega)).trans r1, (zset_n (by omega)).trans r2, (zset_n (by omega)).trans r3, (zset_n (by omega)).trans r4, (zset_n (by omega)).trans r5, zset_s _ _ _ _, (zset_n (by omega)).trans r7, fun b b0 b1 => by rw [zset_n (by omega), zset_n (by omega), zset_n (by omega), zset_n (by omega), zset_n (by omega), zset_n (by omega), zset_n (by omega)]; exact r8 b b0 b1, fun i i0 i1 => by rw [zset_n (by omega), zset_n (by omega)]; exact r9 i i0 i1, fun d d0 d1 => by rw [zset_n (by omega)]; exact r10 d d0 d1, fun b b0 b1 => by rw [zset_n (by omega)]; exact r11 b b0 b1, fun i i0 i1 => by rw [zset_n (by omega)]; exact r12 i i0 i1⟩
theorem WR.fl' {h : zH} {p : Pb} (R : WR h p) (v : Int) : WR (zset h 108 25 v) (wS p 3 v) := by
  obtain ⟨r1, r2, r3, r4, r5, r6, r7, r8, r9, r10, r11, r12⟩ := R
  exact ⟨(zset_n (by omega)).trans r1, (zset_n (by omega)).trans r2, (zset_n (by omega)).trans r3, zset_s _ _ _ _, (zset_n (by omega)).trans r5, (zset_n (by omega)).trans r6, (zset_n (by omega)).trans r7, fun b b0 b1 => by rw [zset_n (by omega), zset_n (by omega), zset_n (by omega), zset_n (by omega), zset_n (by omega), zset_n (by omega), zset_n (by omega)]; exact r8 b b0 b1, fun i i0 i1 => by rw [zset_n (by omega), zset_n (by omega)]; exact r9 i i0 i1, fun d d0 d1 => by rw [zset_n (by omega)]; exact r10 d d0 d1, fun b b0 b1 => by rw [zset_n (by omega)]; exact r11 b b0 b1, fun i i0 i1 => by rw [zset_n (by omega)]; exact r12 i i0 i1⟩
theorem WR.cl' {h : zH} {p : Pb} (R : WR h p) {v : Int} {f : Int → Bool} (hv : ∀ d, 0 ≤ d → d < 7 → bitB v d = f d) : WR (zset h 108 27 v) (wT p 0 f) := by
  obtain ⟨r1, r2, r3, r4, r5, r6, r7, r8, r9, r10, r11, r12⟩ := R
  exact ⟨(zset_n (by omega)).trans r1, (zset_n (by omega)).trans r2, (zset_n (by omega)).trans r3, (zset_n (by omega)).trans r4, (zset_n (by omega)).trans r5, (zset_n (by omega)).trans r6, (zset_n (by omega)).trans r7, fun b b0 b1 => by rw [zset_n (by omega), zset_n (by omega), zset_n (by omega), zset_n (by omega), zset_n (by omega), zset_n (by omega), zset_n (by omega)]; exact r8 b b0 b1, fun i i0 i1 => by rw [zset_n (by omega), zset_n (by omega)]; exact r9 i i0 i1, fun d d0 d1 => by rw [zset_s]; exact hv d d0 d1, fun b b0 b1 => by rw [zset_n (by omega)]; exact r11 b b0 b1, fun i i0 i1 => by rw [zset_n (by omega)]; exact r12 i i0 i1⟩
theorem WR.in'' {h : zH} {p : Pb} (R : WR h p) {v : Int} {f : Int → Bool} (hv : ∀ b, 0 ≤ b → b < pNb p → bitB v b = !f b) : WR (zset h 108 26 v) (wT p 1 f) := by
  obtain ⟨r1, r2, r3, r4, r5, r6, r7, r8, r9, r10, r11, r12⟩ := R
  exact ⟨(zset_n (by omega)).trans r1, (zset_n (by omega)).trans r2, (zset_n (by omega)).trans r3, (zset_n (by omega)).trans r4, (zset_n (by omega)).trans r5, (zset_n (by omega)).trans r6, (zset_n (by omega)).trans r7, fun b b0 b1 => by rw [zset_n (by omega), zset_n (by omega), zset_n (by omega), zset_n (by omega), zset_n (by omega), zset_n (by omega), zset_n (by omega)]; exact r8 b b0 b1, fun i i0 i1 => by rw [zset_n (by omega), zset_n (by omega)]; exact r9 i i0 i1, fun d d0 d1 => by rw [zset_n (by omega)]; exact r10 d d0 d1, fun b b0 b1 => by rw [zset_s]; exact hv b b0 b1, fun i i0 i1 => by rw [zset_n (by omega)]; exact r12 i i0 i1⟩
theorem WR.cm' {h : zH} {p : Pb} (R : WR h p) {v : Int} {f : Int → Bool} (hv : ∀ i, 0 ≤ i → i < pNl p → bitB v i = !f i) : WR (zset h 108 28 v) (wT p 2 f) := by
  obtain ⟨r1, r2, r3, r4, r5, r6, r7, r8, r9, r10, r11, r12⟩ := R
  exact ⟨(zset_n (by omega)).trans r1, (zset_n (by omega)).trans r2, (zset_n (by omega)).trans r3, (zset_n (by omega)).trans r4, (zset_n (by omega)).trans r5, (zset_n (by omega)).trans r6, (zset_n (by omega)).trans r7, fun b b0 b1 => by rw [zset_n (by omega), zset_n (by omega), zset_n (by omega), zset_n (by omega), zset_n (by omega), zset_n (by omega), zset_n (by omega)]; exact r8 b b0 b1, fun i i0 i1 => by rw [zset_n (by omega), zset_n (by omega)]; exact r9 i i0 i1, fun d d0 d1 => by rw [zset_n (by omega)]; exact r10 d d0 d1, fun b b0 b1 => by rw [zset_n (by omega)]; exact r11 b b0 b1, fun i i0 i1 => by rw [zset_s]; exact hv i i0 i1⟩
theorem WR.off' {h h' : zH} {p : Pb} (R : WR h p) {f : Int → Int} (e : ∀ k j, k ≠ 121 → h' k j = h k j) (hf : ∀ b, 0 ≤ b → b < pNb p → h' 121 b = f b) : WR h' (wO p f) := by
  obtain ⟨r1, r2, r3, r4, r5, r6, r7, r8, r9, r10, r11, r12⟩ := R
  exact ⟨(e _ _ (by decide)).trans r1, (e _ _ (by decide)).trans r2, (e _ _ (by decide)).trans r3, (e _ _ (by decide)).trans r4, (e _ _ (by decide)).trans r5, (e _ _ (by decide)).trans r6, (e _ _ (by decide)).trans r7, fun b b0 b1 => by
    have r := r8 b b0 b1
    exact ⟨(e _ _ (by decide)).trans r.1, hf b b0 b1, (e _ _ (by decide)).trans r.2.2.1, (e _ _ (by decide)).trans r.2.2.2.1, (e _ _ (by decide)).trans r.2.2.2.2.1, (e _ _ (by decide)).trans r.2.2.2.2.2.1, (e _ _ (by decide)).trans r.2.2.2.2.2.2⟩, fun i i0 i1 => by rw [e _ _ (by decide), e _ _ (by decide)]; exact r9 i i0 i1, fun d d0 d1 => by rw [e _ _ (by decide)]; exact r10 d d0 d1, fun b b0 b1 => by rw [e _ _ (by decide)]; exact r11 b b0 b1, fun i i0 i1 => by rw [e _ _ (by decide)]; exact r12 i i0 i1⟩
def LnR (h : zH) (p : Pb) : Prop := WR h p ∧ PlR h p (planP p)
theorem shl_bit {b c : Int} (b0 : 0 ≤ b) (b1 : b < 5) (c0 : 0 ≤ c) (c1 : c < 5) : bitB (zShl 1 b) c = decide (c = b) := by
  obtain ⟨b, rfl⟩ := fin_of (n := 5) b0 b1
  obtain ⟨c, rfl⟩ := fin_of (n := 5) c0 c1
  exact (by decide +kernel : ∀ b c : Fin 5, bitB (zShl 1 (b.val : Int)) (c.val : Int) = decide ((c.val : Int) = (b.val : Int))) b c
theorem slI_lim {c : Int → Bool} {f : Int → Int} {L L' : Int} (hf : ∀ j, f j < L ∧ f j < L') : ∀ k : Int, 0 ≤ k → (slI c f L k).1 = (slI c f L' k).1 ∧ ((slI c f L k).1 = -1 → (slI c f L k).2 = L ∧ (slI c f L' k).2 = L') ∧ ((slI c f L k).1 ≠ -1 → (slI c f L k).2 = (slI c f L' k).2) := by
  refine up_ind ⟨rfl, fun _ => ⟨rfl, rfl⟩, fun z => absurd rfl z⟩ (fun j hj ih => ?_)
  obtain ⟨i1, i2, i3⟩ := ih
  rw [slI_s _ _ _ hj, slI_s _ _ _ hj]
  have e : (f j < (slI c f L j).2) ↔ (f j < (slI c f L' j).2) := by
    by_cases w : (slI c f L j).1 = -1
    · have := i2 w; have := hf j; omega
    · rw [i3 w]
  by_cases g : c j = true ∧ f j < (slI c f L j).2
  · rw [if_pos g, if_pos ⟨g.1, e.mp g.2⟩]
    exact ⟨rfl, fun z => by have : j = -1 := z; omega, fun _ => rfl⟩
  · rw [if_neg g, if_neg (fun y => g ⟨y.1, e.mpr y.2⟩)]
    exact ⟨i1, i2, i3⟩
theorem opn_b {p : Pb} (V : PV p) (q : Int → Int) : 0 ≤ openP p q ∧ openP p q < 32 := bits_32 V (pDays p)
theorem r_totalBy {d : Nat} {h : zH} {p : Pb} (hd : 9 ≤ d) (V : PV p) (R : WR h p) : zMI d mX10_totalBy [zA 108] h (fun r h' => r = totL p ∧ LnR h' p ∧ Fr (fun k j => (k = 108 ∧ j = 34) ∨ (123 ≤ k ∧ k ≤ 125)) h h') := by
  refine zmet rfl rfl rfl ?_
  refine zS_aload_n (zdec eX10_totalBy 0 rfl) rfl rfl ?_
  refine zvMV (M' := mX10_runs) (As := []) (st := []) (zdec eX10_totalBy 1 rfl) kM_X10_317 kV_X10_runs ⟨by decide, rfl⟩ rfl rfl rfl rfl rfl (by omega) (r_runs (by omega) V R) (fun h3 ⟨S3, O3, g3⟩ => ?_)
  have R3 : WR h3 p := R.fr g3 (fun k j z => by unfold wrP; omega)
  refine zS_aload_n (zdec eX10_totalBy 2 rfl) rfl rfl ?_
  refine zvI (M' := mX10_totalNow) (As := []) (st := []) (zdec eX10_totalBy 3 rfl) kM_X10_358 kV_X10_totalNow ⟨by decide, rfl⟩ rfl rfl rfl rfl rfl (by omega) (show zPI (d - 1) mX10_totalNow [zA 108] h3 (totL p) from r_totalNow (by omega) V R3 S3 (fun b => (planP_rng V b).1) (fun b => (planP_rng V b).2)) ?_
  exact zlMI (zdec eX10_totalBy 4 rfl) rfl ⟨rfl, ⟨R3, S3⟩, g3⟩
theorem r_totalByLaw {d : Nat} {h : zH} {D : Dk} {p : Pb} {x : Int} (hp : pb0 D = p) (hd : 20 ≤ d) (VD : DV D) (hd0 : 0 < D 0 0) (RD : DR h 0 D) (x0 : 0 ≤ x) (x1 : x ≤ 3) : zMI d mX10_totalByLaw [zA 108, zI x] h (fun r h' => r = totL (wS p 4 x) ∧ LnR h' (wS p 4 x) ∧ Fr sQR h h') := by
  have V : PV p := by rw [← hp]; exact pb0_V VD hd0
  have V4 : PV (wS p 4 x) := V.law' x0 x1
  refine zmet rfl rfl rfl ?_
  refine zS_aload_n (zdec eX10_totalByLaw 0 rfl) rfl rfl ?_
  refine zvMV (M' := mX10_lays) (As := []) (st := []) (zdec eX10_totalByLaw 1 rfl) kM_X10_314 kV_X10_lays ⟨by decide, rfl⟩ rfl rfl rfl rfl rfl (by omega) (r_lays (by omega) VD hd0 RD) (fun h2 ⟨R, cl2, g2⟩ => ?_)
  rw [hp] at R
  refine zS_aload_n (zdec eX10_totalByLaw 2 rfl) rfl rfl ?_
  refine zS_iload_n (zdec eX10_totalByLaw 3 rfl) rfl ?_
  refine zS_putfield (x := 23) (zdec eX10_totalByLaw 4 rfl) kF_X10_246 (Or.inl kf10_23) ⟨by decide, rfl⟩ rfl rfl rfl (Or.inl (fun q => by cases q)) ?_
  have ff : Fr sQR h (zset h2 108 23 x) := (g2.mono (fun k j z => by omega)).set (by omega)
  refine zS_aload_n (zdec eX10_totalByLaw 5 rfl) rfl rfl ?_
  refine zvMI (M' := mX10_totalBy) (As := []) (st := []) (zdec eX10_totalByLaw 6 rfl) kM_X10_406 kV_X10_totalBy ⟨by decide, rfl⟩ rfl rfl rfl rfl rfl (by omega) (r_totalBy (p := (wS p 4 x)) (by omega) V4 (R.law' x)) (fun x3 h3 ⟨hx3, L3, g3⟩ => ?_)
  have f3 : Fr sQR h h3 := ff.tr g3 (fun k j z => z) (fun k j z => by omega)
  exact zlMI (zdec eX10_totalByLaw 7 rfl) rfl ⟨hx3, L3, f3⟩
theorem q_by {d : Nat} {h : zH} {D : Dk} {x : Int} (hd : 200 ≤ d) (VD : DV D) (RD : DR h 0 D) : zMI d mX10_by [zA 108, zI x] h (fun r h' => r = a_by D x ∧ Fr sQR h h') := by
  obtain ⟨p, hp⟩ : ∃ p, pb0 D = p := ⟨_, rfl⟩
  obtain ⟨q, hq⟩ : ∃ q, planP p = q := ⟨_, rfl⟩
  have pd : pDays p = D 0 1 := by rw [← hp]; rfl
  have pn : pNb p = D 0 8 := by rw [← hp]; rfl
  have dy := VD.days
  have nb := VD.nb
  have ns := VD.ns
  have nl := VD.nl
  have na := VD.na
  have vfl := VD.fl
  have vfe := VD.fee
  have hin : ∀ b, 0 ≤ b → b < pNb p → pIn p b = true := fun b _ _ => by rw [← hp]; rfl
  refine zmet rfl rfl rfl ?_
  refine zS_aload_n (zdec eX10_by 0 rfl) rfl rfl ?_
  refine zS_iconst (zdec eX10_by 1 rfl) rfl ?_
  refine zS_putfield (x := 0) (zdec eX10_by 2 rfl) kF_X10_71 (Or.inl kf10_0) ⟨by decide, rfl⟩ rfl rfl rfl (Or.inl (fun q => by cases q)) ?_
  obtain ⟨h0, E0⟩ : ∃ x, x = zset h 108 0 0 := ⟨_, rfl⟩
  rw [show zset h 108 0 (0 : Int) = h0 from E0.symm]
  have f0 : Fr sQR h h0 := by rw [E0]; exact Fr.rf.set (by omega)
  have RD0 : DR h0 0 D := RD.fr f0 (fun k j z => by omega)
  refine zS_aload_n (zdec eX10_by 3 rfl) rfl rfl ?_
  refine zvI (M' := mX10_isDesk) (As := []) (st := []) (zdec eX10_by 4 rfl) kM_X10_332 kV_X10_isDesk ⟨by decide, rfl⟩ rfl rfl rfl rfl rfl (by omega) (d_isDesk VD RD0) ?_
  refine zS_if_eq (tgt := 32) (zdec eX10_by 5 rfl) rfl (fun c1 => ?_) (fun c1 => ?_)
  · have z1 := d2i_0.mp c1
    refine zS_bipush (zdec eX10_by 16 rfl) rfl rfl ?_
    exact zlMI (zdec eX10_by 17 rfl) rfl ⟨by unfold a_by; rw [if_neg (by omega)], f0⟩
  · have z1 := d2i_n.mp c1
    refine zS_iload_n (zdec eX10_by 6 rfl) rfl ?_
    refine zS_i2l (zdec eX10_by 7 rfl) ?_
    refine zS_lconst (zdec eX10_by 8 rfl) ?_
    refine zS_ldc2_w (zdec eX10_by 9 rfl) kj_X10_74 rfl ?_
    refine zsI (M' := mX10_in) (As := [zJ x, zJ 0, zJ 3]) (st := []) (zdec eX10_by 10 rfl) kM_X10_76 kS_X10_in rfl rfl rfl (by omega) r_in ?_
    refine zS_if_eq (tgt := 32) (zdec eX10_by 11 rfl) rfl (fun c2 => ?_) (fun c2 => ?_)
    · have z2 := d2i_0.mp c2
      refine zS_bipush (zdec eX10_by 16 rfl) rfl rfl ?_
      exact zlMI (zdec eX10_by 17 rfl) rfl ⟨by unfold a_by; rw [if_neg (by omega)], f0⟩
    · have z2 := d2i_n.mp c2
      refine zS_aload_n (zdec eX10_by 12 rfl) rfl rfl ?_
      refine zS_iload_n (zdec eX10_by 13 rfl) rfl ?_
      have hd0 : 0 < D 0 0 := by first | omega
      refine zvMI (M' := mX10_totalByLaw) (As := [zI x]) (st := []) (zdec eX10_by 14 rfl) kM_X10_431 kV_X10_totalByLaw ⟨by decide, rfl⟩ rfl rfl rfl rfl rfl (by omega) (r_totalByLaw hp (by omega) VD hd0 RD0 (by omega) (by omega)) (fun x3 h3 ⟨hx3, L3, g3⟩ => ?_)
      have f3 : Fr sQR h h3 := f0.tr g3 (fun k j z => z) (fun k j z => z)
      refine zS_goto (tgt := 34) (zdec eX10_by 15 rfl) rfl ?_
      exact zlMI (zdec eX10_by 17 rfl) rfl ⟨by unfold a_by; rw [hp, if_pos (by omega)]; exact hx3, f3⟩
theorem K_law {d : Nat} {h : zH} {D : Dk} {p : Pb} (hp : pb0 D = p) (hd : 100 ≤ d) (VD : DV D) (hd0 : 0 < D 0 0) (RD : DR h 0 D) : ∀ (n : Nat) (e : Int) (h1 : zH), 1 ≤ e → e + n = 4 → Fr sQR h h1 → zS mX10_law (zr d) 19 [zA 108, zI (amI (fun l => totL (wS p 4 l)) e), zI e] [] TT h1 (zAnI (fun r h' => r = amI (fun l => totL (wS p 4 l)) 4 ∧ Fr sQR h h')) := by
  intro n
  induction n with
  | zero =>
    intro e h1 a1 a2 i1
    have RD1 : DR h1 0 D := RD.fr i1 (fun k j z => by omega)
    refine zS_iload_n (zdec eX10_law 12 rfl) rfl ?_
    refine zS_iconst (zdec eX10_law 13 rfl) rfl ?_
    refine zS_icmp_ge (tgt := 45) (zdec eX10_law 14 rfl) rfl (fun cz => ?_) (fun cz => absurd (by omega) cz)
    refine zS_iload_n (zdec eX10_law 26 rfl) rfl ?_
    exact zlMI (zdec eX10_law 27 rfl) rfl ⟨by rw [show e = 4 by omega], i1⟩
  | succ n ih =>
    intro e h1 a1 a2 i1
    have RD1 : DR h1 0 D := RD.fr i1 (fun k j z => by omega)
    have ar := amI_rng (f := (fun l => totL (wS p 4 l))) (k := e) a1
    refine zS_iload_n (zdec eX10_law 12 rfl) rfl ?_
    refine zS_iconst (zdec eX10_law 13 rfl) rfl ?_
    refine zS_icmp_ge (tgt := 45) (zdec eX10_law 14 rfl) rfl (fun cz => absurd cz (by omega)) (fun cz => ?_)
    refine zS_aload_n (zdec eX10_law 15 rfl) rfl rfl ?_
    refine zS_iload_n (zdec eX10_law 16 rfl) rfl ?_
    refine zvMI (M' := mX10_totalByLaw) (As := [zI e]) (st := []) (zdec eX10_law 17 rfl) kM_X10_431 kV_X10_totalByLaw ⟨by decide, rfl⟩ rfl rfl rfl rfl rfl (by omega) (r_totalByLaw hp (by omega) VD hd0 RD1 (by omega) (by omega)) (fun x3 h3 ⟨hx3, L3, g3⟩ => ?_)
    have f3 : Fr sQR h h3 := i1.tr g3 (fun k j z => z) (fun k j z => z)
    have RD3 : DR h3 0 D := RD.fr f3 (fun k j z => by omega)
    refine zS_aload_n (zdec eX10_law 18 rfl) rfl rfl ?_
    refine zS_iload_n (zdec eX10_law 19 rfl) rfl ?_
    refine zvMI (M' := mX10_totalByLaw) (As := [zI (amI (fun l => totL (wS p 4 l)) e)]) (st := [zI x3]) (zdec eX10_law 20 rfl) kM_X10_431 kV_X10_totalByLaw ⟨by decide, rfl⟩ rfl rfl rfl rfl rfl (by omega) (r_totalByLaw hp (by omega) VD hd0 RD3 (by omega) (by omega)) (fun x5 h5 ⟨hx5, L5, g5⟩ => ?_)
    have f5 : Fr sQR h h5 := f3.tr g5 (fun k j z => z) (fun k j z => z)
    have RD5 : DR h5 0 D := RD.fr f5 (fun k j z => by omega)
    refine zS_icmp_ge (tgt := 39) (zdec eX10_law 21 rfl) rfl (fun c1 => ?_) (fun c1 => ?_)
    · refine zS_iinc (zdec eX10_law 24 rfl) rfl rfl ⟨by omega, by omega⟩ ?_
      refine zS_goto (tgt := 19) (zdec eX10_law 25 rfl) rfl ?_
      have k := ih (e + 1) h5 (by omega) (by omega) f5
      rw [amI_s _ a1, ← hx3, ← hx5, if_neg (by omega)] at k
      exact k
    · refine zS_iload_n (zdec eX10_law 22 rfl) rfl ?_
      refine zS_istore_n (zdec eX10_law 23 rfl) rfl ?_
      refine zS_iinc (zdec eX10_law 24 rfl) rfl rfl ⟨by omega, by omega⟩ ?_
      refine zS_goto (tgt := 19) (zdec eX10_law 25 rfl) rfl ?_
      have k := ih (e + 1) h5 (by omega) (by omega) f5
      rw [amI_s _ a1, ← hx3, ← hx5, if_pos (by omega)] at k
      exact k
theorem q_law {d : Nat} {h : zH} {D : Dk} (hd : 200 ≤ d) (VD : DV D) (RD : DR h 0 D) : zMI d mX10_law [zA 108] h (fun r h' => r = a_law D ∧ Fr sQR h h') := by
  obtain ⟨p, hp⟩ : ∃ p, pb0 D = p := ⟨_, rfl⟩
  obtain ⟨q, hq⟩ : ∃ q, planP p = q := ⟨_, rfl⟩
  have pd : pDays p = D 0 1 := by rw [← hp]; rfl
  have pn : pNb p = D 0 8 := by rw [← hp]; rfl
  have dy := VD.days
  have nb := VD.nb
  have ns := VD.ns
  have nl := VD.nl
  have na := VD.na
  have vfl := VD.fl
  have vfe := VD.fee
  have hin : ∀ b, 0 ≤ b → b < pNb p → pIn p b = true := fun b _ _ => by rw [← hp]; rfl
  refine zmet rfl rfl rfl ?_
  refine zS_aload_n (zdec eX10_law 0 rfl) rfl rfl ?_
  refine zS_iconst (zdec eX10_law 1 rfl) rfl ?_
  refine zS_putfield (x := 0) (zdec eX10_law 2 rfl) kF_X10_71 (Or.inl kf10_0) ⟨by decide, rfl⟩ rfl rfl rfl (Or.inl (fun q => by cases q)) ?_
  obtain ⟨h0, E0⟩ : ∃ x, x = zset h 108 0 0 := ⟨_, rfl⟩
  rw [show zset h 108 0 (0 : Int) = h0 from E0.symm]
  have f0 : Fr sQR h h0 := by rw [E0]; exact Fr.rf.set (by omega)
  have RD0 : DR h0 0 D := RD.fr f0 (fun k j z => by omega)
  refine zS_aload_n (zdec eX10_law 3 rfl) rfl rfl ?_
  refine zvI (M' := mX10_isDesk) (As := []) (st := []) (zdec eX10_law 4 rfl) kM_X10_332 kV_X10_isDesk ⟨by decide, rfl⟩ rfl rfl rfl rfl rfl (by omega) (d_isDesk VD RD0) ?_
  refine zS_if_ne (tgt := 15) (zdec eX10_law 5 rfl) rfl (fun c1 => ?_) (fun c1 => ?_)
  · have z1 := d2i_n.mp c1
    refine zS_iconst (zdec eX10_law 8 rfl) rfl ?_
    refine zS_istore_n (zdec eX10_law 9 rfl) rfl ?_
    refine zS_iconst (zdec eX10_law 10 rfl) rfl ?_
    refine zS_istore_n (zdec eX10_law 11 rfl) rfl ?_
    have hd0 : 0 < D 0 0 := by first | omega
    unfold a_law
    rw [hp, if_pos hd0]
    exact K_law hp (by omega) VD hd0 RD 3 1 h0 (by omega) (by omega) f0
  · have z1 := d2i_0.mp c1
    refine zS_bipush (zdec eX10_law 6 rfl) rfl rfl ?_
    exact zlMI (zdec eX10_law 7 rfl) rfl ⟨by unfold a_law; (try rw [hp]); (try rw [hq]); first | rw [if_pos (by omega)] | rw [if_neg (by omega)], f0⟩
theorem K_blame {d : Nat} {h : zH} {D : Dk} {p : Pb} {q : Int → Int} (hp : pb0 D = p) (hq : planP p = q) (hd : 100 ≤ d) (VD : DV D) (hd0 : 0 < D 0 0) (RD : DR h 0 D) : ∀ (n : Nat) (e : Int) (h1 : zH), 0 ≤ e → e + n = D 0 8 → Fr sQR h h1 → zS mX10_blame (zr d) 23 [zA 108, zI ((slI (fun b => decide (totL (noX D b) < totalP p q - priceP p b (q b))) (fun b => totL (noX D b)) 100000000 e).1), zI ((slI (fun b => decide (totL (noX D b) < totalP p q - priceP p b (q b))) (fun b => totL (noX D b)) 100000000 e).2), zI e, zN, zN] [] TT h1 (zAnI (fun r h' => r = (slI (fun b => decide (totL (noX D b) < totalP p q - priceP p b (q b))) (fun b => totL (noX D b)) 100000000 (D 0 8)).1 ∧ Fr sQR h h')) := by
  intro n
  induction n with
  | zero =>
    intro e h1 a1 a2 i1
    have RD1 : DR h1 0 D := RD.fr i1 (fun k j z => by omega)
    refine zS_iload_n (zdec eX10_blame 14 rfl) rfl ?_
    refine zS_aload_n (zdec eX10_blame 15 rfl) rfl rfl ?_
    refine zvI (M' := mX10_bills) (As := []) (st := [zI e]) (zdec eX10_blame 16 rfl) kM_X10_236 kV_X10_bills ⟨by decide, rfl⟩ rfl rfl rfl rfl rfl (by omega) (d_bills RD1) ?_
    refine zS_icmp_ge (tgt := 93) (zdec eX10_blame 17 rfl) rfl (fun cz => ?_) (fun cz => absurd (by omega) cz)
    refine zS_iload_n (zdec eX10_blame 52 rfl) rfl ?_
    exact zlMI (zdec eX10_blame 53 rfl) rfl ⟨by rw [show e = D 0 8 by omega], i1⟩
  | succ n ih =>
    intro e h1 a1 a2 i1
    have RD1 : DR h1 0 D := RD.fr i1 (fun k j z => by omega)
    have nb := VD.nb
    have pn : pNb p = D 0 8 := by rw [← hp]; rfl
    refine zS_iload_n (zdec eX10_blame 14 rfl) rfl ?_
    refine zS_aload_n (zdec eX10_blame 15 rfl) rfl rfl ?_
    refine zvI (M' := mX10_bills) (As := []) (st := [zI e]) (zdec eX10_blame 16 rfl) kM_X10_236 kV_X10_bills ⟨by decide, rfl⟩ rfl rfl rfl rfl rfl (by omega) (d_bills RD1) ?_
    refine zS_icmp_ge (tgt := 93) (zdec eX10_blame 17 rfl) rfl (fun cz => absurd cz (by omega)) (fun cz => ?_)
    refine zS_aload_n (zdec eX10_blame 18 rfl) rfl rfl ?_
    refine zvMV (M' := mX10_laysNow) (As := []) (st := []) (zdec eX10_blame 19 rfl) kM_X10_342 kV_X10_laysNow ⟨by decide, rfl⟩ rfl rfl rfl rfl rfl (by omega) (r_laysNow hp hq (by omega) VD hd0 RD1) (fun h2 ⟨⟨V, R, S, O, CA⟩, ⟨q0, q1⟩, g2, RD2⟩ => ?_)
    have f2 : Fr sQR h h2 := i1.tr g2 (fun k j z => z) (fun k j z => z)
    have tb := totB V (q := q) (fun c => ⟨q0 c, q1 c⟩)
    have qe0 := q0 e
    have qe1 := q1 e
    have dy := V.days
    have pr := priceB V a1 (show e < pNb p by omega) (d := q e) (by omega)
    refine zS_aload_n (zdec eX10_blame 20 rfl) rfl rfl ?_
    refine zvI (M' := mX10_totalNow) (As := []) (st := []) (zdec eX10_blame 21 rfl) kM_X10_358 kV_X10_totalNow ⟨by decide, rfl⟩ rfl rfl rfl rfl rfl (by omega) (r_totalNow (by omega) V R S q0 q1) ?_
    refine zS_aload_n (zdec eX10_blame 22 rfl) rfl rfl ?_
    refine zS_iload_n (zdec eX10_blame 23 rfl) rfl ?_
    refine zS_aload_n (zdec eX10_blame 24 rfl) rfl rfl ?_
    refine zS_getref (i := 69) (zdec eX10_blame 25 rfl) kF_X10_59 ⟨by decide, rfl⟩ rfl rfl rfl rfl rfl ?_
    refine zS_iload_n (zdec eX10_blame 26 rfl) rfl ?_
    refine zS_ialoadE (v := (q e)) (zdec eX10_blame 27 rfl) ⟨by decide, rfl⟩ (by omega) (by omega) (S e (by omega) (by omega)) ?_
    refine zvI (M' := mX10_costOf) (As := [zI e, zI (q e)]) (st := [zI (totalP p q)]) (zdec eX10_blame 28 rfl) kM_X10_283 kV_X10_costOf ⟨by decide, rfl⟩ rfl rfl rfl rfl rfl (by omega) (r_costOf (by omega) V R (by omega) (by omega) (by omega) (by omega)) ?_
    refine zS_isub (zdec eX10_blame 29 rfl) ⟨by omega, by omega⟩ ?_
    refine zS_istore (zdec eX10_blame 30 rfl) rfl ?_
    refine zS_aload_n (zdec eX10_blame 31 rfl) rfl rfl ?_
    refine zS_iconst (zdec eX10_blame 32 rfl) rfl ?_
    refine zS_iload_n (zdec eX10_blame 33 rfl) rfl ?_
    refine zS_ishl (zdec eX10_blame 34 rfl) ?_
    refine zS_putfield (x := 26) (zdec eX10_blame 35 rfl) kF_X10_255 (Or.inl kf10_26) ⟨by decide, rfl⟩ rfl rfl rfl (Or.inl (fun q => by cases q)) ?_
    have R4 : WR (zset h2 108 26 (zShl 1 e)) (noX D e) := by
        have := R.in'' (v := zShl 1 e) (f := fun c => decide (c ≠ e)) (fun c c0 c1 => by rw [shl_bit a1 (by omega) c0 (by omega)]; by_cases w : c = e <;> simp [w])
        rw [← hp] at this
        exact this
    have V4 : PV (noX D e) := (pb0_V VD hd0).set' 1 _
    have ff : Fr sQR h (zset h2 108 26 (zShl 1 e)) := f2.set (by omega)
    refine zS_aload_n (zdec eX10_blame 36 rfl) rfl rfl ?_
    refine zvMI (M' := mX10_totalBy) (As := []) (st := []) (zdec eX10_blame 37 rfl) kM_X10_406 kV_X10_totalBy ⟨by decide, rfl⟩ rfl rfl rfl rfl rfl (by omega) (r_totalBy (p := (noX D e)) (by omega) V4 R4) (fun x3 h3 ⟨hx3, L3, g3⟩ => ?_)
    have f3 : Fr sQR h h3 := ff.tr g3 (fun k j z => z) (fun k j z => by omega)
    refine zS_istore (zdec eX10_blame 38 rfl) rfl ?_
    refine zS_iload (zdec eX10_blame 39 rfl) rfl ?_
    refine zS_iload (zdec eX10_blame 40 rfl) rfl ?_
    refine zS_icmp_ge (tgt := 87) (zdec eX10_blame 41 rfl) rfl (fun c1 => ?_) (fun c1 => ?_)
    · refine zS_iinc (zdec eX10_blame 50 rfl) rfl rfl ⟨by omega, by omega⟩ ?_
      refine zS_goto (tgt := 23) (zdec eX10_blame 51 rfl) rfl ?_
      refine zS_forget (i := 4) ?_
      refine zS_forget (i := 5) ?_
      have k := ih (e + 1) h3 (by omega) (by omega) f3
      rw [slI_s _ _ _ a1, ← hx3] at k
      rw [if_neg (fun w => by have := of_decide_eq_true w.1; omega)] at k
      exact k
    · refine zS_iload (zdec eX10_blame 42 rfl) rfl ?_
      refine zS_iload_n (zdec eX10_blame 43 rfl) rfl ?_
      refine zS_icmp_lt (tgt := 82) (zdec eX10_blame 44 rfl) rfl (fun c2 => ?_) (fun c2 => ?_)
      · refine zS_iload_n (zdec eX10_blame 46 rfl) rfl ?_
        refine zS_istore_n (zdec eX10_blame 47 rfl) rfl ?_
        refine zS_iload (zdec eX10_blame 48 rfl) rfl ?_
        refine zS_istore_n (zdec eX10_blame 49 rfl) rfl ?_
        refine zS_iinc (zdec eX10_blame 50 rfl) rfl rfl ⟨by omega, by omega⟩ ?_
        refine zS_goto (tgt := 23) (zdec eX10_blame 51 rfl) rfl ?_
        refine zS_forget (i := 4) ?_
        refine zS_forget (i := 5) ?_
        have k := ih (e + 1) h3 (by omega) (by omega) f3
        rw [slI_s _ _ _ a1, ← hx3] at k
        rw [if_pos ⟨decide_eq_true (by omega), by omega⟩] at k
        exact k
      · refine zS_goto (tgt := 87) (zdec eX10_blame 45 rfl) rfl ?_
        refine zS_iinc (zdec eX10_blame 50 rfl) rfl rfl ⟨by omega, by omega⟩ ?_
        refine zS_goto (tgt := 23) (zdec eX10_blame 51 rfl) rfl ?_
        refine zS_forget (i := 4) ?_
        refine zS_forget (i := 5) ?_
        have k := ih (e + 1) h3 (by omega) (by omega) f3
        rw [slI_s _ _ _ a1, ← hx3] at k
        rw [if_neg (fun w => by have := w.2; omega)] at k
        exact k
theorem q_blame {d : Nat} {h : zH} {D : Dk} (hd : 200 ≤ d) (VD : DV D) (RD : DR h 0 D) : zMI d mX10_blame [zA 108] h (fun r h' => r = a_blame D ∧ Fr sQR h h') := by
  obtain ⟨p, hp⟩ : ∃ p, pb0 D = p := ⟨_, rfl⟩
  obtain ⟨q, hq⟩ : ∃ q, planP p = q := ⟨_, rfl⟩
  have pd : pDays p = D 0 1 := by rw [← hp]; rfl
  have pn : pNb p = D 0 8 := by rw [← hp]; rfl
  have dy := VD.days
  have nb := VD.nb
  have ns := VD.ns
  have nl := VD.nl
  have na := VD.na
  have vfl := VD.fl
  have vfe := VD.fee
  have hin : ∀ b, 0 ≤ b → b < pNb p → pIn p b = true := fun b _ _ => by rw [← hp]; rfl
  refine zmet rfl rfl rfl ?_
  refine zS_aload_n (zdec eX10_blame 0 rfl) rfl rfl ?_
  refine zS_iconst (zdec eX10_blame 1 rfl) rfl ?_
  refine zS_putfield (x := 0) (zdec eX10_blame 2 rfl) kF_X10_71 (Or.inl kf10_0) ⟨by decide, rfl⟩ rfl rfl rfl (Or.inl (fun q => by cases q)) ?_
  obtain ⟨h0, E0⟩ : ∃ x, x = zset h 108 0 0 := ⟨_, rfl⟩
  rw [show zset h 108 0 (0 : Int) = h0 from E0.symm]
  have f0 : Fr sQR h h0 := by rw [E0]; exact Fr.rf.set (by omega)
  have RD0 : DR h0 0 D := RD.fr f0 (fun k j z => by omega)
  refine zS_aload_n (zdec eX10_blame 3 rfl) rfl rfl ?_
  refine zvI (M' := mX10_isDesk) (As := []) (st := []) (zdec eX10_blame 4 rfl) kM_X10_332 kV_X10_isDesk ⟨by decide, rfl⟩ rfl rfl rfl rfl rfl (by omega) (d_isDesk VD RD0) ?_
  refine zS_if_ne (tgt := 15) (zdec eX10_blame 5 rfl) rfl (fun c1 => ?_) (fun c1 => ?_)
  · have z1 := d2i_n.mp c1
    refine zS_iconst (zdec eX10_blame 8 rfl) rfl ?_
    refine zS_istore_n (zdec eX10_blame 9 rfl) rfl ?_
    refine zS_ldc_w (zdec eX10_blame 10 rfl) kc_X10_310 rfl ?_
    refine zS_istore_n (zdec eX10_blame 11 rfl) rfl ?_
    refine zS_iconst (zdec eX10_blame 12 rfl) rfl ?_
    refine zS_istore_n (zdec eX10_blame 13 rfl) rfl ?_
    have hd0 : 0 < D 0 0 := by first | omega
    unfold a_blame
    rw [hp, hq, if_pos hd0]
    have lim := slI_lim (c := (fun b => decide (totL (noX D b) < totalP p q - priceP p b (q b)))) (f := (fun b => totL (noX D b))) (L := 2147483647) (L' := 100000000) (fun j => by have := totLB ((pb0_V VD hd0).set' 1 (fun c => decide (c ≠ j))); show totL (wT (pb0 D) 1 (fun c => decide (c ≠ j))) < 2147483647 ∧ totL (wT (pb0 D) 1 (fun c => decide (c ≠ j))) < 100000000; omega) (D 0 8) (by omega)
    rw [lim.1]
    exact K_blame hp hq (by omega) VD hd0 RD (D 0 8).toNat 0 h0 (by omega) (by omega) f0
  · have z1 := d2i_0.mp c1
    refine zS_bipush (zdec eX10_blame 6 rfl) rfl rfl ?_
    exact zlMI (zdec eX10_blame 7 rfl) rfl ⟨by unfold a_blame; (try rw [hp]); (try rw [hq]); first | rw [if_pos (by omega)] | rw [if_neg (by omega)], f0⟩
theorem K_need {d : Nat} {h : zH} {D : Dk} {p : Pb} (hp : pb0 D = p) (hd : 100 ≤ d) (VD : DV D) (hd0 : 0 < D 0 0) (RD : DR h 0 D) (V : PV p) (hin : ∀ b, 0 ≤ b → b < pNb p → pIn p b = true) : ∀ (n : Nat) (e c : Int) (h1 : zH), 0 ≤ e → e + n = 10000 → Fr sQR h h1 → WR h1 (wS p 5 c) → fsI (fun n => decide (opnL (wS p 5 n) = 0)) e = -1 → zS mX10_need (zr d) 21 [zA 108, zI e] [] TT h1 (zAnI (fun r h' => r = fsI (fun n => decide (opnL (wS p 5 n) = 0)) 10000 ∧ Fr sQR h h')) := by
  intro n
  induction n with
  | zero =>
    intro e c h1 a1 a2 i1 R a3
    refine zS_iload_n (zdec eX10_need 12 rfl) rfl ?_
    refine zS_sipush (zdec eX10_need 13 rfl) rfl rfl ?_
    refine zS_icmp_gt (tgt := 56) (zdec eX10_need 14 rfl) rfl (fun cz => ?_) (fun cz => absurd (by omega) cz)
    refine zS_iconst (zdec eX10_need 29 rfl) rfl ?_
    exact zlMI (zdec eX10_need 30 rfl) rfl ⟨by rw [← a3, show e = 10000 by omega], i1⟩
  | succ n ih =>
    intro e c h1 a1 a2 i1 R a3
    refine zS_iload_n (zdec eX10_need 12 rfl) rfl ?_
    refine zS_sipush (zdec eX10_need 13 rfl) rfl rfl ?_
    refine zS_icmp_gt (tgt := 56) (zdec eX10_need 14 rfl) rfl (fun cz => absurd cz (by omega)) (fun cz => ?_)
    refine zS_aload_n (zdec eX10_need 15 rfl) rfl rfl ?_
    refine zS_iload_n (zdec eX10_need 16 rfl) rfl ?_
    refine zS_putfield (x := 24) (zdec eX10_need 17 rfl) kF_X10_249 (Or.inl kf10_24) ⟨by decide, rfl⟩ rfl rfl rfl (Or.inl (fun q => by cases q)) ?_
    have R4 : WR (zset h1 108 24 e) (wS p 5 e) := by have t := R.cash' e; exact ⟨t.1, t.2.1, t.2.2.1, t.2.2.2.1, t.2.2.2.2.1, t.2.2.2.2.2.1, t.2.2.2.2.2.2⟩
    have V4 : PV (wS p 5 e) := V.cash' a1 (by omega)
    have ff : Fr sQR h (zset h1 108 24 e) := i1.set (by omega)
    refine zS_aload_n (zdec eX10_need 18 rfl) rfl rfl ?_
    refine zvMV (M' := mX10_runs) (As := []) (st := []) (zdec eX10_need 19 rfl) kM_X10_317 kV_X10_runs ⟨by decide, rfl⟩ rfl rfl rfl rfl rfl (by omega) (r_runs (p := (wS p 5 e)) (by omega) V4 R4) (fun h3 ⟨S3, O3, g3⟩ => ?_)
    have f3 : Fr sQR h h3 := ff.tr g3 (fun k j z => z) (fun k j z => by omega)
    have R3 : WR h3 (wS p 5 e) := R4.fr g3 (fun k j z => by unfold wrP; omega)
    refine zS_aload_n (zdec eX10_need 20 rfl) rfl rfl ?_
    refine zS_aload_n (zdec eX10_need 21 rfl) rfl rfl ?_
    refine zvI (M' := mX10_days) (As := []) (st := [zA 108]) (zdec eX10_need 22 rfl) kM_X10_240 kV_X10_days ⟨by decide, rfl⟩ rfl rfl rfl rfl rfl (by omega) (r_days R3) ?_
    refine zvI (M' := mX10_fileOn) (As := [zI (pDays (wS p 5 e))]) (st := []) (zdec eX10_need 23 rfl) kM_X10_348 kV_X10_fileOn ⟨by decide, rfl⟩ rfl rfl rfl rfl rfl (by omega) (show zPI (d - 1) mX10_fileOn [zA 108, zI (pDays (wS p 5 e))] h3 (opnL (wS p 5 e)) from r_fileOn (by omega) V4 R3 S3 hin) ?_
    refine zS_if_ne (tgt := 50) (zdec eX10_need 24 rfl) rfl (fun c1 => ?_) (fun c1 => ?_)
    · refine zS_iinc (zdec eX10_need 27 rfl) rfl rfl ⟨by omega, by omega⟩ ?_
      refine zS_goto (tgt := 21) (zdec eX10_need 28 rfl) rfl ?_
      exact ih (e + 1) e h3 (by omega) (by omega) f3 R3 (fsI_next a1 a3 (decide_eq_false c1))
    · refine zS_iload_n (zdec eX10_need 25 rfl) rfl ?_
      exact zlMI (zdec eX10_need 26 rfl) rfl ⟨(fsI_hit a1 (by omega) a3 (decide_eq_true c1)).symm, f3⟩
theorem q_need {d : Nat} {h : zH} {D : Dk} (hd : 200 ≤ d) (VD : DV D) (RD : DR h 0 D) : zMI d mX10_need [zA 108] h (fun r h' => r = a_need D ∧ Fr sQR h h') := by
  obtain ⟨p, hp⟩ : ∃ p, pb0 D = p := ⟨_, rfl⟩
  obtain ⟨q, hq⟩ : ∃ q, planP p = q := ⟨_, rfl⟩
  have pd : pDays p = D 0 1 := by rw [← hp]; rfl
  have pn : pNb p = D 0 8 := by rw [← hp]; rfl
  have dy := VD.days
  have nb := VD.nb
  have ns := VD.ns
  have nl := VD.nl
  have na := VD.na
  have vfl := VD.fl
  have vfe := VD.fee
  have hin : ∀ b, 0 ≤ b → b < pNb p → pIn p b = true := fun b _ _ => by rw [← hp]; rfl
  refine zmet rfl rfl rfl ?_
  refine zS_aload_n (zdec eX10_need 0 rfl) rfl rfl ?_
  refine zS_iconst (zdec eX10_need 1 rfl) rfl ?_
  refine zS_putfield (x := 0) (zdec eX10_need 2 rfl) kF_X10_71 (Or.inl kf10_0) ⟨by decide, rfl⟩ rfl rfl rfl (Or.inl (fun q => by cases q)) ?_
  obtain ⟨h0, E0⟩ : ∃ x, x = zset h 108 0 0 := ⟨_, rfl⟩
  rw [show zset h 108 0 (0 : Int) = h0 from E0.symm]
  have f0 : Fr sQR h h0 := by rw [E0]; exact Fr.rf.set (by omega)
  have RD0 : DR h0 0 D := RD.fr f0 (fun k j z => by omega)
  refine zS_aload_n (zdec eX10_need 3 rfl) rfl rfl ?_
  refine zvI (M' := mX10_isDesk) (As := []) (st := []) (zdec eX10_need 4 rfl) kM_X10_332 kV_X10_isDesk ⟨by decide, rfl⟩ rfl rfl rfl rfl rfl (by omega) (d_isDesk VD RD0) ?_
  refine zS_if_ne (tgt := 15) (zdec eX10_need 5 rfl) rfl (fun c1 => ?_) (fun c1 => ?_)
  · have z1 := d2i_n.mp c1
    refine zS_aload_n (zdec eX10_need 8 rfl) rfl rfl ?_
    have hd0 : 0 < D 0 0 := by first | omega
    refine zvMV (M' := mX10_lays) (As := []) (st := []) (zdec eX10_need 9 rfl) kM_X10_314 kV_X10_lays ⟨by decide, rfl⟩ rfl rfl rfl rfl rfl (by omega) (r_lays (by omega) VD hd0 RD0) (fun h2 ⟨R, cl2, g2⟩ => ?_)
    rw [hp] at R
    have V : PV p := by rw [← hp]; exact pb0_V VD hd0
    have f2 : Fr sQR h h2 := f0.tr g2 (fun k j z => z) (fun k j z => by omega)
    have RD2 : DR h2 0 D := RD.fr f2 (fun k j z => by omega)
    refine zS_iconst (zdec eX10_need 10 rfl) rfl ?_
    refine zS_istore_n (zdec eX10_need 11 rfl) rfl ?_
    unfold a_need
    rw [hp, if_pos hd0]
    exact K_need hp (by omega) VD hd0 RD V hin 10000 0 (pCash p) h2 (by omega) (by omega) f2 ⟨R.1, R.2.1, R.2.2.1, R.2.2.2.1, R.2.2.2.2.1, R.2.2.2.2.2.1, R.2.2.2.2.2.2⟩ rfl
  · have z1 := d2i_0.mp c1
    refine zS_bipush (zdec eX10_need 6 rfl) rfl rfl ?_
    exact zlMI (zdec eX10_need 7 rfl) rfl ⟨by unfold a_need; (try rw [hp]); (try rw [hq]); first | rw [if_pos (by omega)] | rw [if_neg (by omega)], f0⟩
theorem K_floor {d : Nat} {h : zH} {D : Dk} {p : Pb} (hp : pb0 D = p) (hd : 100 ≤ d) (VD : DV D) (hd0 : 0 < D 0 0) (RD : DR h 0 D) (V : PV p) : ∀ (n : Nat) (e : Int) (h1 : zH), 0 ≤ e → e + n = 5000 - D 0 5 → Fr sQR h h1 → WR h1 p → h1 108 25 = D 0 5 → fsI (fun n => decide (totL (wS p 3 (5000 - n)) ≤ totL p)) e = -1 → zS mX10_floor (zr d) 28 [zA 108, zI (totL p), zI (5000 - e), zN, zN] [] TT h1 (zAnI (fun r h' => r = (if fsI (fun n => decide (totL (wS p 3 (5000 - n)) ≤ totL p)) (5000 - D 0 5) = -1 then D 0 5 else 5000 - fsI (fun n => decide (totL (wS p 3 (5000 - n)) ≤ totL p)) (5000 - D 0 5)) ∧ Fr sQR h h')) := by
  intro n
  induction n with
  | zero =>
    intro e h1 a1 a2 i1 R b25 a3
    have vf := VD.fl
    refine zS_iload_n (zdec eX10_floor 15 rfl) rfl ?_
    refine zS_aload_n (zdec eX10_floor 16 rfl) rfl rfl ?_
    refine zS_getfieldE (x := 25) (v := (D 0 5)) (zdec eX10_floor 17 rfl) kF_X10_252 ⟨by decide, rfl⟩ rfl rfl rfl b25 ?_
    refine zS_icmp_le (tgt := 71) (zdec eX10_floor 18 rfl) rfl (fun cz => ?_) (fun cz => absurd (by omega) cz)
    refine zS_aload_n (zdec eX10_floor 38 rfl) rfl rfl ?_
    refine zS_getfieldE (x := 25) (v := (D 0 5)) (zdec eX10_floor 39 rfl) kF_X10_252 ⟨by decide, rfl⟩ rfl rfl rfl b25 ?_
    exact zlMI (zdec eX10_floor 40 rfl) rfl ⟨by rw [show 5000 - D 0 5 = e by omega, a3, if_pos rfl], i1⟩
  | succ n ih =>
    intro e h1 a1 a2 i1 R b25 a3
    have vf := VD.fl
    have pf : pFl p = D 0 5 := by rw [← hp]; rfl
    refine zS_iload_n (zdec eX10_floor 15 rfl) rfl ?_
    refine zS_aload_n (zdec eX10_floor 16 rfl) rfl rfl ?_
    refine zS_getfieldE (x := 25) (v := (D 0 5)) (zdec eX10_floor 17 rfl) kF_X10_252 ⟨by decide, rfl⟩ rfl rfl rfl b25 ?_
    refine zS_icmp_le (tgt := 71) (zdec eX10_floor 18 rfl) rfl (fun cz => absurd cz (by omega)) (fun cz => ?_)
    refine zS_aload_n (zdec eX10_floor 19 rfl) rfl rfl ?_
    refine zS_getfieldE (x := 25) (v := (D 0 5)) (zdec eX10_floor 20 rfl) kF_X10_252 ⟨by decide, rfl⟩ rfl rfl rfl b25 ?_
    refine zS_istore_n (zdec eX10_floor 21 rfl) rfl ?_
    refine zS_aload_n (zdec eX10_floor 22 rfl) rfl rfl ?_
    refine zS_iload_n (zdec eX10_floor 23 rfl) rfl ?_
    refine zS_putfield (x := 25) (zdec eX10_floor 24 rfl) kF_X10_252 (Or.inl kf10_25) ⟨by decide, rfl⟩ rfl rfl rfl (Or.inl (fun q => by cases q)) ?_
    have R4 := R.fl' (5000 - e)
    have V4 : PV (wS p 3 (5000 - e)) := V.fl' (by omega) (by omega)
    have ff : Fr sQR h (zset h1 108 25 (5000 - e)) := i1.set (by omega)
    refine zS_aload_n (zdec eX10_floor 25 rfl) rfl rfl ?_
    refine zvMI (M' := mX10_totalBy) (As := []) (st := []) (zdec eX10_floor 26 rfl) kM_X10_406 kV_X10_totalBy ⟨by decide, rfl⟩ rfl rfl rfl rfl rfl (by omega) (r_totalBy (p := (wS p 3 (5000 - e))) (by omega) V4 R4) (fun x3 h3 ⟨hx3, L3, g3⟩ => ?_)
    have f3 : Fr sQR h h3 := ff.tr g3 (fun k j z => z) (fun k j z => by omega)
    refine zS_istore (zdec eX10_floor 27 rfl) rfl ?_
    refine zS_aload_n (zdec eX10_floor 28 rfl) rfl rfl ?_
    refine zS_iload_n (zdec eX10_floor 29 rfl) rfl ?_
    refine zS_putfield (x := 25) (zdec eX10_floor 30 rfl) kF_X10_252 (Or.inl kf10_25) ⟨by decide, rfl⟩ rfl rfl rfl (Or.inl (fun q => by cases q)) ?_
    have f5 : Fr sQR h (zset h3 108 25 (D 0 5)) := f3.set (by omega)
    have R5 : WR (zset h3 108 25 (D 0 5)) p := by
        have t := L3.1.fl' (D 0 5)
        exact ⟨t.1, t.2.1, t.2.2.1, (zset_s _ _ _ _).trans pf.symm, t.2.2.2.2.1, t.2.2.2.2.2.1, t.2.2.2.2.2.2⟩
    refine zS_iload (zdec eX10_floor 31 rfl) rfl ?_
    refine zS_iload_n (zdec eX10_floor 32 rfl) rfl ?_
    refine zS_icmp_gt (tgt := 65) (zdec eX10_floor 33 rfl) rfl (fun c1 => ?_) (fun c1 => ?_)
    · refine zS_iinc (zdec eX10_floor 36 rfl) rfl rfl ⟨by omega, by omega⟩ ?_
      refine zS_goto (tgt := 28) (zdec eX10_floor 37 rfl) rfl ?_
      refine zS_forget (i := 3) ?_
      refine zS_forget (i := 4) ?_
      rw [show 5000 - e + -1 = 5000 - (e + 1) by omega]
      exact ih (e + 1) _ (by omega) (by omega) f5 R5 (zset_s _ _ _ _) (fsI_next a1 a3 (decide_eq_false (by omega)))
    · refine zS_iload_n (zdec eX10_floor 34 rfl) rfl ?_
      have t := fsI_hit (f := (fun n => decide (totL (wS p 3 (5000 - n)) ≤ totL p))) (k := 5000 - D 0 5) a1 (by omega) a3 (decide_eq_true (by omega))
      exact zlMI (zdec eX10_floor 35 rfl) rfl ⟨by rw [t, if_neg (by omega)], f5⟩
theorem q_floor {d : Nat} {h : zH} {D : Dk} (hd : 200 ≤ d) (VD : DV D) (RD : DR h 0 D) : zMI d mX10_floor [zA 108] h (fun r h' => r = a_floor D ∧ Fr sQR h h') := by
  obtain ⟨p, hp⟩ : ∃ p, pb0 D = p := ⟨_, rfl⟩
  obtain ⟨q, hq⟩ : ∃ q, planP p = q := ⟨_, rfl⟩
  have pd : pDays p = D 0 1 := by rw [← hp]; rfl
  have pn : pNb p = D 0 8 := by rw [← hp]; rfl
  have dy := VD.days
  have nb := VD.nb
  have ns := VD.ns
  have nl := VD.nl
  have na := VD.na
  have vfl := VD.fl
  have vfe := VD.fee
  have hin : ∀ b, 0 ≤ b → b < pNb p → pIn p b = true := fun b _ _ => by rw [← hp]; rfl
  refine zmet rfl rfl rfl ?_
  refine zS_aload_n (zdec eX10_floor 0 rfl) rfl rfl ?_
  refine zS_iconst (zdec eX10_floor 1 rfl) rfl ?_
  refine zS_putfield (x := 0) (zdec eX10_floor 2 rfl) kF_X10_71 (Or.inl kf10_0) ⟨by decide, rfl⟩ rfl rfl rfl (Or.inl (fun q => by cases q)) ?_
  obtain ⟨h0, E0⟩ : ∃ x, x = zset h 108 0 0 := ⟨_, rfl⟩
  rw [show zset h 108 0 (0 : Int) = h0 from E0.symm]
  have f0 : Fr sQR h h0 := by rw [E0]; exact Fr.rf.set (by omega)
  have RD0 : DR h0 0 D := RD.fr f0 (fun k j z => by omega)
  refine zS_aload_n (zdec eX10_floor 3 rfl) rfl rfl ?_
  refine zvI (M' := mX10_isDesk) (As := []) (st := []) (zdec eX10_floor 4 rfl) kM_X10_332 kV_X10_isDesk ⟨by decide, rfl⟩ rfl rfl rfl rfl rfl (by omega) (d_isDesk VD RD0) ?_
  refine zS_if_ne (tgt := 15) (zdec eX10_floor 5 rfl) rfl (fun c1 => ?_) (fun c1 => ?_)
  · have z1 := d2i_n.mp c1
    refine zS_aload_n (zdec eX10_floor 8 rfl) rfl rfl ?_
    have hd0 : 0 < D 0 0 := by first | omega
    refine zvMV (M' := mX10_lays) (As := []) (st := []) (zdec eX10_floor 9 rfl) kM_X10_314 kV_X10_lays ⟨by decide, rfl⟩ rfl rfl rfl rfl rfl (by omega) (r_lays (by omega) VD hd0 RD0) (fun h2 ⟨R, cl2, g2⟩ => ?_)
    rw [hp] at R
    have V : PV p := by rw [← hp]; exact pb0_V VD hd0
    have f2 : Fr sQR h h2 := f0.tr g2 (fun k j z => z) (fun k j z => by omega)
    have RD2 : DR h2 0 D := RD.fr f2 (fun k j z => by omega)
    refine zS_aload_n (zdec eX10_floor 10 rfl) rfl rfl ?_
    refine zvMI (M' := mX10_totalBy) (As := []) (st := []) (zdec eX10_floor 11 rfl) kM_X10_406 kV_X10_totalBy ⟨by decide, rfl⟩ rfl rfl rfl rfl rfl (by omega) (r_totalBy (p := p) (by omega) V R) (fun x3 h3 ⟨hx3, L3, g3⟩ => ?_)
    have f3 : Fr sQR h h3 := f2.tr g3 (fun k j z => z) (fun k j z => by omega)
    refine zS_istore_n (zdec eX10_floor 12 rfl) rfl ?_
    refine zS_sipush (zdec eX10_floor 13 rfl) rfl rfl ?_
    refine zS_istore_n (zdec eX10_floor 14 rfl) rfl ?_
    unfold a_floor
    rw [hp, if_pos hd0, hx3]
    have pf : pFl p = D 0 5 := by rw [← hp]; rfl
    exact K_floor hp (by omega) VD hd0 RD V (5000 - D 0 5).toNat 0 h3 (by omega) (by omega) f3 L3.1 (L3.1.fl.trans pf) rfl
  · have z1 := d2i_0.mp c1
    refine zS_bipush (zdec eX10_floor 6 rfl) rfl rfl ?_
    exact zlMI (zdec eX10_floor 7 rfl) rfl ⟨by unfold a_floor; (try rw [hp]); (try rw [hq]); first | rw [if_pos (by omega)] | rw [if_neg (by omega)], f0⟩
theorem q_closing {d : Nat} {h : zH} {D : Dk} {x : Int} (hd : 200 ≤ d) (VD : DV D) (RD : DR h 0 D) : zMI d mX10_closing [zA 108, zI x] h (fun r h' => r = a_closing D x ∧ Fr sQR h h') := by
  obtain ⟨p, hp⟩ : ∃ p, pb0 D = p := ⟨_, rfl⟩
  obtain ⟨q, hq⟩ : ∃ q, planP p = q := ⟨_, rfl⟩
  have pd : pDays p = D 0 1 := by rw [← hp]; rfl
  have pn : pNb p = D 0 8 := by rw [← hp]; rfl
  have dy := VD.days
  have nb := VD.nb
  have ns := VD.ns
  have nl := VD.nl
  have na := VD.na
  have vfl := VD.fl
  have vfe := VD.fee
  have hin : ∀ b, 0 ≤ b → b < pNb p → pIn p b = true := fun b _ _ => by rw [← hp]; rfl
  refine zmet rfl rfl rfl ?_
  refine zS_aload_n (zdec eX10_closing 0 rfl) rfl rfl ?_
  refine zS_iconst (zdec eX10_closing 1 rfl) rfl ?_
  refine zS_putfield (x := 0) (zdec eX10_closing 2 rfl) kF_X10_71 (Or.inl kf10_0) ⟨by decide, rfl⟩ rfl rfl rfl (Or.inl (fun q => by cases q)) ?_
  obtain ⟨h0, E0⟩ : ∃ x, x = zset h 108 0 0 := ⟨_, rfl⟩
  rw [show zset h 108 0 (0 : Int) = h0 from E0.symm]
  have f0 : Fr sQR h h0 := by rw [E0]; exact Fr.rf.set (by omega)
  have RD0 : DR h0 0 D := RD.fr f0 (fun k j z => by omega)
  refine zS_aload_n (zdec eX10_closing 3 rfl) rfl rfl ?_
  refine zS_iload_n (zdec eX10_closing 4 rfl) rfl ?_
  refine zvI (M' := mX10_isDay) (As := [zI x]) (st := []) (zdec eX10_closing 5 rfl) kM_X10_329 kV_X10_isDay ⟨by decide, rfl⟩ rfl rfl rfl rfl rfl (by omega) (d_isDay (by omega) VD RD0) ?_
  refine zS_if_ne (tgt := 17) (zdec eX10_closing 6 rfl) rfl (fun c1 => ?_) (fun c1 => ?_)
  · have z1 := d2i_n.mp c1
    refine zS_aload_n (zdec eX10_closing 9 rfl) rfl rfl ?_
    have hd0 : 0 < D 0 0 := by first | omega | exact VD.bill (show 0 ≤ x by omega) (show x < D 0 8 by omega) | exact VD.day (show 0 ≤ x by omega) (show x < D 0 1 by omega) | exact VD.sup (show 0 ≤ x by omega) (show x < D 0 7 by omega)
    refine zvMV (M' := mX10_lays) (As := []) (st := []) (zdec eX10_closing 10 rfl) kM_X10_314 kV_X10_lays ⟨by decide, rfl⟩ rfl rfl rfl rfl rfl (by omega) (r_lays (by omega) VD hd0 RD0) (fun h2 ⟨R, cl2, g2⟩ => ?_)
    rw [hp] at R
    have V : PV p := by rw [← hp]; exact pb0_V VD hd0
    have f2 : Fr sQR h h2 := f0.tr g2 (fun k j z => z) (fun k j z => by omega)
    have RD2 : DR h2 0 D := RD.fr f2 (fun k j z => by omega)
    refine zS_aload_n (zdec eX10_closing 11 rfl) rfl rfl ?_
    refine zvMI (M' := mX10_totalBy) (As := []) (st := []) (zdec eX10_closing 12 rfl) kM_X10_406 kV_X10_totalBy ⟨by decide, rfl⟩ rfl rfl rfl rfl rfl (by omega) (r_totalBy (p := p) (by omega) V R) (fun x3 h3 ⟨hx3, L3, g3⟩ => ?_)
    have f3 : Fr sQR h h3 := f2.tr g3 (fun k j z => z) (fun k j z => by omega)
    refine zS_istore_n (zdec eX10_closing 13 rfl) rfl ?_
    refine zS_aload_n (zdec eX10_closing 14 rfl) rfl rfl ?_
    refine zS_dup (zdec eX10_closing 15 rfl) (fun q => by cases q) ?_
    refine zS_getfieldE (x := 27) (v := (clI D (D 0 10))) (zdec eX10_closing 16 rfl) kF_X10_261 ⟨by decide, rfl⟩ rfl rfl rfl ((g3 _ _ (by omega)).trans cl2) ?_
    refine zS_iconst (zdec eX10_closing 17 rfl) rfl ?_
    refine zS_iload_n (zdec eX10_closing 18 rfl) rfl ?_
    refine zS_ishl (zdec eX10_closing 19 rfl) ?_
    refine zS_ior (zdec eX10_closing 20 rfl) ?_
    refine zS_putfield (x := 27) (zdec eX10_closing 21 rfl) kF_X10_261 (Or.inl kf10_27) ⟨by decide, rfl⟩ rfl rfl rfl (Or.inl (fun q => by cases q)) ?_
    have na := VD.na
    have ci := clI_is VD na.1 (Int.le_refl _)
    have R4 : WR (zset h3 108 27 (zOr (clI D (D 0 10)) (zShl 1 x))) (clX D x) := by
        have t := L3.1.cl' (v := zOr (clI D (D 0 10)) (zShl 1 x)) (f := fun y => clD D y || decide (y = x)) (fun d d0 d1 => by rw [or_bit7 ci.1.1 ci.1.2 (by omega) (by omega) d0 d1, ci.2 d d0 (by omega)]; rfl)
        rw [← hp] at t
        exact t
    have V4 : PV (clX D x) := (pb0_V VD hd0).set' 0 _
    have ff : Fr sQR h (zset h3 108 27 (zOr (clI D (D 0 10)) (zShl 1 x))) := f3.set (by omega)
    refine zS_aload_n (zdec eX10_closing 22 rfl) rfl rfl ?_
    refine zvMI (M' := mX10_totalBy) (As := []) (st := []) (zdec eX10_closing 23 rfl) kM_X10_406 kV_X10_totalBy ⟨by decide, rfl⟩ rfl rfl rfl rfl rfl (by omega) (r_totalBy (p := (clX D x)) (by omega) V4 R4) (fun x5 h5 ⟨hx5, L5, g5⟩ => ?_)
    have f5 : Fr sQR h h5 := ff.tr g5 (fun k j z => z) (fun k j z => by omega)
    have tb1 := totLB V4
    have tb2 := totLB V
    refine zS_iload_n (zdec eX10_closing 24 rfl) rfl ?_
    refine zS_isub (zdec eX10_closing 25 rfl) ⟨by omega, by omega⟩ ?_
    exact zlMI (zdec eX10_closing 26 rfl) rfl ⟨by unfold a_closing; rw [hp, if_pos (by omega), hx5, hx3], f5⟩
  · have z1 := d2i_0.mp c1
    refine zS_ldc_w (zdec eX10_closing 7 rfl) kc_X10_351 rfl ?_
    exact zlMI (zdec eX10_closing 8 rfl) rfl ⟨by unfold a_closing; rw [if_neg (by omega)], f0⟩
theorem K_broke {d : Nat} {h : zH} {D : Dk} {p : Pb} (hp : pb0 D = p) (hd : 100 ≤ d) (VD : DV D) (hd0 : 0 < D 0 0) (RD : DR h 0 D) (V : PV p) : ∀ (n : Nat) (e : Int) (h1 : zH), 0 ≤ e → e + n = D 0 1 → Fr sQR h h1 → fsI (fun y => decide (zAnd (opnL (clX D y)) (zXor (opnL p) (-1)) ≠ 0)) e = -1 → zS mX10_broke (zr d) 30 [zA 108, zI (opnL p), zI e] [] TT h1 (zAnI (fun r h' => r = fsI (fun y => decide (zAnd (opnL (clX D y)) (zXor (opnL p) (-1)) ≠ 0)) (D 0 1) ∧ Fr sQR h h')) := by
  intro n
  induction n with
  | zero =>
    intro e h1 a1 a2 i1 a3
    have RD1 : DR h1 0 D := RD.fr i1 (fun k j z => by omega)
    refine zS_iload_n (zdec eX10_broke 17 rfl) rfl ?_
    refine zS_aload_n (zdec eX10_broke 18 rfl) rfl rfl ?_
    refine zvI (M' := mX10_days) (As := []) (st := [zI e]) (zdec eX10_broke 19 rfl) kM_X10_240 kV_X10_days ⟨by decide, rfl⟩ rfl rfl rfl rfl rfl (by omega) (d_days RD1) ?_
    refine zS_icmp_ge (tgt := 81) (zdec eX10_broke 20 rfl) rfl (fun cz => ?_) (fun cz => absurd (by omega) cz)
    refine zS_iconst (zdec eX10_broke 46 rfl) rfl ?_
    exact zlMI (zdec eX10_broke 47 rfl) rfl ⟨by rw [show D 0 1 = e by omega]; exact a3.symm, i1⟩
  | succ n ih =>
    intro e h1 a1 a2 i1 a3
    have RD1 : DR h1 0 D := RD.fr i1 (fun k j z => by omega)
    have dy := VD.days
    have na := VD.na
    have ci := clI_is VD na.1 (Int.le_refl _)
    refine zS_iload_n (zdec eX10_broke 17 rfl) rfl ?_
    refine zS_aload_n (zdec eX10_broke 18 rfl) rfl rfl ?_
    refine zvI (M' := mX10_days) (As := []) (st := [zI e]) (zdec eX10_broke 19 rfl) kM_X10_240 kV_X10_days ⟨by decide, rfl⟩ rfl rfl rfl rfl rfl (by omega) (d_days RD1) ?_
    refine zS_icmp_ge (tgt := 81) (zdec eX10_broke 20 rfl) rfl (fun cz => absurd cz (by omega)) (fun cz => ?_)
    refine zS_aload_n (zdec eX10_broke 21 rfl) rfl rfl ?_
    refine zvMV (M' := mX10_lays) (As := []) (st := []) (zdec eX10_broke 22 rfl) kM_X10_314 kV_X10_lays ⟨by decide, rfl⟩ rfl rfl rfl rfl rfl (by omega) (r_lays (by omega) VD hd0 RD1) (fun h2 ⟨R, cl2, g2⟩ => ?_)
    rw [hp] at R
    have f2 : Fr sQR h h2 := i1.tr g2 (fun k j z => z) (fun k j z => by omega)
    refine zS_aload_n (zdec eX10_broke 23 rfl) rfl rfl ?_
    refine zS_dup (zdec eX10_broke 24 rfl) (fun q => by cases q) ?_
    refine zS_getfieldE (x := 27) (v := (clI D (D 0 10))) (zdec eX10_broke 25 rfl) kF_X10_261 ⟨by decide, rfl⟩ rfl rfl rfl cl2 ?_
    refine zS_iconst (zdec eX10_broke 26 rfl) rfl ?_
    refine zS_iload_n (zdec eX10_broke 27 rfl) rfl ?_
    refine zS_ishl (zdec eX10_broke 28 rfl) ?_
    refine zS_ior (zdec eX10_broke 29 rfl) ?_
    refine zS_putfield (x := 27) (zdec eX10_broke 30 rfl) kF_X10_261 (Or.inl kf10_27) ⟨by decide, rfl⟩ rfl rfl rfl (Or.inl (fun q => by cases q)) ?_
    have R4 : WR (zset h2 108 27 (zOr (clI D (D 0 10)) (zShl 1 e))) (clX D e) := by
        have t := R.cl' (v := zOr (clI D (D 0 10)) (zShl 1 e)) (f := fun y => clD D y || decide (y = e)) (fun d d0 d1 => by rw [or_bit7 ci.1.1 ci.1.2 (by omega) (by omega) d0 d1, ci.2 d d0 (by omega)]; rfl)
        rw [← hp] at t
        exact t
    have V4 : PV (clX D e) := (pb0_V VD hd0).set' 0 _
    have ff : Fr sQR h (zset h2 108 27 (zOr (clI D (D 0 10)) (zShl 1 e))) := f2.set (by omega)
    refine zS_aload_n (zdec eX10_broke 31 rfl) rfl rfl ?_
    refine zvMV (M' := mX10_runs) (As := []) (st := []) (zdec eX10_broke 32 rfl) kM_X10_317 kV_X10_runs ⟨by decide, rfl⟩ rfl rfl rfl rfl rfl (by omega) (r_runs (p := (clX D e)) (by omega) V4 R4) (fun h3 ⟨S3, O3, g3⟩ => ?_)
    have f3 : Fr sQR h h3 := ff.tr g3 (fun k j z => z) (fun k j z => by omega)
    have R3 : WR h3 (clX D e) := R4.fr g3 (fun k j z => by unfold wrP; omega)
    refine zS_aload_n (zdec eX10_broke 33 rfl) rfl rfl ?_
    refine zS_aload_n (zdec eX10_broke 34 rfl) rfl rfl ?_
    refine zvI (M' := mX10_days) (As := []) (st := [zA 108]) (zdec eX10_broke 35 rfl) kM_X10_240 kV_X10_days ⟨by decide, rfl⟩ rfl rfl rfl rfl rfl (by omega) (r_days R3) ?_
    refine zvI (M' := mX10_fileOn) (As := [zI (pDays (clX D e))]) (st := []) (zdec eX10_broke 36 rfl) kM_X10_348 kV_X10_fileOn ⟨by decide, rfl⟩ rfl rfl rfl rfl rfl (by omega) (show zPI (d - 1) mX10_fileOn [zA 108, zI (pDays (clX D e))] h3 (opnL (clX D e)) from r_fileOn (by omega) V4 R3 S3 (fun _ _ _ => rfl)) ?_
    refine zS_iload_n (zdec eX10_broke 37 rfl) rfl ?_
    refine zS_iconst (zdec eX10_broke 38 rfl) rfl ?_
    refine zS_ixor (zdec eX10_broke 39 rfl) ?_
    refine zS_iand (zdec eX10_broke 40 rfl) ?_
    refine zS_if_eq (tgt := 75) (zdec eX10_broke 41 rfl) rfl (fun c1 => ?_) (fun c1 => ?_)
    · refine zS_iinc (zdec eX10_broke 44 rfl) rfl rfl ⟨by omega, by omega⟩ ?_
      refine zS_goto (tgt := 30) (zdec eX10_broke 45 rfl) rfl ?_
      exact ih (e + 1) h3 (by omega) (by omega) f3 (fsI_next a1 a3 (decide_eq_false (fun w => w c1)))
    · refine zS_iload_n (zdec eX10_broke 42 rfl) rfl ?_
      exact zlMI (zdec eX10_broke 43 rfl) rfl ⟨(fsI_hit a1 (by omega) a3 (decide_eq_true c1)).symm, f3⟩
theorem q_broke {d : Nat} {h : zH} {D : Dk} (hd : 200 ≤ d) (VD : DV D) (RD : DR h 0 D) : zMI d mX10_broke [zA 108] h (fun r h' => r = a_broke D ∧ Fr sQR h h') := by
  obtain ⟨p, hp⟩ : ∃ p, pb0 D = p := ⟨_, rfl⟩
  obtain ⟨q, hq⟩ : ∃ q, planP p = q := ⟨_, rfl⟩
  have pd : pDays p = D 0 1 := by rw [← hp]; rfl
  have pn : pNb p = D 0 8 := by rw [← hp]; rfl
  have dy := VD.days
  have nb := VD.nb
  have ns := VD.ns
  have nl := VD.nl
  have na := VD.na
  have vfl := VD.fl
  have vfe := VD.fee
  have hin : ∀ b, 0 ≤ b → b < pNb p → pIn p b = true := fun b _ _ => by rw [← hp]; rfl
  refine zmet rfl rfl rfl ?_
  refine zS_aload_n (zdec eX10_broke 0 rfl) rfl rfl ?_
  refine zS_iconst (zdec eX10_broke 1 rfl) rfl ?_
  refine zS_putfield (x := 0) (zdec eX10_broke 2 rfl) kF_X10_71 (Or.inl kf10_0) ⟨by decide, rfl⟩ rfl rfl rfl (Or.inl (fun q => by cases q)) ?_
  obtain ⟨h0, E0⟩ : ∃ x, x = zset h 108 0 0 := ⟨_, rfl⟩
  rw [show zset h 108 0 (0 : Int) = h0 from E0.symm]
  have f0 : Fr sQR h h0 := by rw [E0]; exact Fr.rf.set (by omega)
  have RD0 : DR h0 0 D := RD.fr f0 (fun k j z => by omega)
  refine zS_aload_n (zdec eX10_broke 3 rfl) rfl rfl ?_
  refine zvI (M' := mX10_isDesk) (As := []) (st := []) (zdec eX10_broke 4 rfl) kM_X10_332 kV_X10_isDesk ⟨by decide, rfl⟩ rfl rfl rfl rfl rfl (by omega) (d_isDesk VD RD0) ?_
  refine zS_if_ne (tgt := 15) (zdec eX10_broke 5 rfl) rfl (fun c1 => ?_) (fun c1 => ?_)
  · have z1 := d2i_n.mp c1
    refine zS_aload_n (zdec eX10_broke 8 rfl) rfl rfl ?_
    have hd0 : 0 < D 0 0 := by first | omega
    refine zvMV (M' := mX10_laysNow) (As := []) (st := []) (zdec eX10_broke 9 rfl) kM_X10_342 kV_X10_laysNow ⟨by decide, rfl⟩ rfl rfl rfl rfl rfl (by omega) (r_laysNow hp hq (by omega) VD hd0 RD0) (fun h2 ⟨⟨V, R, S, O, CA⟩, ⟨q0, q1⟩, g2, RD2⟩ => ?_)
    have f2 : Fr sQR h h2 := f0.tr g2 (fun k j z => z) (fun k j z => z)
    refine zS_aload_n (zdec eX10_broke 10 rfl) rfl rfl ?_
    refine zS_aload_n (zdec eX10_broke 11 rfl) rfl rfl ?_
    refine zvI (M' := mX10_days) (As := []) (st := [zA 108]) (zdec eX10_broke 12 rfl) kM_X10_240 kV_X10_days ⟨by decide, rfl⟩ rfl rfl rfl rfl rfl (by omega) (r_days R) ?_
    refine zvI (M' := mX10_fileOn) (As := [zI (pDays p)]) (st := []) (zdec eX10_broke 13 rfl) kM_X10_348 kV_X10_fileOn ⟨by decide, rfl⟩ rfl rfl rfl rfl rfl (by omega) (r_fileOn (by omega) V R S hin) ?_
    refine zS_istore_n (zdec eX10_broke 14 rfl) rfl ?_
    refine zS_iconst (zdec eX10_broke 15 rfl) rfl ?_
    refine zS_istore_n (zdec eX10_broke 16 rfl) rfl ?_
    unfold a_broke
    rw [hp, if_pos hd0]
    have k := K_broke (d := d) hp (by omega) VD hd0 RD V (D 0 1).toNat 0 h2 (by omega) (by omega) f2 rfl
    unfold opnL openP at k
    rw [hq] at k
    unfold opnL openP
    rw [hq]
    exact k
  · have z1 := d2i_0.mp c1
    refine zS_bipush (zdec eX10_broke 6 rfl) rfl rfl ?_
    exact zlMI (zdec eX10_broke 7 rfl) rfl ⟨by unfold a_broke; (try rw [hp]); (try rw [hq]); first | rw [if_pos (by omega)] | rw [if_neg (by omega)], f0⟩

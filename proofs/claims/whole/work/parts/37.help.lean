/-! A PROBLEM PUT OTHERWISE -/
def wS (p : Pb) (j v : Int) : Pb := (fun i => if i = j then v else p.1 i, p.2)
def wT (p : Pb) (k : Int) (f : Int → Bool) : Pb := (p.1, p.2.1, fun i => if i = k then f else p.2.2 i)
def wO (p : Pb) (f : Int → Int) : Pb := (p.1, fun i => if i = 1 then f else p.2.1 i, p.2.2)
theorem zx {h : zH} {j v k i : Int} (hk : k ≠ 14) : zset h 14 j v k i = h k i := congrFun (zset_k hk) i
theorem WC.law' {h : zH} {p : Pb} (V : PV p) (R : WC h p) (v : Int) : WC (zset h 14 1 v) (wS p 4 v) := by
  have nb := V.nb
  obtain ⟨r1, r2, r3, r4, r5, r6, r7, r8, r9, r10, r11, r12⟩ := R
  refine ⟨(zx (by decide)).trans r1, (zx (by decide)).trans r2, (zx (by decide)).trans r3, (zset_j (by decide)).trans r4, zset_s _ _ _ _, (zset_j (by decide)).trans r6, (zx (by decide)).trans r7, fun b b0 b1 => ?_, fun i i0 i1 => ?_, fun d d0 d1 => ?_, fun b b0 b1 => ?_, fun i i0 i1 => ?_⟩
  · have b1 : b < pNb p := b1
    rw [zset_k (by decide), zset_k (by decide), zset_k (by omega), zset_k (by decide)]; exact r8 b b0 b1
  · rw [zset_k (by decide), zset_k (by decide)]; exact r9 i i0 i1
  · rw [zset_j (by decide)]; exact r10 d d0 d1
  · rw [zset_j (by decide)]; exact r11 b b0 b1
  · rw [zset_j (by decide)]; exact r12 i i0 i1
theorem WC.cash' {h : zH} {p : Pb} (V : PV p) (R : WC h p) (v : Int) : WC (zset h 14 2 v) (wS p 5 v) := by
  have nb := V.nb
  obtain ⟨r1, r2, r3, r4, r5, r6, r7, r8, r9, r10, r11, r12⟩ := R
  refine ⟨(zx (by decide)).trans r1, (zx (by decide)).trans r2, (zx (by decide)).trans r3, (zset_j (by decide)).trans r4, (zset_j (by decide)).trans r5, zset_s _ _ _ _, (zx (by decide)).trans r7, fun b b0 b1 => ?_, fun i i0 i1 => ?_, fun d d0 d1 => ?_, fun b b0 b1 => ?_, fun i i0 i1 => ?_⟩
  · have b1 : b < pNb p := b1
    rw [zset_k (by decide), zset_k (by decide), zset_k (by omega), zset_k (by decide)]; exact r8 b b0 b1
  · rw [zset_k (by decide), zset_k (by decide)]; exact r9 i i0 i1
  · rw [zset_j (by decide)]; exact r10 d d0 d1
  · rw [zset_j (by decide)]; exact r11 b b0 b1
  · rw [zset_j (by decide)]; exact r12 i i0 i1
theorem WC.fl' {h : zH} {p : Pb} (V : PV p) (R : WC h p) (v : Int) : WC (zset h 14 3 v) (wS p 3 v) := by
  have nb := V.nb
  obtain ⟨r1, r2, r3, r4, r5, r6, r7, r8, r9, r10, r11, r12⟩ := R
  refine ⟨(zx (by decide)).trans r1, (zx (by decide)).trans r2, (zx (by decide)).trans r3, zset_s _ _ _ _, (zset_j (by decide)).trans r5, (zset_j (by decide)).trans r6, (zx (by decide)).trans r7, fun b b0 b1 => ?_, fun i i0 i1 => ?_, fun d d0 d1 => ?_, fun b b0 b1 => ?_, fun i i0 i1 => ?_⟩
  · have b1 : b < pNb p := b1
    rw [zset_k (by decide), zset_k (by decide), zset_k (by omega), zset_k (by decide)]; exact r8 b b0 b1
  · rw [zset_k (by decide), zset_k (by decide)]; exact r9 i i0 i1
  · rw [zset_j (by decide)]; exact r10 d d0 d1
  · rw [zset_j (by decide)]; exact r11 b b0 b1
  · rw [zset_j (by decide)]; exact r12 i i0 i1
theorem WC.cl' {h : zH} {p : Pb} (V : PV p) (R : WC h p) {v : Int} {f : Int → Bool} (hv : ∀ d, 0 ≤ d → d < 7 → bitB v d = f d) : WC (zset h 14 4 v) (wT p 0 f) := by
  have nb := V.nb
  obtain ⟨r1, r2, r3, r4, r5, r6, r7, r8, r9, r10, r11, r12⟩ := R
  refine ⟨(zx (by decide)).trans r1, (zx (by decide)).trans r2, (zx (by decide)).trans r3, (zset_j (by decide)).trans r4, (zset_j (by decide)).trans r5, (zset_j (by decide)).trans r6, (zx (by decide)).trans r7, fun b b0 b1 => ?_, fun i i0 i1 => ?_, fun d d0 d1 => ?_, fun b b0 b1 => ?_, fun i i0 i1 => ?_⟩
  · have b1 : b < pNb p := b1
    rw [zset_k (by decide), zset_k (by decide), zset_k (by omega), zset_k (by decide)]; exact r8 b b0 b1
  · rw [zset_k (by decide), zset_k (by decide)]; exact r9 i i0 i1
  · rw [zset_s]; exact hv d d0 d1
  · rw [zset_j (by decide)]; exact r11 b b0 b1
  · rw [zset_j (by decide)]; exact r12 i i0 i1
theorem WC.in'' {h : zH} {p : Pb} (V : PV p) (R : WC h p) {v : Int} {f : Int → Bool} (hv : ∀ b, 0 ≤ b → b < pNb p → bitB v b = f b) : WC (zset h 14 5 v) (wT p 1 f) := by
  have nb := V.nb
  obtain ⟨r1, r2, r3, r4, r5, r6, r7, r8, r9, r10, r11, r12⟩ := R
  refine ⟨(zx (by decide)).trans r1, (zx (by decide)).trans r2, (zx (by decide)).trans r3, (zset_j (by decide)).trans r4, (zset_j (by decide)).trans r5, (zset_j (by decide)).trans r6, (zx (by decide)).trans r7, fun b b0 b1 => ?_, fun i i0 i1 => ?_, fun d d0 d1 => ?_, fun b b0 b1 => ?_, fun i i0 i1 => ?_⟩
  · have b1 : b < pNb p := b1
    rw [zset_k (by decide), zset_k (by decide), zset_k (by omega), zset_k (by decide)]; exact r8 b b0 b1
  · rw [zset_k (by decide), zset_k (by decide)]; exact r9 i i0 i1
  · rw [zset_j (by decide)]; exact r10 d d0 d1
  · rw [zset_s]; exact hv b b0 b1
  · rw [zset_j (by decide)]; exact r12 i i0 i1
theorem WC.cm' {h : zH} {p : Pb} (V : PV p) (R : WC h p) {v : Int} {f : Int → Bool} (hv : ∀ i, 0 ≤ i → i < pNl p → bitB v i = f i) : WC (zset h 14 6 v) (wT p 2 f) := by
  have nb := V.nb
  obtain ⟨r1, r2, r3, r4, r5, r6, r7, r8, r9, r10, r11, r12⟩ := R
  refine ⟨(zx (by decide)).trans r1, (zx (by decide)).trans r2, (zx (by decide)).trans r3, (zset_j (by decide)).trans r4, (zset_j (by decide)).trans r5, (zset_j (by decide)).trans r6, (zx (by decide)).trans r7, fun b b0 b1 => ?_, fun i i0 i1 => ?_, fun d d0 d1 => ?_, fun b b0 b1 => ?_, fun i i0 i1 => ?_⟩
  · have b1 : b < pNb p := b1
    rw [zset_k (by decide), zset_k (by decide), zset_k (by omega), zset_k (by decide)]; exact r8 b b0 b1
  · rw [zset_k (by decide), zset_k (by decide)]; exact r9 i i0 i1
  · rw [zset_j (by decide)]; exact r10 d d0 d1
  · rw [zset_j (by decide)]; exact r11 b b0 b1
  · rw [zset_s]; exact hv i i0 i1
theorem WC.off' {h h' : zH} {p : Pb} (V : PV p) (R : WC h p) {f : Int → Int} (e : ∀ k j, k ≠ 27 → h' k j = h k j) (hf : ∀ b, 0 ≤ b → b < pNb p → h' 27 b = f b) : WC h' (wO p f) := by
  have nb := V.nb
  obtain ⟨r1, r2, r3, r4, r5, r6, r7, r8, r9, r10, r11, r12⟩ := R
  refine ⟨(e _ _ (by decide)).trans r1, (e _ _ (by decide)).trans r2, (e _ _ (by decide)).trans r3, (e _ _ (by decide)).trans r4, (e _ _ (by decide)).trans r5, (e _ _ (by decide)).trans r6, (e _ _ (by decide)).trans r7, fun b b0 b1 => ?_, fun i i0 i1 => ?_, fun d d0 d1 => ?_, fun b b0 b1 => ?_, fun i i0 i1 => ?_⟩
  · have b1 : b < pNb p := b1
    have r := r8 b b0 b1
    exact ⟨(e _ _ (by decide)).trans r.1, hf b b0 b1, (e _ _ (by omega)).trans r.2.2.1, (e _ _ (by omega)).trans r.2.2.2.1, (e _ _ (by omega)).trans r.2.2.2.2.1, (e _ _ (by decide)).trans r.2.2.2.2.2.1, (e _ _ (by omega)).trans r.2.2.2.2.2.2⟩
  · rw [e _ _ (by decide), e _ _ (by decide)]; exact r9 i i0 i1
  · rw [e _ _ (by decide)]; exact r10 d d0 d1
  · rw [e _ _ (by decide)]; exact r11 b b0 b1
  · rw [e _ _ (by decide)]; exact r12 i i0 i1
theorem PV.law' {p : Pb} (V : PV p) {v : Int} (h0 : 0 ≤ v) (h1 : v ≤ 3) : PV (wS p 4 v) := ⟨V.1, V.2.1, V.2.2.1, V.2.2.2.1, ⟨h0, h1⟩, V.2.2.2.2.2.1, V.2.2.2.2.2.2.1, V.2.2.2.2.2.2.2.1, V.2.2.2.2.2.2.2.2⟩
theorem PV.cash' {p : Pb} (V : PV p) {v : Int} (h0 : 0 ≤ v) (h1 : v ≤ 9999) : PV (wS p 5 v) := ⟨V.1, V.2.1, V.2.2.1, V.2.2.2.1, V.2.2.2.2.1, ⟨h0, h1⟩, V.2.2.2.2.2.2.1, V.2.2.2.2.2.2.2.1, V.2.2.2.2.2.2.2.2⟩
theorem PV.fl' {p : Pb} (V : PV p) {v : Int} (h0 : 0 ≤ v) (h1 : v ≤ 5000) : PV (wS p 3 v) := ⟨V.1, V.2.1, V.2.2.1, ⟨h0, h1⟩, V.2.2.2.2.1, V.2.2.2.2.2.1, V.2.2.2.2.2.2.1, V.2.2.2.2.2.2.2.1, V.2.2.2.2.2.2.2.2⟩
theorem PV.set' {p : Pb} (V : PV p) (k : Int) (f : Int → Bool) : PV (wT p k f) := ⟨V.1, V.2.1, V.2.2.1, V.2.2.2.1, V.2.2.2.2.1, V.2.2.2.2.2.1, V.2.2.2.2.2.2.1, V.2.2.2.2.2.2.2.1, V.2.2.2.2.2.2.2.2⟩
theorem PV.off' {p : Pb} (V : PV p) {f : Int → Int} (hf : ∀ b, 0 ≤ b → b < pNb p → 0 ≤ f b ∧ f b ≤ 25) : PV (wO p f) := ⟨V.1, V.2.1, V.2.2.1, V.2.2.2.1, V.2.2.2.2.1, V.2.2.2.2.2.1, V.2.2.2.2.2.2.1, fun b b0 b1 => by
  have r := V.2.2.2.2.2.2.2.1 b b0 b1
  exact ⟨r.1, hf b b0 b1, r.2.2⟩, V.2.2.2.2.2.2.2.2⟩
/-- the week laid by law -/
def Ln (h : zH) (p : Pb) : Prop := WC h p ∧ PlC h p (planP p) ∧ OrdC h (ordP p) ∧ h 14 14 = missP p
abbrev sBy : Int → Int → Prop := fun k _ => k = 14 ∨ (26 ≤ k ∧ k ≤ 31)
theorem or_bit7 {x b : Int} (h0 : 0 ≤ x) (h1 : x < 128) (b0 : 0 ≤ b) (b1 : b < 7) {d : Int} (d0 : 0 ≤ d) (d1 : d < 7) : bitB (zOr x (zShl 1 b)) d = (bitB x d || decide (d = b)) := by
  obtain ⟨y, rfl⟩ := Int.eq_ofNat_of_zero_le h0
  obtain ⟨c, rfl⟩ := Int.eq_ofNat_of_zero_le b0
  obtain ⟨n, rfl⟩ := Int.eq_ofNat_of_zero_le d0
  obtain ⟨w, y1, y2, y3⟩ := orN (x := y) (b := c) (m := 7) (by omega) (by omega) (by omega)
  rw [y1, y3 n (by omega)]
  congr 1
  apply Bool.eq_iff_iff.mpr
  rw [decide_eq_true_eq, decide_eq_true_eq]
  omega
theorem c_isThere {d : Nat} {h : zH} {D : Dk} (R : DC h 15 D) : zPI d mX9_isThere [zA 0] h (d2i (0 < D 0 0)) := by
  refine zmet rfl rfl rfl ?_
  refine zS_aload_n (zdec eX9_isThere 0 rfl) rfl rfl ?_
  refine zS_getref (i := 2) (zdec eX9_isThere 1 rfl) kF_X9_27 ⟨by decide, rfl⟩ rfl rfl rfl rfl rfl ?_
  refine zS_getfieldE (x := 0) (v := (D 0 0)) (zdec eX9_isThere 2 rfl) kF_X9_102 ⟨by decide, rfl⟩ rfl rfl rfl (R.s (by decide) (by decide)) ?_
  refine zS_if_le (tgt := 14) (zdec eX9_isThere 3 rfl) rfl (fun c1 => ?_) (fun c1 => ?_)
  · refine zS_iconst (zdec eX9_isThere 6 rfl) rfl ?_
    exact zlZ (zdec eX9_isThere 7 rfl) rfl (Or.inl rfl) (by rw [d2i_f (by omega)])
  · refine zS_iconst (zdec eX9_isThere 4 rfl) rfl ?_
    refine zS_goto (tgt := 15) (zdec eX9_isThere 5 rfl) rfl ?_
    exact zlZ (zdec eX9_isThere 7 rfl) rfl (Or.inr rfl) (by rw [d2i_t (by omega)])
theorem c_isDay {d : Nat} {h : zH} {D : Dk} {x : Int} (R : DC h 15 D) : zPI d mX9_isDay [zA 0, zI x] h (d2i (0 ≤ x ∧ x < D 0 1)) := by
  refine zmet rfl rfl rfl ?_
  refine zS_iload_n (zdec eX9_isDay 0 rfl) rfl ?_
  refine zS_if_lt (tgt := 19) (zdec eX9_isDay 1 rfl) rfl (fun c1 => ?_) (fun c1 => ?_)
  · refine zS_iconst (zdec eX9_isDay 9 rfl) rfl ?_
    exact zlZ (zdec eX9_isDay 10 rfl) rfl (Or.inl rfl) (by rw [d2i_f (by omega)])
  · refine zS_iload_n (zdec eX9_isDay 2 rfl) rfl ?_
    refine zS_aload_n (zdec eX9_isDay 3 rfl) rfl rfl ?_
    refine zS_getref (i := 2) (zdec eX9_isDay 4 rfl) kF_X9_27 ⟨by decide, rfl⟩ rfl rfl rfl rfl rfl ?_
    refine zS_getfieldE (x := 1) (v := (D 0 1)) (zdec eX9_isDay 5 rfl) kF_X9_127 ⟨by decide, rfl⟩ rfl rfl rfl (R.s (by decide) (by decide)) ?_
    refine zS_icmp_ge (tgt := 19) (zdec eX9_isDay 6 rfl) rfl (fun c2 => ?_) (fun c2 => ?_)
    · refine zS_iconst (zdec eX9_isDay 9 rfl) rfl ?_
      exact zlZ (zdec eX9_isDay 10 rfl) rfl (Or.inl rfl) (by rw [d2i_f (by omega)])
    · refine zS_iconst (zdec eX9_isDay 7 rfl) rfl ?_
      refine zS_goto (tgt := 20) (zdec eX9_isDay 8 rfl) rfl ?_
      exact zlZ (zdec eX9_isDay 10 rfl) rfl (Or.inr rfl) (by rw [d2i_t (by omega)])
theorem c_isBill {d : Nat} {h : zH} {D : Dk} {x : Int} (R : DC h 15 D) : zPI d mX9_isBill [zA 0, zI x] h (d2i (0 ≤ x ∧ x < D 0 8)) := by
  refine zmet rfl rfl rfl ?_
  refine zS_iload_n (zdec eX9_isBill 0 rfl) rfl ?_
  refine zS_if_lt (tgt := 19) (zdec eX9_isBill 1 rfl) rfl (fun c1 => ?_) (fun c1 => ?_)
  · refine zS_iconst (zdec eX9_isBill 9 rfl) rfl ?_
    exact zlZ (zdec eX9_isBill 10 rfl) rfl (Or.inl rfl) (by rw [d2i_f (by omega)])
  · refine zS_iload_n (zdec eX9_isBill 2 rfl) rfl ?_
    refine zS_aload_n (zdec eX9_isBill 3 rfl) rfl rfl ?_
    refine zS_getref (i := 2) (zdec eX9_isBill 4 rfl) kF_X9_27 ⟨by decide, rfl⟩ rfl rfl rfl rfl rfl ?_
    refine zS_getfieldE (x := 8) (v := (D 0 8)) (zdec eX9_isBill 5 rfl) kF_X9_202 ⟨by decide, rfl⟩ rfl rfl rfl (R.s (by decide) (by decide)) ?_
    refine zS_icmp_ge (tgt := 19) (zdec eX9_isBill 6 rfl) rfl (fun c2 => ?_) (fun c2 => ?_)
    · refine zS_iconst (zdec eX9_isBill 9 rfl) rfl ?_
      exact zlZ (zdec eX9_isBill 10 rfl) rfl (Or.inl rfl) (by rw [d2i_f (by omega)])
    · refine zS_iconst (zdec eX9_isBill 7 rfl) rfl ?_
      refine zS_goto (tgt := 20) (zdec eX9_isBill 8 rfl) rfl ?_
      exact zlZ (zdec eX9_isBill 10 rfl) rfl (Or.inr rfl) (by rw [d2i_t (by omega)])
theorem c_isSup {d : Nat} {h : zH} {D : Dk} {x : Int} (R : DC h 15 D) : zPI d mX9_isSupplier [zA 0, zI x] h (d2i (0 ≤ x ∧ x < D 0 7)) := by
  refine zmet rfl rfl rfl ?_
  refine zS_iload_n (zdec eX9_isSupplier 0 rfl) rfl ?_
  refine zS_if_lt (tgt := 19) (zdec eX9_isSupplier 1 rfl) rfl (fun c1 => ?_) (fun c1 => ?_)
  · refine zS_iconst (zdec eX9_isSupplier 9 rfl) rfl ?_
    exact zlZ (zdec eX9_isSupplier 10 rfl) rfl (Or.inl rfl) (by rw [d2i_f (by omega)])
  · refine zS_iload_n (zdec eX9_isSupplier 2 rfl) rfl ?_
    refine zS_aload_n (zdec eX9_isSupplier 3 rfl) rfl rfl ?_
    refine zS_getref (i := 2) (zdec eX9_isSupplier 4 rfl) kF_X9_27 ⟨by decide, rfl⟩ rfl rfl rfl rfl rfl ?_
    refine zS_getfieldE (x := 7) (v := (D 0 7)) (zdec eX9_isSupplier 5 rfl) kF_X9_223 ⟨by decide, rfl⟩ rfl rfl rfl (R.s (by decide) (by decide)) ?_
    refine zS_icmp_ge (tgt := 19) (zdec eX9_isSupplier 6 rfl) rfl (fun c2 => ?_) (fun c2 => ?_)
    · refine zS_iconst (zdec eX9_isSupplier 9 rfl) rfl ?_
      exact zlZ (zdec eX9_isSupplier 10 rfl) rfl (Or.inl rfl) (by rw [d2i_f (by omega)])
    · refine zS_iconst (zdec eX9_isSupplier 7 rfl) rfl ?_
      refine zS_goto (tgt := 20) (zdec eX9_isSupplier 8 rfl) rfl ?_
      exact zlZ (zdec eX9_isSupplier 10 rfl) rfl (Or.inr rfl) (by rw [d2i_t (by omega)])
theorem c_arePl {d : Nat} {h : zH} {D : Dk} {x y : Int} (hd : 1 ≤ d) (R : DC h 15 D) : zPI d mX9_arePlayers [zA 0, zI x, zI y] h (d2i ((0 ≤ x ∧ x < D 0 7) ∧ (0 ≤ y ∧ y < D 0 7) ∧ x ≠ y)) := by
  refine zmet rfl rfl rfl ?_
  refine zS_aload_n (zdec eX9_arePlayers 0 rfl) rfl rfl ?_
  refine zS_iload_n (zdec eX9_arePlayers 1 rfl) rfl ?_
  refine zvI (M' := mX9_isSupplier) (As := [zI x]) (st := []) (zdec eX9_arePlayers 2 rfl) kM_X9_108 kV_X9_isSupplier ⟨by decide, rfl⟩ rfl rfl rfl rfl rfl (by omega) (c_isSup R) ?_
  refine zS_if_eq (tgt := 25) (zdec eX9_arePlayers 3 rfl) rfl (fun c1 => ?_) (fun c1 => ?_)
  · have z1 := d2i_0.mp c1
    refine zS_iconst (zdec eX9_arePlayers 13 rfl) rfl ?_
    exact zlZ (zdec eX9_arePlayers 14 rfl) rfl (Or.inl rfl) (by rw [d2i_f (by omega)])
  · have z1 := d2i_n.mp c1
    refine zS_aload_n (zdec eX9_arePlayers 4 rfl) rfl rfl ?_
    refine zS_iload_n (zdec eX9_arePlayers 5 rfl) rfl ?_
    refine zvI (M' := mX9_isSupplier) (As := [zI y]) (st := []) (zdec eX9_arePlayers 6 rfl) kM_X9_108 kV_X9_isSupplier ⟨by decide, rfl⟩ rfl rfl rfl rfl rfl (by omega) (c_isSup R) ?_
    refine zS_if_eq (tgt := 25) (zdec eX9_arePlayers 7 rfl) rfl (fun c2 => ?_) (fun c2 => ?_)
    · have z2 := d2i_0.mp c2
      refine zS_iconst (zdec eX9_arePlayers 13 rfl) rfl ?_
      exact zlZ (zdec eX9_arePlayers 14 rfl) rfl (Or.inl rfl) (by rw [d2i_f (by omega)])
    · have z2 := d2i_n.mp c2
      refine zS_iload_n (zdec eX9_arePlayers 8 rfl) rfl ?_
      refine zS_iload_n (zdec eX9_arePlayers 9 rfl) rfl ?_
      refine zS_icmp_eq (tgt := 25) (zdec eX9_arePlayers 10 rfl) rfl (fun c3 => ?_) (fun c3 => ?_)
      · refine zS_iconst (zdec eX9_arePlayers 13 rfl) rfl ?_
        exact zlZ (zdec eX9_arePlayers 14 rfl) rfl (Or.inl rfl) (by rw [d2i_f (by omega)])
      · refine zS_iconst (zdec eX9_arePlayers 11 rfl) rfl ?_
        refine zS_goto (tgt := 26) (zdec eX9_arePlayers 12 rfl) rfl ?_
        exact zlZ (zdec eX9_arePlayers 14 rfl) rfl (Or.inr rfl) (by rw [d2i_t (by omega)])
theorem c_isPart {d : Nat} {h : zH} {x : Int} : zPI d mX9_isPart [zI x] h (d2i (x = 0 ∨ x = 1)) := by
  refine zmet rfl rfl rfl ?_
  refine zS_iload_n (zdec eX9_isPart 0 rfl) rfl ?_
  refine zS_if_eq (tgt := 9) (zdec eX9_isPart 1 rfl) rfl (fun c1 => ?_) (fun c1 => ?_)
  · refine zS_iconst (zdec eX9_isPart 5 rfl) rfl ?_
    refine zS_goto (tgt := 14) (zdec eX9_isPart 6 rfl) rfl ?_
    exact zlZ (zdec eX9_isPart 8 rfl) rfl (Or.inr rfl) (by rw [d2i_t (by omega)])
  · refine zS_iload_n (zdec eX9_isPart 2 rfl) rfl ?_
    refine zS_iconst (zdec eX9_isPart 3 rfl) rfl ?_
    refine zS_icmp_ne (tgt := 13) (zdec eX9_isPart 4 rfl) rfl (fun c2 => ?_) (fun c2 => ?_)
    · refine zS_iconst (zdec eX9_isPart 7 rfl) rfl ?_
      exact zlZ (zdec eX9_isPart 8 rfl) rfl (Or.inl rfl) (by rw [d2i_f (by omega)])
    · refine zS_iconst (zdec eX9_isPart 5 rfl) rfl ?_
      refine zS_goto (tgt := 14) (zdec eX9_isPart 6 rfl) rfl ?_
      exact zlZ (zdec eX9_isPart 8 rfl) rfl (Or.inr rfl) (by rw [d2i_t (by omega)])
theorem c_isChoice {d : Nat} {h : zH} {x : Int} : zPI d mX9_isChoice [zI x] h (d2i (x = 0 ∨ x = 1)) := by
  refine zmet rfl rfl rfl ?_
  refine zS_iload_n (zdec eX9_isChoice 0 rfl) rfl ?_
  refine zS_if_eq (tgt := 9) (zdec eX9_isChoice 1 rfl) rfl (fun c1 => ?_) (fun c1 => ?_)
  · refine zS_iconst (zdec eX9_isChoice 5 rfl) rfl ?_
    refine zS_goto (tgt := 14) (zdec eX9_isChoice 6 rfl) rfl ?_
    exact zlZ (zdec eX9_isChoice 8 rfl) rfl (Or.inr rfl) (by rw [d2i_t (by omega)])
  · refine zS_iload_n (zdec eX9_isChoice 2 rfl) rfl ?_
    refine zS_iconst (zdec eX9_isChoice 3 rfl) rfl ?_
    refine zS_icmp_ne (tgt := 13) (zdec eX9_isChoice 4 rfl) rfl (fun c2 => ?_) (fun c2 => ?_)
    · refine zS_iconst (zdec eX9_isChoice 7 rfl) rfl ?_
      exact zlZ (zdec eX9_isChoice 8 rfl) rfl (Or.inl rfl) (by rw [d2i_f (by omega)])
    · refine zS_iconst (zdec eX9_isChoice 5 rfl) rfl ?_
      refine zS_goto (tgt := 14) (zdec eX9_isChoice 6 rfl) rfl ?_
      exact zlZ (zdec eX9_isChoice 8 rfl) rfl (Or.inr rfl) (by rw [d2i_t (by omega)])
theorem c_isSeed {d : Nat} {h : zH} {x : Int} : zPI d mX9_isSeed [zI x] h (d2i (0 ≤ x ∧ x ≤ 2000000000)) := by
  refine zmet rfl rfl rfl ?_
  refine zS_iload_n (zdec eX9_isSeed 0 rfl) rfl ?_
  refine zS_if_lt (tgt := 15) (zdec eX9_isSeed 1 rfl) rfl (fun c1 => ?_) (fun c1 => ?_)
  · refine zS_iconst (zdec eX9_isSeed 7 rfl) rfl ?_
    exact zlZ (zdec eX9_isSeed 8 rfl) rfl (Or.inl rfl) (by rw [d2i_f (by omega)])
  · refine zS_iload_n (zdec eX9_isSeed 2 rfl) rfl ?_
    refine zS_ldc_w (zdec eX9_isSeed 3 rfl) kc_X9_419 rfl ?_
    refine zS_icmp_gt (tgt := 15) (zdec eX9_isSeed 4 rfl) rfl (fun c2 => ?_) (fun c2 => ?_)
    · refine zS_iconst (zdec eX9_isSeed 7 rfl) rfl ?_
      exact zlZ (zdec eX9_isSeed 8 rfl) rfl (Or.inl rfl) (by rw [d2i_f (by omega)])
    · refine zS_iconst (zdec eX9_isSeed 5 rfl) rfl ?_
      refine zS_goto (tgt := 16) (zdec eX9_isSeed 6 rfl) rfl ?_
      exact zlZ (zdec eX9_isSeed 8 rfl) rfl (Or.inr rfl) (by rw [d2i_t (by omega)])
theorem c_byLaw {d : Nat} {h : zH} {D : Dk} (hd : 5 ≤ d) (V : DV D) (hd0 : 0 < D 0 0) (R : DC h 15 D) : zMA d mX9_byLaw [zA 0] h 14 (fun h' => Ln h' (pb0 D) ∧ Fr sBy h h') := by
  refine zmet rfl rfl rfl ?_
  refine zS_aload_n (zdec eX9_byLaw 0 rfl) rfl rfl ?_
  refine zS_getref (i := 1) (zdec eX9_byLaw 1 rfl) kF_X9_19 ⟨by decide, rfl⟩ rfl rfl rfl rfl rfl ?_
  refine zvMV (M' := mX8_asTold) (As := []) (st := []) (zdec eX9_byLaw 2 rfl) kM_X9_130 kV_X8_asTold ⟨by decide, rfl⟩ rfl rfl rfl rfl rfl (by omega) (c_asTold (by omega) hd0 V R) (fun h2 ⟨W2, cl2, f2⟩ => ?_)
  have PV2 := pb0_V V hd0
  have dy := V.days
  have nb := V.nb
  have na := V.na
  have ci := clI_is V (k := D 0 10) na.1 (by omega)
  refine zS_aload_n (zdec eX9_byLaw 3 rfl) rfl rfl ?_
  refine zS_getref (i := 1) (zdec eX9_byLaw 4 rfl) kF_X9_19 ⟨by decide, rfl⟩ rfl rfl rfl rfl rfl ?_
  refine zvMV (M' := mX8_planByLaw) (As := []) (st := []) (zdec eX9_byLaw 5 rfl) kM_X9_271 kV_X8_planByLaw ⟨by decide, rfl⟩ rfl rfl rfl rfl rfl (by omega) (c_planByLaw (by omega) PV2 W2) (fun h3 ⟨S3, O3, m3, f3⟩ => ?_)
  have W3 := W2.fr PV2 f3 (fun k j z => by unfold wcP; omega)
  refine zS_aload_n (zdec eX9_byLaw 6 rfl) rfl rfl ?_
  refine zS_getref (i := 1) (zdec eX9_byLaw 7 rfl) kF_X9_19 ⟨by decide, rfl⟩ rfl rfl rfl rfl rfl ?_
  exact zlMA (zdec eX9_byLaw 8 rfl) rfl (by decide) ⟨⟨W3, S3, O3, m3⟩, f2.tr f3 (fun k j z => by omega) (fun k j z => by omega)⟩
theorem c_otherLaw {d : Nat} {h : zH} {D : Dk} {v : Int} (hd : 5 ≤ d) (V : DV D) (hd0 : 0 < D 0 0) (R : DC h 15 D) (v0 : 0 ≤ v) (v1 : v ≤ 3) : zMV d mX9_planByOtherLaw [zA 0, zI v] h (fun h' => Ln h' (wS (pb0 D) 4 v) ∧ Fr sBy h h') := by
  refine zmet rfl rfl rfl ?_
  refine zS_aload_n (zdec eX9_planByOtherLaw 0 rfl) rfl rfl ?_
  refine zS_getref (i := 1) (zdec eX9_planByOtherLaw 1 rfl) kF_X9_19 ⟨by decide, rfl⟩ rfl rfl rfl rfl rfl ?_
  refine zvMV (M' := mX8_asTold) (As := []) (st := []) (zdec eX9_planByOtherLaw 2 rfl) kM_X9_130 kV_X8_asTold ⟨by decide, rfl⟩ rfl rfl rfl rfl rfl (by omega) (c_asTold (by omega) hd0 V R) (fun h2 ⟨W2, cl2, f2⟩ => ?_)
  have PV2 := pb0_V V hd0
  have dy := V.days
  have nb := V.nb
  have na := V.na
  have ci := clI_is V (k := D 0 10) na.1 (by omega)
  refine zS_aload_n (zdec eX9_planByOtherLaw 3 rfl) rfl rfl ?_
  refine zS_getref (i := 1) (zdec eX9_planByOtherLaw 4 rfl) kF_X9_19 ⟨by decide, rfl⟩ rfl rfl rfl rfl rfl ?_
  refine zS_iload_n (zdec eX9_planByOtherLaw 5 rfl) rfl ?_
  refine zS_putfield (x := 1) (zdec eX9_planByOtherLaw 6 rfl) kF_X9_420 (Or.inl kf8_1) ⟨by decide, rfl⟩ rfl rfl rfl (Or.inl (fun q => by cases q)) ?_
  refine zS_aload_n (zdec eX9_planByOtherLaw 7 rfl) rfl rfl ?_
  refine zS_getref (i := 1) (zdec eX9_planByOtherLaw 8 rfl) kF_X9_19 ⟨by decide, rfl⟩ rfl rfl rfl rfl rfl ?_
  refine zvMV (M' := mX8_planByLaw) (As := []) (st := []) (zdec eX9_planByOtherLaw 9 rfl) kM_X9_271 kV_X8_planByLaw ⟨by decide, rfl⟩ rfl rfl rfl rfl rfl (by omega) (c_planByLaw (by omega) (PV2.law' (v := v) (by omega) (by omega)) (W2.law' PV2 v)) (fun h3 ⟨S3, O3, m3, f3⟩ => ?_)
  have W3 := (W2.law' PV2 v).fr (PV2.law' (v := v) (by omega) (by omega)) f3 (fun k j z => by unfold wcP; omega)
  exact zlMV (zdec eX9_planByOtherLaw 10 rfl) rfl ⟨⟨W3, S3, O3, m3⟩, (f2.tr (Fr.rf.set (by omega) : Fr sBy h2 (zset h2 14 1 v)) (S'' := sBy) (fun k j z => by omega) (fun k j z => z)).tr f3 (fun k j z => z) (fun k j z => by omega)⟩
theorem c_withClosed {d : Nat} {h : zH} {D : Dk} {v : Int} (hd : 5 ≤ d) (V : DV D) (hd0 : 0 < D 0 0) (R : DC h 15 D) (v0 : 0 ≤ v) (v1 : v < D 0 1) : zMV d mX9_planWithClosed [zA 0, zI v] h (fun h' => Ln h' (wT (pb0 D) 0 (fun x => clD D x || decide (x = v))) ∧ Fr sBy h h') := by
  refine zmet rfl rfl rfl ?_
  refine zS_aload_n (zdec eX9_planWithClosed 0 rfl) rfl rfl ?_
  refine zS_getref (i := 1) (zdec eX9_planWithClosed 1 rfl) kF_X9_19 ⟨by decide, rfl⟩ rfl rfl rfl rfl rfl ?_
  refine zvMV (M' := mX8_asTold) (As := []) (st := []) (zdec eX9_planWithClosed 2 rfl) kM_X9_130 kV_X8_asTold ⟨by decide, rfl⟩ rfl rfl rfl rfl rfl (by omega) (c_asTold (by omega) hd0 V R) (fun h2 ⟨W2, cl2, f2⟩ => ?_)
  have PV2 := pb0_V V hd0
  have dy := V.days
  have nb := V.nb
  have na := V.na
  have ci := clI_is V (k := D 0 10) na.1 (by omega)
  refine zS_aload_n (zdec eX9_planWithClosed 3 rfl) rfl rfl ?_
  refine zS_getref (i := 1) (zdec eX9_planWithClosed 4 rfl) kF_X9_19 ⟨by decide, rfl⟩ rfl rfl rfl rfl rfl ?_
  refine zS_dup (zdec eX9_planWithClosed 5 rfl) (fun q => by cases q) ?_
  refine zS_getfieldE (x := 4) (v := (clI D (D 0 10))) (zdec eX9_planWithClosed 6 rfl) kF_X9_421 ⟨by decide, rfl⟩ rfl rfl rfl cl2 ?_
  refine zS_iconst (zdec eX9_planWithClosed 7 rfl) rfl ?_
  refine zS_iload_n (zdec eX9_planWithClosed 8 rfl) rfl ?_
  refine zS_ishl (zdec eX9_planWithClosed 9 rfl) ?_
  refine zS_ior (zdec eX9_planWithClosed 10 rfl) ?_
  refine zS_putfield (x := 4) (zdec eX9_planWithClosed 11 rfl) kF_X9_421 (Or.inl kf8_4) ⟨by decide, rfl⟩ rfl rfl rfl (Or.inl (fun q => by cases q)) ?_
  refine zS_aload_n (zdec eX9_planWithClosed 12 rfl) rfl rfl ?_
  refine zS_getref (i := 1) (zdec eX9_planWithClosed 13 rfl) kF_X9_19 ⟨by decide, rfl⟩ rfl rfl rfl rfl rfl ?_
  refine zvMV (M' := mX8_planByLaw) (As := []) (st := []) (zdec eX9_planWithClosed 14 rfl) kM_X9_271 kV_X8_planByLaw ⟨by decide, rfl⟩ rfl rfl rfl rfl rfl (by omega) (c_planByLaw (by omega) (PV2.set' 0 (fun x => clD D x || decide (x = v))) (W2.cl' (f := fun x => clD D x || decide (x = v)) PV2 (fun x x0 x1 => by rw [or_bit7 ci.1.1 ci.1.2 (by omega) (by omega) x0 x1, ci.2 x x0 (by omega)]; rfl))) (fun h3 ⟨S3, O3, m3, f3⟩ => ?_)
  have W3 := (W2.cl' (f := fun x => clD D x || decide (x = v)) PV2 (fun x x0 x1 => by rw [or_bit7 ci.1.1 ci.1.2 (by omega) (by omega) x0 x1, ci.2 x x0 (by omega)]; rfl)).fr (PV2.set' 0 (fun x => clD D x || decide (x = v))) f3 (fun k j z => by unfold wcP; omega)
  exact zlMV (zdec eX9_planWithClosed 15 rfl) rfl ⟨⟨W3, S3, O3, m3⟩, (f2.tr (Fr.rf.set (by omega) : Fr sBy h2 (zset h2 14 4 (zOr (clI D (D 0 10)) (zShl 1 v)))) (S'' := sBy) (fun k j z => by omega) (fun k j z => z)).tr f3 (fun k j z => z) (fun k j z => by omega)⟩
theorem c_withIncomes {d : Nat} {h : zH} {D : Dk} {v : Int} (hd : 5 ≤ d) (V : DV D) (hd0 : 0 < D 0 0) (R : DC h 15 D) : zMV d mX9_planWithIncomes [zA 0, zI v] h (fun h' => Ln h' (wT (pb0 D) 2 (bitB v)) ∧ Fr sBy h h') := by
  refine zmet rfl rfl rfl ?_
  refine zS_aload_n (zdec eX9_planWithIncomes 0 rfl) rfl rfl ?_
  refine zS_getref (i := 1) (zdec eX9_planWithIncomes 1 rfl) kF_X9_19 ⟨by decide, rfl⟩ rfl rfl rfl rfl rfl ?_
  refine zvMV (M' := mX8_asTold) (As := []) (st := []) (zdec eX9_planWithIncomes 2 rfl) kM_X9_130 kV_X8_asTold ⟨by decide, rfl⟩ rfl rfl rfl rfl rfl (by omega) (c_asTold (by omega) hd0 V R) (fun h2 ⟨W2, cl2, f2⟩ => ?_)
  have PV2 := pb0_V V hd0
  have dy := V.days
  have nb := V.nb
  have na := V.na
  have ci := clI_is V (k := D 0 10) na.1 (by omega)
  refine zS_aload_n (zdec eX9_planWithIncomes 3 rfl) rfl rfl ?_
  refine zS_getref (i := 1) (zdec eX9_planWithIncomes 4 rfl) kF_X9_19 ⟨by decide, rfl⟩ rfl rfl rfl rfl rfl ?_
  refine zS_iload_n (zdec eX9_planWithIncomes 5 rfl) rfl ?_
  refine zS_putfield (x := 6) (zdec eX9_planWithIncomes 6 rfl) kF_X9_423 (Or.inl kf8_6) ⟨by decide, rfl⟩ rfl rfl rfl (Or.inl (fun q => by cases q)) ?_
  refine zS_aload_n (zdec eX9_planWithIncomes 7 rfl) rfl rfl ?_
  refine zS_getref (i := 1) (zdec eX9_planWithIncomes 8 rfl) kF_X9_19 ⟨by decide, rfl⟩ rfl rfl rfl rfl rfl ?_
  refine zvMV (M' := mX8_planByLaw) (As := []) (st := []) (zdec eX9_planWithIncomes 9 rfl) kM_X9_271 kV_X8_planByLaw ⟨by decide, rfl⟩ rfl rfl rfl rfl rfl (by omega) (c_planByLaw (by omega) (PV2.set' 2 (bitB v)) (W2.cm' (f := bitB v) PV2 (fun _ _ _ => rfl))) (fun h3 ⟨S3, O3, m3, f3⟩ => ?_)
  have W3 := (W2.cm' (f := bitB v) PV2 (fun _ _ _ => rfl)).fr (PV2.set' 2 (bitB v)) f3 (fun k j z => by unfold wcP; omega)
  exact zlMV (zdec eX9_planWithIncomes 10 rfl) rfl ⟨⟨W3, S3, O3, m3⟩, (f2.tr (Fr.rf.set (by omega) : Fr sBy h2 (zset h2 14 6 v)) (S'' := sBy) (fun k j z => by omega) (fun k j z => z)).tr f3 (fun k j z => z) (fun k j z => by omega)⟩

/-! ROWS: W 0 s the size (-1: none), W 1 s the width, W (2 + s) i the numbers -/
abbrev Rw : Type := Int → Int → Int
def RC (h : zH) (W : Rw) : Prop := ∀ s, 0 ≤ s → s < 4 → h 73 s = W 0 s ∧ (W 0 s ≠ -1 → h 74 s = W 1 s) ∧ ∀ i, 0 ≤ i → i < W 0 s → h (69 + s) i = W (2 + s) i
def RV (W : Rw) : Prop := ∀ s, 0 ≤ s → s < 4 → (-1 ≤ W 0 s ∧ W 0 s ≤ 60) ∧ (W 0 s ≠ -1 → 0 ≤ W 1 s ∧ W 1 s ≤ 3)
section Rwa
variable {h h' : zH} {W : Rw}
theorem RC.sz (R : RC h W) {s : Int} (h0 : 0 ≤ s) (h1 : s < 4) : h 73 s = W 0 s := (R s h0 h1).1
theorem RC.wd (R : RC h W) {s : Int} (h0 : 0 ≤ s) (h1 : s < 4) (h2 : W 0 s ≠ -1) : h 74 s = W 1 s := (R s h0 h1).2.1 h2
theorem RC.nm (R : RC h W) {s i : Int} (h0 : 0 ≤ s) (h1 : s < 4) (g0 : 0 ≤ i) (g1 : i < W 0 s) : h (69 + s) i = W (2 + s) i := (R s h0 h1).2.2 i g0 g1
theorem RC.of (R : RC h W) (e : ∀ k j, 69 ≤ k → k ≤ 74 → h' k j = h k j) : RC h' W := fun s s0 s1 =>
  ⟨(e _ _ (by omega) (by omega)).trans (R.sz s0 s1), fun z => (e _ _ (by omega) (by omega)).trans (R.wd s0 s1 z), fun i i0 i1 => (e _ _ (by omega) (by omega)).trans (R.nm s0 s1 i0 i1)⟩
theorem RC.fr {S : Int → Int → Prop} (R : RC h W) (f : Fr S h h') (hn : ∀ k j, S k j → ¬ (69 ≤ k ∧ k ≤ 74)) : RC h' W := R.of (fun k j a b => f k j (fun z => hn k j z ⟨a, b⟩))
theorem RV.sz (V : RV W) {s : Int} (h0 : 0 ≤ s) (h1 : s < 4) : -1 ≤ W 0 s ∧ W 0 s ≤ 60 := (V s h0 h1).1
theorem RV.wd (V : RV W) {s : Int} (h0 : 0 ≤ s) (h1 : s < 4) (h2 : W 0 s ≠ -1) : 0 ≤ W 1 s ∧ W 1 s ≤ 3 := (V s h0 h1).2 h2
end Rwa
theorem zL2I_id {a : Int} (h0 : -2147483648 ≤ a) (h1 : a < 2147483648) : zL2I a = a := by
  unfold zL2I
  rw [Int64.toInt32_ofInt]
  exact zI_toInt ⟨h0, h1⟩
def badR (D : Dk) (W : Rw) (x i : Int) : Bool := decide (W (2 + x) i < -1 ∨ D 0 1 ≤ W (2 + x) i)
def rfP (D : Dk) (W : Rw) (x : Int) : Int := if ¬ ((0 ≤ x ∧ x < 4) ∧ 0 < D 0 0) then -2 else if W 0 x = -1 then -6 else if W 0 x ≠ D 0 8 then -2 else if anyI (badR D W x) (D 0 8) then -2 else 0
def roQ (D : Dk) (W : Rw) (x e : Int) : Int → Int := fun b => if 0 ≤ b ∧ b < e ∧ 0 ≤ W (2 + x) b ∧ W (2 + x) b < D 0 1 then W (2 + x) b else D 0 1
theorem roQ_rng {D : Dk} (VD : DV D) (W : Rw) (x e b : Int) : 0 ≤ roQ D W x e b ∧ roQ D W x e b ≤ D 0 1 := by
  have := VD.days
  unfold roQ
  split <;> omega
theorem roQ_t {D : Dk} {W : Rw} {x e : Int} (h0 : 0 ≤ e) (h : 0 ≤ W (2 + x) e ∧ W (2 + x) e < D 0 1) : updI (roQ D W x e) e (W (2 + x) e) = roQ D W x (e + 1) := by
  funext b
  unfold updI roQ
  by_cases w : b = e
  · subst w
    rw [if_pos rfl, if_pos ⟨h0, by omega, h.1, h.2⟩]
  · rw [if_neg w]
    by_cases z : 0 ≤ b ∧ b < e ∧ 0 ≤ W (2 + x) b ∧ W (2 + x) b < D 0 1
    · rw [if_pos z, if_pos ⟨z.1, by omega, z.2.2.1, z.2.2.2⟩]
    · rw [if_neg z, if_neg (fun y => z ⟨y.1, by omega, y.2.2.1, y.2.2.2⟩)]
theorem roQ_f {D : Dk} {W : Rw} {x e : Int} (h : ¬ (0 ≤ W (2 + x) e ∧ W (2 + x) e < D 0 1)) : roQ D W x e = roQ D W x (e + 1) := by
  funext b
  unfold roQ
  by_cases w : b = e
  · subst w
    rw [if_neg (by omega), if_neg (fun y => h ⟨y.2.2.1, y.2.2.2⟩)]
  · by_cases z : 0 ≤ b ∧ b < e ∧ 0 ≤ W (2 + x) b ∧ W (2 + x) b < D 0 1
    · rw [if_pos z, if_pos ⟨z.1, by omega, z.2.2.1, z.2.2.2⟩]
    · rw [if_neg z, if_neg (fun y => z ⟨y.1, by omega, y.2.2.1, y.2.2.2⟩)]
theorem roQ_0 (D : Dk) (W : Rw) (x : Int) : roQ D W x 0 = fun _ => D 0 1 := by
  funext b
  unfold roQ
  rw [if_neg (by omega)]
theorem rfP_0 {D : Dk} {W : Rw} {x : Int} (h : rfP D W x = 0) : ((0 ≤ x ∧ x < 4) ∧ 0 < D 0 0) ∧ W 0 x = D 0 8 ∧ ∀ i, 0 ≤ i → i < D 0 8 → -1 ≤ W (2 + x) i ∧ W (2 + x) i < D 0 1 := by
  unfold rfP at h
  by_cases c1 : ((0 ≤ x ∧ x < 4) ∧ 0 < D 0 0)
  · rw [if_neg (not_not_intro c1)] at h
    by_cases c2 : W 0 x = -1
    · rw [if_pos c2] at h; omega
    · rw [if_neg c2] at h
      by_cases c3 : W 0 x ≠ D 0 8
      · rw [if_pos c3] at h; omega
      · rw [if_neg c3] at h
        by_cases c4 : anyI (badR D W x) (D 0 8) = true
        · rw [if_pos c4] at h; omega
        · refine ⟨c1, Decidable.not_not.mp c3, fun i i0 i1 => ?_⟩
          have z := anyI_f.mp (Bool.eq_false_iff.mpr c4) i i0 i1
          unfold badR at z
          have := of_decide_eq_false z
          omega
  · rw [if_pos c1] at h; omega
theorem c_isSlot {d : Nat} {h : zH} {x : Int} : zPI d mX3_isSlot [zA 67, zI x] h (d2i (0 ≤ x ∧ x < 4)) := by
  refine zmet rfl rfl rfl ?_
  refine zS_iload_n (zdec eX3_isSlot 0 rfl) rfl ?_
  refine zS_if_lt (tgt := 13) (zdec eX3_isSlot 1 rfl) rfl (fun c1 => ?_) (fun c1 => ?_)
  · refine zS_iconst (zdec eX3_isSlot 7 rfl) rfl ?_
    exact zlZ (zdec eX3_isSlot 8 rfl) rfl (Or.inl rfl) (by rw [d2i_f (by omega)])
  · refine zS_iload_n (zdec eX3_isSlot 2 rfl) rfl ?_
    refine zS_iconst (zdec eX3_isSlot 3 rfl) rfl ?_
    refine zS_icmp_ge (tgt := 13) (zdec eX3_isSlot 4 rfl) rfl (fun c2 => ?_) (fun c2 => ?_)
    · refine zS_iconst (zdec eX3_isSlot 7 rfl) rfl ?_
      exact zlZ (zdec eX3_isSlot 8 rfl) rfl (Or.inl rfl) (by rw [d2i_f (by omega)])
    · refine zS_iconst (zdec eX3_isSlot 5 rfl) rfl ?_
      refine zS_goto (tgt := 14) (zdec eX3_isSlot 6 rfl) rfl ?_
      exact zlZ (zdec eX3_isSlot 8 rfl) rfl (Or.inr rfl) (by rw [d2i_t (by omega)])
theorem c_isEmpty {d : Nat} {h : zH} {W : Rw} {x : Int} (RW : RC h W) (x0 : 0 ≤ x) (x1 : x < 4) : zPI d mX3_isEmpty [zA 67, zI x] h (d2i (W 0 x = -1)) := by
  refine zmet rfl rfl rfl ?_
  refine zS_aload_n (zdec eX3_isEmpty 0 rfl) rfl rfl ?_
  refine zS_getref (i := 46) (zdec eX3_isEmpty 1 rfl) kF_X3_16 ⟨by decide, rfl⟩ rfl rfl rfl rfl rfl ?_
  refine zS_iload_n (zdec eX3_isEmpty 2 rfl) rfl ?_
  refine zS_ialoadE (v := (W 0 x)) (zdec eX3_isEmpty 3 rfl) ⟨by decide, rfl⟩ (by omega) (by omega) (RW.sz (by omega) (by omega)) ?_
  refine zS_iconst (zdec eX3_isEmpty 4 rfl) rfl ?_
  refine zS_icmp_ne (tgt := 14) (zdec eX3_isEmpty 5 rfl) rfl (fun c1 => ?_) (fun c1 => ?_)
  · refine zS_iconst (zdec eX3_isEmpty 8 rfl) rfl ?_
    exact zlZ (zdec eX3_isEmpty 9 rfl) rfl (Or.inl rfl) (by rw [d2i_f (by omega)])
  · refine zS_iconst (zdec eX3_isEmpty 6 rfl) rfl ?_
    refine zS_goto (tgt := 15) (zdec eX3_isEmpty 7 rfl) rfl ?_
    exact zlZ (zdec eX3_isEmpty 9 rfl) rfl (Or.inr rfl) (by rw [d2i_t (by omega)])
theorem L_refP {d : Nat} {h : zH} {D : Dk} {W : Rw} {x : Int} (VD : DV D) (RW : RC h W) (VW : RV W) (x0 : 0 ≤ x) (x1 : x < 4) (hz : W 0 x = D 0 8) : ∀ (n : Nat) (e : Int), 0 ≤ e → e + n = D 0 8 → anyI (badR D W x) e = false → zS mX3_refusedPlan (zr d) 27 [zA 67, zI x, zI (D 0 8), zI (D 0 1), zI e] [] TT h (zOne (if anyI (badR D W x) (D 0 8) then -2 else 0) h) := by
  intro n
  induction n with
  | zero =>
    intro e a1 a2 a3
    have nb := VD.nb
    have dy := VD.days
    refine zS_iload (zdec eX3_refusedPlan 16 rfl) rfl ?_
    refine zS_iload_n (zdec eX3_refusedPlan 17 rfl) rfl ?_
    refine zS_icmp_ge (tgt := 73) (zdec eX3_refusedPlan 18 rfl) rfl (fun cz => ?_) (fun cz => absurd (by omega) cz)
    refine zS_iconst (zdec eX3_refusedPlan 42 rfl) rfl ?_
    exact zlI (zdec eX3_refusedPlan 43 rfl) rfl (by rw [show D 0 8 = e by omega, a3]; rfl)
  | succ n ih =>
    intro e a1 a2 a3
    have nb := VD.nb
    have dy := VD.days
    refine zS_iload (zdec eX3_refusedPlan 16 rfl) rfl ?_
    refine zS_iload_n (zdec eX3_refusedPlan 17 rfl) rfl ?_
    refine zS_icmp_ge (tgt := 73) (zdec eX3_refusedPlan 18 rfl) rfl (fun cz => absurd cz (by omega)) (fun cz => ?_)
    refine zS_aload_n (zdec eX3_refusedPlan 19 rfl) rfl rfl ?_
    refine zS_getref (i := 45) (zdec eX3_refusedPlan 20 rfl) kF_X3_11 ⟨by decide, rfl⟩ rfl rfl rfl rfl rfl ?_
    refine zS_iload_n (zdec eX3_refusedPlan 21 rfl) rfl ?_
    refine zS_aaload1 (i := 6) (zdec eX3_refusedPlan 22 rfl) (Or.inr (Or.inr rfl)) ⟨by decide, rfl⟩ rfl rfl rfl (by omega) (by omega) ?_
    refine zS_iload (zdec eX3_refusedPlan 23 rfl) rfl ?_
    refine zS_laloadE (v := (W (2 + x) e)) (zdec eX3_refusedPlan 24 rfl) (zrow_69 (by omega) (by omega)) (by omega) (by omega) (RW.nm (by omega) (by omega) (by omega) (by omega)) ?_
    refine zS_ldc2_w (zdec eX3_refusedPlan 25 rfl) kj_X3_27 rfl ?_
    refine zS_lcmp (zdec eX3_refusedPlan 26 rfl) ?_
    refine zS_if_lt (tgt := 64) (zdec eX3_refusedPlan 27 rfl) rfl (fun c1 => ?_) (fun c1 => ?_)
    · refine zS_bipush (zdec eX3_refusedPlan 38 rfl) rfl rfl ?_
      exact zlI (zdec eX3_refusedPlan 39 rfl) rfl (by rw [if_pos (anyI_iff.mpr ⟨e, a1, by omega, decide_eq_true (by have := zCmp_lt.mp c1; omega)⟩)])
    · refine zS_aload_n (zdec eX3_refusedPlan 28 rfl) rfl rfl ?_
      refine zS_getref (i := 45) (zdec eX3_refusedPlan 29 rfl) kF_X3_11 ⟨by decide, rfl⟩ rfl rfl rfl rfl rfl ?_
      refine zS_iload_n (zdec eX3_refusedPlan 30 rfl) rfl ?_
      refine zS_aaload1 (i := 6) (zdec eX3_refusedPlan 31 rfl) (Or.inr (Or.inr rfl)) ⟨by decide, rfl⟩ rfl rfl rfl (by omega) (by omega) ?_
      refine zS_iload (zdec eX3_refusedPlan 32 rfl) rfl ?_
      refine zS_laloadE (v := (W (2 + x) e)) (zdec eX3_refusedPlan 33 rfl) (zrow_69 (by omega) (by omega)) (by omega) (by omega) (RW.nm (by omega) (by omega) (by omega) (by omega)) ?_
      refine zS_iload_n (zdec eX3_refusedPlan 34 rfl) rfl ?_
      refine zS_i2l (zdec eX3_refusedPlan 35 rfl) ?_
      refine zS_lcmp (zdec eX3_refusedPlan 36 rfl) ?_
      refine zS_if_lt (tgt := 67) (zdec eX3_refusedPlan 37 rfl) rfl (fun c2 => ?_) (fun c2 => ?_)
      · refine zS_iinc (zdec eX3_refusedPlan 40 rfl) rfl rfl ⟨by omega, by omega⟩ ?_
        refine zS_goto (tgt := 27) (zdec eX3_refusedPlan 41 rfl) rfl ?_
        exact ih (e + 1) (by omega) (by omega) (by rw [anyI_s _ a1, a3, Bool.false_or]; exact decide_eq_false (by have := mt zCmp_lt.mpr c1; have := zCmp_lt.mp c2; omega))
      · refine zS_bipush (zdec eX3_refusedPlan 38 rfl) rfl rfl ?_
        exact zlI (zdec eX3_refusedPlan 39 rfl) rfl (by rw [if_pos (anyI_iff.mpr ⟨e, a1, by omega, decide_eq_true (by have := mt zCmp_lt.mpr c2; omega)⟩)])
theorem c_refP0 {d : Nat} {h : zH} {D : Dk} {W : Rw} {x : Int} (hd : 1 ≤ d) (VD : DV D) (RW : RC h W) (VW : RV W) (x0 : 0 ≤ x) (x1 : x < 4) : zPI d mX3_refusedPlan [zA 67, zI x, zI (D 0 8), zI (D 0 1)] h (if W 0 x = -1 then -6 else if W 0 x ≠ D 0 8 then -2 else if anyI (badR D W x) (D 0 8) then -2 else 0) := by
  have nb := VD.nb
  have dy := VD.days
  refine zmet rfl rfl rfl ?_
  refine zS_aload_n (zdec eX3_refusedPlan 0 rfl) rfl rfl ?_
  refine zS_iload_n (zdec eX3_refusedPlan 1 rfl) rfl ?_
  refine zvI (M' := mX3_isEmpty) (As := [zI x]) (st := []) (zdec eX3_refusedPlan 2 rfl) kM_X3_23 kV_X3_isEmpty ⟨by decide, rfl⟩ rfl rfl rfl rfl rfl (by omega) (c_isEmpty RW (by omega) (by omega)) ?_
  refine zS_if_eq (tgt := 11) (zdec eX3_refusedPlan 3 rfl) rfl (fun c1 => ?_) (fun c1 => ?_)
  · have z1 := d2i_0.mp c1
    refine zS_aload_n (zdec eX3_refusedPlan 6 rfl) rfl rfl ?_
    refine zS_getref (i := 46) (zdec eX3_refusedPlan 7 rfl) kF_X3_16 ⟨by decide, rfl⟩ rfl rfl rfl rfl rfl ?_
    refine zS_iload_n (zdec eX3_refusedPlan 8 rfl) rfl ?_
    refine zS_ialoadE (v := (W 0 x)) (zdec eX3_refusedPlan 9 rfl) ⟨by decide, rfl⟩ (by omega) (by omega) (RW.sz (by omega) (by omega)) ?_
    refine zS_iload_n (zdec eX3_refusedPlan 10 rfl) rfl ?_
    refine zS_icmp_eq (tgt := 24) (zdec eX3_refusedPlan 11 rfl) rfl (fun c2 => ?_) (fun c2 => ?_)
    · refine zS_iconst (zdec eX3_refusedPlan 14 rfl) rfl ?_
      refine zS_istore (zdec eX3_refusedPlan 15 rfl) rfl ?_
      rw [if_neg z1, if_neg (fun w => w c2)]
      exact L_refP VD RW VW x0 x1 c2 (D 0 8).toNat 0 (by omega) (by omega) (anyI_0 _ (by omega))
    · refine zS_bipush (zdec eX3_refusedPlan 12 rfl) rfl rfl ?_
      exact zlI (zdec eX3_refusedPlan 13 rfl) rfl (by rw [if_neg z1, if_pos c2])
  · have z1 := d2i_n.mp c1
    refine zS_bipush (zdec eX3_refusedPlan 4 rfl) rfl rfl ?_
    exact zlI (zdec eX3_refusedPlan 5 rfl) rfl (by rw [if_pos z1])
theorem c_refP {d : Nat} {h : zH} {D : Dk} {W : Rw} {x : Int} (hd : 2 ≤ d) (VD : DV D) (RD : DC h 15 D) (RW : RC h W) (VW : RV W) : zPI d mX9_refusedPlan [zA 0, zI x] h (rfP D W x) := by
  have nb := VD.nb
  have dy := VD.days
  refine zmet rfl rfl rfl ?_
  refine zS_aload_n (zdec eX9_refusedPlan 0 rfl) rfl rfl ?_
  refine zS_getref (i := 5) (zdec eX9_refusedPlan 1 rfl) kF_X9_42 ⟨by decide, rfl⟩ rfl rfl rfl rfl rfl ?_
  refine zS_iload_n (zdec eX9_refusedPlan 2 rfl) rfl ?_
  refine zvI (M' := mX3_isSlot) (As := [zI x]) (st := []) (zdec eX9_refusedPlan 3 rfl) kM_X9_303 kV_X3_isSlot ⟨by decide, rfl⟩ rfl rfl rfl rfl rfl (by omega) c_isSlot ?_
  refine zS_if_eq (tgt := 18) (zdec eX9_refusedPlan 4 rfl) rfl (fun c1 => ?_) (fun c1 => ?_)
  · have z1 := d2i_0.mp c1
    refine zS_bipush (zdec eX9_refusedPlan 8 rfl) rfl rfl ?_
    exact zlI (zdec eX9_refusedPlan 9 rfl) rfl (by unfold rfP; rw [if_pos (by omega)])
  · have z1 := d2i_n.mp c1
    refine zS_aload_n (zdec eX9_refusedPlan 5 rfl) rfl rfl ?_
    refine zvI (M' := mX9_isThere) (As := []) (st := []) (zdec eX9_refusedPlan 6 rfl) kM_X9_143 kV_X9_isThere ⟨by decide, rfl⟩ rfl rfl rfl rfl rfl (by omega) (c_isThere RD) ?_
    refine zS_if_ne (tgt := 21) (zdec eX9_refusedPlan 7 rfl) rfl (fun c2 => ?_) (fun c2 => ?_)
    · have z2 := d2i_n.mp c2
      refine zS_aload_n (zdec eX9_refusedPlan 10 rfl) rfl rfl ?_
      refine zS_getref (i := 5) (zdec eX9_refusedPlan 11 rfl) kF_X9_42 ⟨by decide, rfl⟩ rfl rfl rfl rfl rfl ?_
      refine zS_iload_n (zdec eX9_refusedPlan 12 rfl) rfl ?_
      refine zS_aload_n (zdec eX9_refusedPlan 13 rfl) rfl rfl ?_
      refine zS_getref (i := 2) (zdec eX9_refusedPlan 14 rfl) kF_X9_27 ⟨by decide, rfl⟩ rfl rfl rfl rfl rfl ?_
      refine zS_getfieldE (x := 8) (v := (D 0 8)) (zdec eX9_refusedPlan 15 rfl) kF_X9_202 ⟨by decide, rfl⟩ rfl rfl rfl (RD.s (by decide) (by decide)) ?_
      refine zS_aload_n (zdec eX9_refusedPlan 16 rfl) rfl rfl ?_
      refine zS_getref (i := 2) (zdec eX9_refusedPlan 17 rfl) kF_X9_27 ⟨by decide, rfl⟩ rfl rfl rfl rfl rfl ?_
      refine zS_getfieldE (x := 1) (v := (D 0 1)) (zdec eX9_refusedPlan 18 rfl) kF_X9_127 ⟨by decide, rfl⟩ rfl rfl rfl (RD.s (by decide) (by decide)) ?_
      refine zvI (M' := mX3_refusedPlan) (As := [zI x, zI (D 0 8), zI (D 0 1)]) (st := []) (zdec eX9_refusedPlan 19 rfl) kM_X9_429 kV_X3_refusedPlan ⟨by decide, rfl⟩ rfl rfl rfl rfl rfl (by omega) (c_refP0 (by omega) VD RW VW (by omega) (by omega)) ?_
      exact zlI (zdec eX9_refusedPlan 20 rfl) rfl (by unfold rfP; exact (if_neg (not_not_intro ⟨z1, z2⟩)).symm)
    · have z2 := d2i_0.mp c2
      refine zS_bipush (zdec eX9_refusedPlan 8 rfl) rfl rfl ?_
      exact zlI (zdec eX9_refusedPlan 9 rfl) rfl (by unfold rfP; rw [if_pos (by omega)])
theorem L_layP {d : Nat} {h : zH} {D : Dk} {p : Pb} {W : Rw} {x : Int} (hp : pb0 D = p) (hd : 6 ≤ d) (VD : DV D) (hd0 : 0 < D 0 0) (RD : DC h 15 D) (RW : RC h W) (x0 : 0 ≤ x) (x1 : x < 4) (hz : W 0 x = D 0 8) (hv : ∀ i, 0 ≤ i → i < D 0 8 → -1 ≤ W (2 + x) i ∧ W (2 + x) i < D 0 1) : ∀ (n : Nat) (e : Int) (h1 : zH), 0 ≤ e → e + n = D 0 8 → Fr sQ h h1 → WC h1 p → PlC h1 p (roQ D W x e) → zS mX9_layPlan (zr d) 16 [zA 0, zI x, zI e, zN] [] TT h1 (zAnV (fun h' => WC h' p ∧ PlC h' p (roQ D W x (D 0 8)) ∧ Fr sQ h h')) := by
  intro n
  induction n with
  | zero =>
    intro e h1 a1 a2 i1 i2 i3
    have RD1 : DC h1 15 D := RD.fr i1 (fun k j z => by omega)
    refine zS_iload_n (zdec eX9_layPlan 8 rfl) rfl ?_
    refine zS_aload_n (zdec eX9_layPlan 9 rfl) rfl rfl ?_
    refine zS_getref (i := 2) (zdec eX9_layPlan 10 rfl) kF_X9_27 ⟨by decide, rfl⟩ rfl rfl rfl rfl rfl ?_
    refine zS_getfieldE (x := 8) (v := (D 0 8)) (zdec eX9_layPlan 11 rfl) kF_X9_202 ⟨by decide, rfl⟩ rfl rfl rfl (RD1.s (by decide) (by decide)) ?_
    refine zS_icmp_ge (tgt := 63) (zdec eX9_layPlan 12 rfl) rfl (fun cz => ?_) (fun cz => absurd (by omega) cz)
    exact zlMV (zdec eX9_layPlan 33 rfl) rfl ⟨i2, by rw [show D 0 8 = e by omega]; exact i3, i1⟩
  | succ n ih =>
    intro e h1 a1 a2 i1 i2 i3
    have RD1 : DC h1 15 D := RD.fr i1 (fun k j z => by omega)
    have RW1 : RC h1 W := RW.fr i1 (fun k j z => by omega)
    have pn : pNb p = D 0 8 := by rw [← hp]; rfl
    have pd : pDays p = D 0 1 := by rw [← hp]; rfl
    have V : PV p := by rw [← hp]; exact pb0_V VD hd0
    have nb := VD.nb
    have dy := VD.days
    have hve := hv e a1 (by omega)
    refine zS_iload_n (zdec eX9_layPlan 8 rfl) rfl ?_
    refine zS_aload_n (zdec eX9_layPlan 9 rfl) rfl rfl ?_
    refine zS_getref (i := 2) (zdec eX9_layPlan 10 rfl) kF_X9_27 ⟨by decide, rfl⟩ rfl rfl rfl rfl rfl ?_
    refine zS_getfieldE (x := 8) (v := (D 0 8)) (zdec eX9_layPlan 11 rfl) kF_X9_202 ⟨by decide, rfl⟩ rfl rfl rfl (RD1.s (by decide) (by decide)) ?_
    refine zS_icmp_ge (tgt := 63) (zdec eX9_layPlan 12 rfl) rfl (fun cz => absurd cz (by omega)) (fun cz => ?_)
    refine zS_aload_n (zdec eX9_layPlan 13 rfl) rfl rfl ?_
    refine zS_getref (i := 5) (zdec eX9_layPlan 14 rfl) kF_X9_42 ⟨by decide, rfl⟩ rfl rfl rfl rfl rfl ?_
    refine zS_getref (i := 45) (zdec eX9_layPlan 15 rfl) kF_X9_409 ⟨by decide, rfl⟩ rfl rfl rfl rfl rfl ?_
    refine zS_iload_n (zdec eX9_layPlan 16 rfl) rfl ?_
    refine zS_aaload1 (i := 6) (zdec eX9_layPlan 17 rfl) (Or.inr (Or.inr rfl)) ⟨by decide, rfl⟩ rfl rfl rfl (by omega) (by omega) ?_
    refine zS_iload_n (zdec eX9_layPlan 18 rfl) rfl ?_
    refine zS_laloadE (v := (W (2 + x) e)) (zdec eX9_layPlan 19 rfl) (zrow_69 (by omega) (by omega)) (by omega) (by omega) (RW1.nm (by omega) (by omega) (by omega) (by omega)) ?_
    refine zS_l2i (zdec eX9_layPlan 20 rfl) ?_
    rw [zL2I_id (by omega) (by omega)]
    refine zS_istore_n (zdec eX9_layPlan 21 rfl) rfl ?_
    refine zS_aload_n (zdec eX9_layPlan 22 rfl) rfl rfl ?_
    refine zS_iload_n (zdec eX9_layPlan 23 rfl) rfl ?_
    refine zvI (M' := mX9_isDay) (As := [zI (W (2 + x) e)]) (st := []) (zdec eX9_layPlan 24 rfl) kM_X9_137 kV_X9_isDay ⟨by decide, rfl⟩ rfl rfl rfl rfl rfl (by omega) (c_isDay RD1) ?_
    refine zS_if_eq (tgt := 57) (zdec eX9_layPlan 25 rfl) rfl (fun c1 => ?_) (fun c1 => ?_)
    · have z1 := d2i_0.mp c1
      refine zS_iinc (zdec eX9_layPlan 31 rfl) rfl rfl ⟨by omega, by omega⟩ ?_
      refine zS_goto (tgt := 16) (zdec eX9_layPlan 32 rfl) rfl ?_
      refine zS_forget (i := 3) ?_
      exact ih (e + 1) h1 (by omega) (by omega) i1 i2 (by rw [← roQ_f z1]; exact i3)
    · have z1 := d2i_n.mp c1
      refine zS_aload_n (zdec eX9_layPlan 26 rfl) rfl rfl ?_
      refine zS_getref (i := 1) (zdec eX9_layPlan 27 rfl) kF_X9_19 ⟨by decide, rfl⟩ rfl rfl rfl rfl rfl ?_
      refine zS_iload_n (zdec eX9_layPlan 28 rfl) rfl ?_
      refine zS_iload_n (zdec eX9_layPlan 29 rfl) rfl ?_
      refine zvMV (M' := mX8_pay) (As := [zI e, zI (W (2 + x) e)]) (st := []) (zdec eX9_layPlan 30 rfl) kM_X9_434 kV_X8_pay ⟨by decide, rfl⟩ rfl rfl rfl rfl rfl (by omega) (c_pay (x := W (2 + x) e) (by omega) V i2 i3 a1 (by omega) (by rw [← hp]; rfl) (by unfold roQ; rw [if_neg (by omega), pd]) z1.1 (by omega)) (fun h3 ⟨S3, g3⟩ => ?_)
      rw [roQ_t a1 z1] at S3
      have f3 : Fr sQ h h3 := i1.tr g3 (fun k j z => z) (fun k j z => by omega)
      have W3 := i2.fr V g3 (fun k j z => by unfold wcP; omega)
      refine zS_iinc (zdec eX9_layPlan 31 rfl) rfl rfl ⟨by omega, by omega⟩ ?_
      refine zS_goto (tgt := 16) (zdec eX9_layPlan 32 rfl) rfl ?_
      refine zS_forget (i := 3) ?_
      exact ih (e + 1) h3 (by omega) (by omega) f3 W3 S3
theorem c_layP {d : Nat} {h : zH} {D : Dk} {p : Pb} {W : Rw} {x : Int} (hp : pb0 D = p) (hd : 6 ≤ d) (VD : DV D) (hd0 : 0 < D 0 0) (RD : DC h 15 D) (RW : RC h W) (x0 : 0 ≤ x) (x1 : x < 4) (hz : W 0 x = D 0 8) (hv : ∀ i, 0 ≤ i → i < D 0 8 → -1 ≤ W (2 + x) i ∧ W (2 + x) i < D 0 1) : zMV d mX9_layPlan [zA 0, zI x] h (fun h' => WC h' p ∧ PlC h' p (roQ D W x (D 0 8)) ∧ Fr sQ h h') := by
  have pn : pNb p = D 0 8 := by rw [← hp]; rfl
  have pd : pDays p = D 0 1 := by rw [← hp]; rfl
  have V : PV p := by rw [← hp]; exact pb0_V VD hd0
  have nb := VD.nb
  have dy := VD.days
  refine zmet rfl rfl rfl ?_
  refine zS_aload_n (zdec eX9_layPlan 0 rfl) rfl rfl ?_
  refine zS_getref (i := 1) (zdec eX9_layPlan 1 rfl) kF_X9_19 ⟨by decide, rfl⟩ rfl rfl rfl rfl rfl ?_
  refine zvMV (M' := mX8_asTold) (As := []) (st := []) (zdec eX9_layPlan 2 rfl) kM_X9_130 kV_X8_asTold ⟨by decide, rfl⟩ rfl rfl rfl rfl rfl (by omega) (c_asTold (by omega) hd0 VD RD) (fun h2 ⟨R, cl2, g2⟩ => ?_)
  rw [hp] at R
  have f2 : Fr sQ h h2 := g2.mono (fun k j z => by omega)
  refine zS_aload_n (zdec eX9_layPlan 3 rfl) rfl rfl ?_
  refine zS_getref (i := 1) (zdec eX9_layPlan 4 rfl) kF_X9_19 ⟨by decide, rfl⟩ rfl rfl rfl rfl rfl ?_
  refine zvMV (M' := mX8_clearPlan) (As := []) (st := []) (zdec eX9_layPlan 5 rfl) kM_X9_431 kV_X8_clearPlan ⟨by decide, rfl⟩ rfl rfl rfl rfl rfl (by omega) (c_clearPlan (by omega) V R) (fun h3 ⟨S3, mi3, g3⟩ => ?_)
  have f3 : Fr sQ h h3 := f2.tr g3 (fun k j z => z) (fun k j z => by omega)
  have W3 := R.fr V g3 (fun k j z => by unfold wcP; omega)
  refine zS_iconst (zdec eX9_layPlan 6 rfl) rfl ?_
  refine zS_istore_n (zdec eX9_layPlan 7 rfl) rfl ?_
  exact L_layP hp hd VD hd0 RD RW x0 x1 hz hv (D 0 8).toNat 0 h3 (by omega) (by omega) f3 W3 (by rw [roQ_0, ← pd]; exact S3)
noncomputable def a_sums (D : Dk) (W : Rw) (x : Int) : Int := if rfP D W x = 0 then totalP (pb0 D) (roQ D W x (D 0 8)) else rfP D W x
theorem p_sums {d : Nat} {h : zH} {D : Dk} {W : Rw} {x : Int} (hd : 20 ≤ d) (VD : DV D) (RD : DC h 15 D) (RW : RC h W) (VW : RV W) : zMI d mX9_sums [zA 0, zI x] h (fun r h' => r = a_sums D W x ∧ Fr sQ h h') := by
  obtain ⟨p, hp⟩ : ∃ p, pb0 D = p := ⟨_, rfl⟩
  obtain ⟨q, hq⟩ : ∃ q, planP p = q := ⟨_, rfl⟩
  have pd : pDays p = D 0 1 := by rw [← hp]; rfl
  have pn : pNb p = D 0 8 := by rw [← hp]; rfl
  have dy := VD.days
  have nb := VD.nb
  have ns := VD.ns
  have nl := VD.nl
  have na := VD.na
  have vfl := VD.fl
  have vfe := VD.fee
  refine zmet rfl rfl rfl ?_
  refine zS_aload_n (zdec eX9_sums 0 rfl) rfl rfl ?_
  refine zS_iload_n (zdec eX9_sums 1 rfl) rfl ?_
  refine zvI (M' := mX9_refusedPlan) (As := [zI x]) (st := []) (zdec eX9_sums 2 rfl) kM_X9_231 kV_X9_refusedPlan ⟨by decide, rfl⟩ rfl rfl rfl rfl rfl (by omega) (c_refP (by omega) VD RD RW VW) ?_
  refine zS_istore_n (zdec eX9_sums 3 rfl) rfl ?_
  refine zS_iload_n (zdec eX9_sums 4 rfl) rfl ?_
  refine zS_if_eq (tgt := 12) (zdec eX9_sums 5 rfl) rfl (fun c1 => ?_) (fun c1 => ?_)
  · refine zS_aload_n (zdec eX9_sums 8 rfl) rfl rfl ?_
    refine zS_iload_n (zdec eX9_sums 9 rfl) rfl ?_
    have r0 := rfP_0 c1
    have hd0 := r0.1.2
    refine zvMV (M' := mX9_layPlan) (As := [zI x]) (st := []) (zdec eX9_sums 10 rfl) kM_X9_234 kV_X9_layPlan ⟨by decide, rfl⟩ rfl rfl rfl rfl rfl (by omega) (c_layP hp (by omega) VD hd0 RD RW r0.1.1.1 r0.1.1.2 r0.2.1 r0.2.2) (fun h3 ⟨W3, S3, f3⟩ => ?_)
    have V : PV p := by rw [← hp]; exact pb0_V VD hd0
    refine zS_aload_n (zdec eX9_sums 11 rfl) rfl rfl ?_
    refine zS_getref (i := 1) (zdec eX9_sums 12 rfl) kF_X9_19 ⟨by decide, rfl⟩ rfl rfl rfl rfl rfl ?_
    refine zvI (M' := mX8_whole) (As := []) (st := []) (zdec eX9_sums 13 rfl) kM_X9_214 kV_X8_whole ⟨by decide, rfl⟩ rfl rfl rfl rfl rfl (by omega) (c_whole (by omega) V W3 S3 (fun b => (roQ_rng VD W x (D 0 8) b).1) (fun b => by rw [pd]; exact (roQ_rng VD W x (D 0 8) b).2)) ?_
    exact zlMI (zdec eX9_sums 14 rfl) rfl ⟨by unfold a_sums; rw [hp, if_pos c1], f3⟩
  · refine zS_iload_n (zdec eX9_sums 6 rfl) rfl ?_
    exact zlMI (zdec eX9_sums 7 rfl) rfl ⟨by unfold a_sums; rw [if_neg c1], Fr.rf⟩
noncomputable def a_lawful (D : Dk) (W : Rw) (x : Int) : Int := if rfP D W x = 0 then b2i (lawP (pb0 D) (roQ D W x (D 0 8))) else rfP D W x
theorem p_lawful {d : Nat} {h : zH} {D : Dk} {W : Rw} {x : Int} (hd : 20 ≤ d) (VD : DV D) (RD : DC h 15 D) (RW : RC h W) (VW : RV W) : zMI d mX9_lawful [zA 0, zI x] h (fun r h' => r = a_lawful D W x ∧ Fr sQ h h') := by
  obtain ⟨p, hp⟩ : ∃ p, pb0 D = p := ⟨_, rfl⟩
  obtain ⟨q, hq⟩ : ∃ q, planP p = q := ⟨_, rfl⟩
  have pd : pDays p = D 0 1 := by rw [← hp]; rfl
  have pn : pNb p = D 0 8 := by rw [← hp]; rfl
  have dy := VD.days
  have nb := VD.nb
  have ns := VD.ns
  have nl := VD.nl
  have na := VD.na
  have vfl := VD.fl
  have vfe := VD.fee
  refine zmet rfl rfl rfl ?_
  refine zS_aload_n (zdec eX9_lawful 0 rfl) rfl rfl ?_
  refine zS_iload_n (zdec eX9_lawful 1 rfl) rfl ?_
  refine zvI (M' := mX9_refusedPlan) (As := [zI x]) (st := []) (zdec eX9_lawful 2 rfl) kM_X9_231 kV_X9_refusedPlan ⟨by decide, rfl⟩ rfl rfl rfl rfl rfl (by omega) (c_refP (by omega) VD RD RW VW) ?_
  refine zS_istore_n (zdec eX9_lawful 3 rfl) rfl ?_
  refine zS_iload_n (zdec eX9_lawful 4 rfl) rfl ?_
  refine zS_if_eq (tgt := 12) (zdec eX9_lawful 5 rfl) rfl (fun c1 => ?_) (fun c1 => ?_)
  · refine zS_aload_n (zdec eX9_lawful 8 rfl) rfl rfl ?_
    refine zS_iload_n (zdec eX9_lawful 9 rfl) rfl ?_
    have r0 := rfP_0 c1
    have hd0 := r0.1.2
    refine zvMV (M' := mX9_layPlan) (As := [zI x]) (st := []) (zdec eX9_lawful 10 rfl) kM_X9_234 kV_X9_layPlan ⟨by decide, rfl⟩ rfl rfl rfl rfl rfl (by omega) (c_layP hp (by omega) VD hd0 RD RW r0.1.1.1 r0.1.1.2 r0.2.1 r0.2.2) (fun h3 ⟨W3, S3, f3⟩ => ?_)
    have V : PV p := by rw [← hp]; exact pb0_V VD hd0
    refine zS_aload_n (zdec eX9_lawful 11 rfl) rfl rfl ?_
    refine zS_getref (i := 1) (zdec eX9_lawful 12 rfl) kF_X9_19 ⟨by decide, rfl⟩ rfl rfl rfl rfl rfl ?_
    refine zvI (M' := mX8_isLawful) (As := []) (st := []) (zdec eX9_lawful 13 rfl) kM_X9_237 kV_X8_isLawful ⟨by decide, rfl⟩ rfl rfl rfl rfl rfl (by omega) (c_isLawful (by omega) V W3 S3) ?_
    refine zS_if_eq (tgt := 31) (zdec eX9_lawful 14 rfl) rfl (fun c2 => ?_) (fun c2 => ?_)
    · have z2 := b2i_0.mp c2
      refine zS_iconst (zdec eX9_lawful 17 rfl) rfl ?_
      exact zlMI (zdec eX9_lawful 18 rfl) rfl ⟨by unfold a_lawful; rw [hp, if_pos c1, show lawP p (roQ D W x (D 0 8)) = false from z2]; rfl, f3⟩
    · have z2 := b2i_n.mp c2
      refine zS_iconst (zdec eX9_lawful 15 rfl) rfl ?_
      refine zS_goto (tgt := 32) (zdec eX9_lawful 16 rfl) rfl ?_
      exact zlMI (zdec eX9_lawful 18 rfl) rfl ⟨by unfold a_lawful; rw [hp, if_pos c1, show lawP p (roQ D W x (D 0 8)) = true from z2]; rfl, f3⟩
  · refine zS_iload_n (zdec eX9_lawful 6 rfl) rfl ?_
    exact zlMI (zdec eX9_lawful 7 rfl) rfl ⟨by unfold a_lawful; rw [if_neg c1], Fr.rf⟩
theorem L_falls {d : Nat} {h h3 : zH} {D : Dk} {p : Pb} {W : Rw} {x y : Int} (hp : pb0 D = p) (VD : DV D) (S3 : PlC h3 p (roQ D W x (D 0 8))) (RD3 : DC h3 15 D) (f3 : Fr sQ h h3) : ∀ (n : Nat) (e : Int), 0 ≤ e → e + n = D 0 1 → fsI (fun t => decide (cashP p (roQ D W x (D 0 8)) t < D 0 5)) e = -1 → zS mX9_falls (zr d) 19 [zA 0, zI x, zI y, zI e] [] TT h3 (zAnI (fun r h' => r = fsI (fun t => decide (cashP p (roQ D W x (D 0 8)) t < D 0 5)) (D 0 1) ∧ Fr sQ h h')) := by
  intro n
  induction n with
  | zero =>
    intro e a1 a2 a3
    have pd : pDays p = D 0 1 := by rw [← hp]; rfl
    refine zS_iload_n (zdec eX9_falls 13 rfl) rfl ?_
    refine zS_aload_n (zdec eX9_falls 14 rfl) rfl rfl ?_
    refine zS_getref (i := 2) (zdec eX9_falls 15 rfl) kF_X9_27 ⟨by decide, rfl⟩ rfl rfl rfl rfl rfl ?_
    refine zS_getfieldE (x := 1) (v := (D 0 1)) (zdec eX9_falls 16 rfl) kF_X9_127 ⟨by decide, rfl⟩ rfl rfl rfl (RD3.s (by decide) (by decide)) ?_
    refine zS_icmp_ge (tgt := 57) (zdec eX9_falls 17 rfl) rfl (fun cz => ?_) (fun cz => absurd (by omega) cz)
    refine zS_iconst (zdec eX9_falls 31 rfl) rfl ?_
    exact zlMI (zdec eX9_falls 32 rfl) rfl ⟨by rw [show D 0 1 = e by omega]; exact a3.symm, f3⟩
  | succ n ih =>
    intro e a1 a2 a3
    have pd : pDays p = D 0 1 := by rw [← hp]; rfl
    have dy := VD.days
    refine zS_iload_n (zdec eX9_falls 13 rfl) rfl ?_
    refine zS_aload_n (zdec eX9_falls 14 rfl) rfl rfl ?_
    refine zS_getref (i := 2) (zdec eX9_falls 15 rfl) kF_X9_27 ⟨by decide, rfl⟩ rfl rfl rfl rfl rfl ?_
    refine zS_getfieldE (x := 1) (v := (D 0 1)) (zdec eX9_falls 16 rfl) kF_X9_127 ⟨by decide, rfl⟩ rfl rfl rfl (RD3.s (by decide) (by decide)) ?_
    refine zS_icmp_ge (tgt := 57) (zdec eX9_falls 17 rfl) rfl (fun cz => absurd cz (by omega)) (fun cz => ?_)
    refine zS_aload_n (zdec eX9_falls 18 rfl) rfl rfl ?_
    refine zS_getref (i := 1) (zdec eX9_falls 19 rfl) kF_X9_19 ⟨by decide, rfl⟩ rfl rfl rfl rfl rfl ?_
    refine zS_getref (i := 23) (zdec eX9_falls 20 rfl) kF_X9_186 ⟨by decide, rfl⟩ rfl rfl rfl rfl rfl ?_
    refine zS_iload_n (zdec eX9_falls 21 rfl) rfl ?_
    refine zS_ialoadE (v := (cashP p (roQ D W x (D 0 8)) e)) (zdec eX9_falls 22 rfl) ⟨by decide, rfl⟩ (by omega) (by omega) (S3.cash (by omega) (by omega)) ?_
    refine zS_aload_n (zdec eX9_falls 23 rfl) rfl rfl ?_
    refine zS_getref (i := 2) (zdec eX9_falls 24 rfl) kF_X9_27 ⟨by decide, rfl⟩ rfl rfl rfl rfl rfl ?_
    refine zS_getfieldE (x := 5) (v := (D 0 5)) (zdec eX9_falls 25 rfl) kF_X9_193 ⟨by decide, rfl⟩ rfl rfl rfl (RD3.s (by decide) (by decide)) ?_
    refine zS_icmp_ge (tgt := 51) (zdec eX9_falls 26 rfl) rfl (fun c1 => ?_) (fun c1 => ?_)
    · refine zS_iinc (zdec eX9_falls 29 rfl) rfl rfl ⟨by omega, by omega⟩ ?_
      refine zS_goto (tgt := 19) (zdec eX9_falls 30 rfl) rfl ?_
      exact ih (e + 1) (by omega) (by omega) (fsI_next a1 a3 (decide_eq_false (by omega)))
    · refine zS_iload_n (zdec eX9_falls 27 rfl) rfl ?_
      exact zlMI (zdec eX9_falls 28 rfl) rfl ⟨(fsI_hit a1 (by omega) a3 (decide_eq_true (by omega))).symm, f3⟩
noncomputable def a_falls (D : Dk) (W : Rw) (x : Int) : Int := if rfP D W x = 0 then fsI (fun t => decide (cashP (pb0 D) (roQ D W x (D 0 8)) t < D 0 5)) (D 0 1) else rfP D W x
theorem p_falls {d : Nat} {h : zH} {D : Dk} {W : Rw} {x : Int} (hd : 20 ≤ d) (VD : DV D) (RD : DC h 15 D) (RW : RC h W) (VW : RV W) : zMI d mX9_falls [zA 0, zI x] h (fun r h' => r = a_falls D W x ∧ Fr sQ h h') := by
  obtain ⟨p, hp⟩ : ∃ p, pb0 D = p := ⟨_, rfl⟩
  obtain ⟨q, hq⟩ : ∃ q, planP p = q := ⟨_, rfl⟩
  have pd : pDays p = D 0 1 := by rw [← hp]; rfl
  have pn : pNb p = D 0 8 := by rw [← hp]; rfl
  have dy := VD.days
  have nb := VD.nb
  have ns := VD.ns
  have nl := VD.nl
  have na := VD.na
  have vfl := VD.fl
  have vfe := VD.fee
  refine zmet rfl rfl rfl ?_
  refine zS_aload_n (zdec eX9_falls 0 rfl) rfl rfl ?_
  refine zS_iload_n (zdec eX9_falls 1 rfl) rfl ?_
  refine zvI (M' := mX9_refusedPlan) (As := [zI x]) (st := []) (zdec eX9_falls 2 rfl) kM_X9_231 kV_X9_refusedPlan ⟨by decide, rfl⟩ rfl rfl rfl rfl rfl (by omega) (c_refP (by omega) VD RD RW VW) ?_
  refine zS_istore_n (zdec eX9_falls 3 rfl) rfl ?_
  refine zS_iload_n (zdec eX9_falls 4 rfl) rfl ?_
  refine zS_if_eq (tgt := 12) (zdec eX9_falls 5 rfl) rfl (fun c1 => ?_) (fun c1 => ?_)
  · refine zS_aload_n (zdec eX9_falls 8 rfl) rfl rfl ?_
    refine zS_iload_n (zdec eX9_falls 9 rfl) rfl ?_
    have r0 := rfP_0 c1
    have hd0 := r0.1.2
    refine zvMV (M' := mX9_layPlan) (As := [zI x]) (st := []) (zdec eX9_falls 10 rfl) kM_X9_234 kV_X9_layPlan ⟨by decide, rfl⟩ rfl rfl rfl rfl rfl (by omega) (c_layP hp (by omega) VD hd0 RD RW r0.1.1.1 r0.1.1.2 r0.2.1 r0.2.2) (fun h3 ⟨W3, S3, f3⟩ => ?_)
    have V : PV p := by rw [← hp]; exact pb0_V VD hd0
    refine zS_iconst (zdec eX9_falls 11 rfl) rfl ?_
    refine zS_istore_n (zdec eX9_falls 12 rfl) rfl ?_
    unfold a_falls
    rw [hp, if_pos c1]
    exact L_falls hp VD S3 (RD.fr f3 (fun k j z => by omega)) f3 (D 0 1).toNat 0 (by omega) (by omega) rfl
  · refine zS_iload_n (zdec eX9_falls 6 rfl) rfl ?_
    exact zlMI (zdec eX9_falls 7 rfl) rfl ⟨by unfold a_falls; rw [if_neg c1], Fr.rf⟩

theorem L_clears {d : Nat} {h : zH} (hd : 1 ≤ d) : ∀ (n : Nat) (e : Int) (h1 : zH), 0 ≤ e → e + n = 10 → h1 114 4 = 0 → (∀ w, 0 ≤ w → w < e → h1 115 (40 + w) = 0) → Fr (fun k j => (k = 114 ∧ j = 4) ∨ (k = 115 ∧ 40 ≤ j ∧ j < 50)) h h1 → zS mX10_clears (zr d) 9 [zA 108, zI e] [] TT h1 (zAnV (fun h' => h' 114 4 = 0 ∧ (∀ w, 0 ≤ w → w < 10 → h' 115 (40 + w) = 0) ∧ Fr (fun k j => (k = 114 ∧ j = 4) ∨ (k = 115 ∧ 40 ≤ j ∧ j < 50)) h h')) := by
  intro n
  induction n with
  | zero =>
    intro e h1 a1 a2 i1 i2 i3
    refine zS_iload_n (zdec eX10_clears 7 rfl) rfl ?_
    refine zS_bipush (zdec eX10_clears 8 rfl) rfl rfl ?_
    refine zS_icmp_ge (tgt := 27) (zdec eX10_clears 9 rfl) rfl (fun cz => ?_) (fun cz => absurd (by omega) cz)
    exact zlMV (zdec eX10_clears 16 rfl) rfl ⟨i1, fun w w0 w1 => i2 w w0 (by omega), i3⟩
  | succ n ih =>
    intro e h1 a1 a2 i1 i2 i3
    refine zS_iload_n (zdec eX10_clears 7 rfl) rfl ?_
    refine zS_bipush (zdec eX10_clears 8 rfl) rfl rfl ?_
    refine zS_icmp_ge (tgt := 27) (zdec eX10_clears 9 rfl) rfl (fun cz => absurd cz (by omega)) (fun cz => ?_)
    refine zS_aload_n (zdec eX10_clears 10 rfl) rfl rfl ?_
    refine zS_iload_n (zdec eX10_clears 11 rfl) rfl ?_
    refine zS_iconst (zdec eX10_clears 12 rfl) rfl ?_
    refine zvMV (M' := mX10_tells) (As := [zI e, zI 0]) (st := []) (zdec eX10_clears 13 rfl) kM_X10_174 kV_X10_tells ⟨by decide, rfl⟩ rfl rfl rfl rfl rfl (by omega) (r_tells (x := e) (v := 0) (by omega) (by omega)) (fun h2 e2 => ?_)
    subst e2
    refine zS_iinc (zdec eX10_clears 14 rfl) rfl rfl ⟨by omega, by omega⟩ ?_
    refine zS_goto (tgt := 9) (zdec eX10_clears 15 rfl) rfl ?_
    refine ih (e + 1) _ (by omega) (by omega) ((zset_n (by omega)).trans i1) (fun w w0 w1 => ?_) (i3.set (by omega))
    by_cases u : w = e
    · exact zset_e rfl (by omega)
    · rw [zset_n (by omega)]; exact i2 w w0 (by omega)
theorem r_clears0 {d : Nat} {h : zH} (hd : 1 ≤ d) : zMV d mX10_clears [zA 108] h (fun h' => h' 114 4 = 0 ∧ (∀ w, 0 ≤ w → w < 10 → h' 115 (40 + w) = 0) ∧ Fr (fun k j => (k = 114 ∧ j = 4) ∨ (k = 115 ∧ 40 ≤ j ∧ j < 50)) h h') := by
  refine zmet rfl rfl rfl ?_
  refine zS_aload_n (zdec eX10_clears 0 rfl) rfl rfl ?_
  refine zS_getref (i := 60) (zdec eX10_clears 1 rfl) kF_X10_31 ⟨by decide, rfl⟩ rfl rfl rfl rfl rfl ?_
  refine zS_iconst (zdec eX10_clears 2 rfl) rfl ?_
  refine zS_iconst (zdec eX10_clears 3 rfl) rfl ?_
  refine zS_iastore (zdec eX10_clears 4 rfl) ⟨by decide, rfl⟩ (by decide) (by decide) ?_
  refine zS_iconst (zdec eX10_clears 5 rfl) rfl ?_
  refine zS_istore_n (zdec eX10_clears 6 rfl) rfl ?_
  exact L_clears hd 10 0 _ (by omega) (by omega) (zset_s _ _ _ _) (fun w w0 w1 => by omega) (Fr.rf.set (by omega))
theorem DR.ze {h : zH} (e1 : h 114 4 = 0) (e2 : ∀ w, 0 ≤ w → w < 10 → h 115 (40 + w) = 0) : DR h 4 zeD :=
  ⟨e1, fun w w0 w1 => e2 w w0 (by omega), fun s s0 s1 s2 => by have : s < 0 := s2; omega, fun b w b0 b1 b2 => by have : b < 0 := b2; omega, fun i i0 i1 i2 => by have : i < 0 := i2; omega, fun i i0 i1 i2 => by have : i < 0 := i2; omega⟩
/-- the reader never goes back; with a fault it stands -/
theorem nx_le {B : Int → Int} {L : Int} {P : Tp} (V : TV L P) : P 5 ≤ nxP B L P 5 := by
  unfold nxP
  split
  · have s := skI_rng B V.2.1.2.2
    have r := tkR_rng B (L := L) (s := skI B L (P 5)) (by have := V.2.1; omega) s.2
    show P 5 ≤ (tkR B L (skI B L (P 5))).1
    omega
  · omega
theorem rfu_5 (P : Tp) (c : Int) : rfu P c 5 = P 5 := by unfold rfu; split <;> rfl
theorem tn_le {B : Int → Int} {L : Int} {P : Tp} (V : TV L P) (lo hi : Int) : P 5 ≤ tnP B L P lo hi 5 := by
  have k := nx_le (B := B) (V.tq lo hi)
  have e : tnQ P lo hi 5 = P 5 := by
    unfold tnQ
    split
    · exact rfu_5 _ _
    · split
      · exact rfu_5 _ _
      · rfl
  rw [e] at k
  exact k
theorem tw_le {B : Int → Int} {L : Int} {P : Tp} (V : TV L P) (i : Int) : P 5 ≤ twP B L P i 5 := by
  by_cases c : (decide (P 3 = 0) && isW B P i) = true
  · rw [twP_y c]; exact nx_le V
  · rw [twP_n (Bool.eq_false_iff.mpr c), rfu_5]; omega
theorem tf_le {B : Int → Int} {L : Int} {P : Tp} (V : TV L P) (i lo hi : Int) : P 5 ≤ tfP B L P i lo hi 5 := by
  have a := tw_le (B := B) V i
  have b := tn_le (B := B) (V.tw B i) lo hi
  exact Int.le_trans a b
theorem dk_le {B : Int → Int} {L : Int} {P : Tp} (V : TV L P) : P 5 ≤ dk6 B L P 5 := by
  obtain ⟨v0, v1, v2, v3, v4, v5, v6⟩ := V.dk B
  have a0 := tw_le (B := B) V 0
  have a1 := tf_le (B := B) v0 1 1 7
  have a2 := tf_le (B := B) v1 2 0 3
  have a3 := tf_le (B := B) v2 3 0 10
  have a4 := tf_le (B := B) v3 4 0 9999
  have a5 := tf_le (B := B) v4 5 0 5000
  have a6 := tf_le (B := B) v5 6 0 200
  exact Int.le_trans a0 (Int.le_trans a1 (Int.le_trans a2 (Int.le_trans a3 (Int.le_trans a4 (Int.le_trans a5 a6)))))
theorem bl_le {B : Int → Int} {L : Int} {P : Tp} {D : Dk} (V : TV L P) : P 5 ≤ blP B L P D 5 := by
  obtain ⟨v0, v1, v2, v3, v4, v5, v6⟩ := V.bl B D
  have a0 : P 5 ≤ bl0 B L P D 5 := nx_le V
  have a1 : bl0 B L P D 5 ≤ bl1 B L P D 5 := tf_le v0 10 0 _
  have a2 : bl1 B L P D 5 ≤ bl2 B L P D 5 := tf_le v1 11 1 3000
  have a3 : bl2 B L P D 5 ≤ bl3 B L P D 5 := tf_le v2 12 0 20
  have a4 : bl3 B L P D 5 ≤ bl4 B L P D 5 := tf_le v3 13 0 6
  have a5 : bl4 B L P D 5 ≤ bl5 B L P D 5 := tf_le v4 14 0 6
  have a6 : bl5 B L P D 5 ≤ bl6 B L P D 5 := tf_le v5 15 0 99
  have a7 : bl6 B L P D 5 ≤ blP B L P D 5 := by
    unfold blP
    split
    · exact tf_le v6 16 0 _
    · omega
  omega
theorem lnQ_le {B : Int → Int} {L : Int} {P : Tp} {D : Dk} (V : TV L P) : P 5 ≤ (lnQ B L P D).1 5 := by
  unfold lnQ
  split
  · exact dk_le V
  · split
    · show P 5 ≤ (if _ then _ else _ : Tp) 5
      split
      · rw [rfu_5]; omega
      · exact Int.le_trans (nx_le V) (tf_le (V.nx B) 8 0 9)
    · split
      · show P 5 ≤ (if _ then _ else _ : Tp) 5
        split
        · rw [rfu_5]; omega
        · exact bl_le V
      · split
        · show P 5 ≤ (if _ then _ else _ : Tp) 5
          split
          · rw [rfu_5]; omega
          · exact Int.le_trans (nx_le V) (Int.le_trans (tn_le (V.nx B) 1 3000) (tf_le ((V.nx B).tn B 1 3000) 17 0 6))
        · show P 5 ≤ rfu P 1 5
          rw [rfu_5]; omega

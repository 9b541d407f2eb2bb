def DR (h : zH) (a : Int) (D : Dk) : Prop := h 114 a = D 0 0 ∧ (∀ w, 0 ≤ w → w ≤ 9 → h 115 (10 * a + w) = D 0 (w + 1)) ∧ (∀ s, 0 ≤ s → s < 4 → s < D 0 7 → h 116 (4 * a + s) = D 1 s) ∧ (∀ b w, 0 ≤ b → b < 5 → b < D 0 8 → 0 ≤ w → w < 7 → h 117 (35 * a + 7 * b + w) = D (3 + b) w) ∧ (∀ i, 0 ≤ i → i < 6 → i < D 0 9 → h 118 (12 * a + 2 * i) = D 8 i ∧ h 118 (12 * a + 2 * i + 1) = D 9 i) ∧ ∀ i, 0 ≤ i → i < 20 → i < D 0 10 → h 119 (40 * a + 2 * i) = (if D 10 i < 5 then 0 else 1) ∧ h 119 (40 * a + 2 * i + 1) = (if D 10 i < 5 then D 10 i else D 10 i - 5)
section DRa
variable {h h' : zH} {D : Dk}
theorem DR.l (R : DR h 0 D) : h 114 0 = D 0 0 := R.1
theorem DR.s (R : DR h 0 D) {w v : Int} (h0 : 0 ≤ w) (h1 : w ≤ 9) (hv : w + 1 = v) : h 115 w = D 0 v := by
  have := R.2.1 w h0 h1
  rw [show (10 : Int) * 0 + w = w by omega, hv] at this
  exact this
theorem DR.rk (R : DR h 0 D) {s : Int} (h0 : 0 ≤ s) (h1 : s < 4) (h2 : s < D 0 7) : h 116 s = D 1 s := by
  have := R.2.2.1 s h0 h1 h2
  rw [show (4 : Int) * 0 + s = s by omega] at this
  exact this
theorem DR.row (R : DR h 0 D) {b w : Int} (h0 : 0 ≤ b) (h1 : b < 5) (h2 : b < D 0 8) (g0 : 0 ≤ w) (g1 : w < 7) : h 117 (7 * b + w) = D (3 + b) w := by
  have := R.2.2.2.1 b w h0 h1 h2 g0 g1
  rw [show (35 : Int) * 0 + 7 * b + w = 7 * b + w by omega] at this
  exact this
theorem DR.row0 (R : DR h 0 D) {b : Int} (h0 : 0 ≤ b) (h1 : b < 5) (h2 : b < D 0 8) : h 117 (7 * b) = D (3 + b) 0 := by
  have := R.row h0 h1 h2 (w := 0) (by omega) (by omega)
  rw [Int.add_zero] at this
  exact this
theorem DR.amt (R : DR h 0 D) {i : Int} (h0 : 0 ≤ i) (h1 : i < 6) (h2 : i < D 0 9) : h 118 (2 * i) = D 8 i := by
  have := (R.2.2.2.2.1 i h0 h1 h2).1
  rw [show (12 : Int) * 0 + 2 * i = 2 * i by omega] at this
  exact this
theorem DR.on' (R : DR h 0 D) {i : Int} (h0 : 0 ≤ i) (h1 : i < 6) (h2 : i < D 0 9) : h 118 (2 * i + 1) = D 9 i := by
  have := (R.2.2.2.2.1 i h0 h1 h2).2
  rw [show (12 : Int) * 0 + 2 * i + 1 = 2 * i + 1 by omega] at this
  exact this
theorem DR.ak (R : DR h 0 D) {i : Int} (h0 : 0 ≤ i) (h1 : i < 20) (h2 : i < D 0 10) : h 119 (2 * i) = (if D 10 i < 5 then 0 else 1) := by
  have := (R.2.2.2.2.2 i h0 h1 h2).1
  rw [show (40 : Int) * 0 + 2 * i = 2 * i by omega] at this
  exact this
theorem DR.ao (R : DR h 0 D) {i : Int} (h0 : 0 ≤ i) (h1 : i < 20) (h2 : i < D 0 10) : h 119 (2 * i + 1) = (if D 10 i < 5 then D 10 i else D 10 i - 5) := by
  have := (R.2.2.2.2.2 i h0 h1 h2).2
  rw [show (40 : Int) * 0 + 2 * i + 1 = 2 * i + 1 by omega] at this
  exact this
theorem DR.of {a : Int} (R : DR h a D) (e : ∀ k j, 114 ≤ k → k ≤ 119 → h' k j = h k j) : DR h' a D :=
  ⟨(e _ _ (by omega) (by omega)).trans R.1, fun w x y => (e _ _ (by omega) (by omega)).trans (R.2.1 w x y), fun s x y z => (e _ _ (by omega) (by omega)).trans (R.2.2.1 s x y z), fun b w x y z u v => (e _ _ (by omega) (by omega)).trans (R.2.2.2.1 b w x y z u v), fun i x y z => ⟨(e _ _ (by omega) (by omega)).trans (R.2.2.2.2.1 i x y z).1, (e _ _ (by omega) (by omega)).trans (R.2.2.2.2.1 i x y z).2⟩, fun i x y z => ⟨(e _ _ (by omega) (by omega)).trans (R.2.2.2.2.2 i x y z).1, (e _ _ (by omega) (by omega)).trans (R.2.2.2.2.2 i x y z).2⟩⟩
theorem DR.fr {S : Int → Int → Prop} {a : Int} (R : DR h a D) (f : Fr S h h') (hn : ∀ k j, S k j → ¬ (114 ≤ k ∧ k ≤ 119)) : DR h' a D := R.of (fun k j a b => f k j (fun z => hn k j z ⟨a, b⟩))
end DRa
abbrev sQR : Int → Int → Prop := fun k j => (k = 108 ∧ (j = 0 ∨ 23 ≤ j)) ∨ (121 ≤ k ∧ k ≤ 126)
theorem bit0 {k : Int} (h0 : 0 ≤ k) (h1 : k < 31) : bitB 0 k = false := by
  obtain ⟨n, rfl⟩ := Int.eq_ofNat_of_zero_le h0
  rw [show (0 : Int) = ((0 : Nat) : Int) from rfl, bitB_nat (by decide) (by omega), Nat.zero_testBit]
def ntI (D : Dk) (k b : Int) : Int := if anyI (fun i => D 10 i == b) k then D (3 + b) 1 else D (3 + b) 1 - D (3 + b) 6
theorem ntI_e (D : Dk) (b : Int) : ntI D (D 0 10) b = netD D b := rfl
theorem d_days {d : Nat} {h : zH} {D : Dk} (RD : DR h 0 D) : zPI d mX10_days [zA 108] h (D 0 1) := by
  refine zmet rfl rfl rfl ?_
  refine zS_aload_n (zdec eX10_days 0 rfl) rfl rfl ?_
  refine zS_getref (i := 61) (zdec eX10_days 1 rfl) kF_X10_34 ⟨by decide, rfl⟩ rfl rfl rfl rfl rfl ?_
  refine zS_iconst (zdec eX10_days 2 rfl) rfl ?_
  refine zS_ialoadE (v := (D 0 1)) (zdec eX10_days 3 rfl) ⟨by decide, rfl⟩ (by decide) (by decide) (RD.s (by decide) (by decide) (by decide)) ?_
  exact zlI (zdec eX10_days 4 rfl) rfl rfl
theorem d_bills {d : Nat} {h : zH} {D : Dk} (RD : DR h 0 D) : zPI d mX10_bills [zA 108] h (D 0 8) := by
  refine zmet rfl rfl rfl ?_
  refine zS_aload_n (zdec eX10_bills 0 rfl) rfl rfl ?_
  refine zS_getref (i := 61) (zdec eX10_bills 1 rfl) kF_X10_34 ⟨by decide, rfl⟩ rfl rfl rfl rfl rfl ?_
  refine zS_bipush (zdec eX10_bills 2 rfl) rfl rfl ?_
  refine zS_ialoadE (v := (D 0 8)) (zdec eX10_bills 3 rfl) ⟨by decide, rfl⟩ (by decide) (by decide) (RD.s (by decide) (by decide) (by decide)) ?_
  exact zlI (zdec eX10_bills 4 rfl) rfl rfl
theorem d_isDesk {d : Nat} {h : zH} {D : Dk} (VD : DV D) (RD : DR h 0 D) : zPI d mX10_isDesk [zA 108] h (d2i (0 < D 0 0)) := by
  have dy := VD.days
  have nb := VD.nb
  have ns := VD.ns
  refine zmet rfl rfl rfl ?_
  refine zS_aload_n (zdec eX10_isDesk 0 rfl) rfl rfl ?_
  refine zS_getref (i := 60) (zdec eX10_isDesk 1 rfl) kF_X10_31 ⟨by decide, rfl⟩ rfl rfl rfl rfl rfl ?_
  refine zS_iconst (zdec eX10_isDesk 2 rfl) rfl ?_
  refine zS_ialoadE (v := (D 0 0)) (zdec eX10_isDesk 3 rfl) ⟨by decide, rfl⟩ (by decide) (by decide) RD.l ?_
  refine zS_if_le (tgt := 13) (zdec eX10_isDesk 4 rfl) rfl (fun c1 => ?_) (fun c1 => ?_)
  · refine zS_iconst (zdec eX10_isDesk 7 rfl) rfl ?_
    exact zlZ (zdec eX10_isDesk 8 rfl) rfl (Or.inl rfl) (by rw [d2i_f (by omega)])
  · refine zS_iconst (zdec eX10_isDesk 5 rfl) rfl ?_
    refine zS_goto (tgt := 14) (zdec eX10_isDesk 6 rfl) rfl ?_
    exact zlZ (zdec eX10_isDesk 8 rfl) rfl (Or.inr rfl) (by rw [d2i_t (by omega)])
theorem d_isSup {d : Nat} {h : zH} {D : Dk} {x : Int} (hd : 2 ≤ d) (VD : DV D) (RD : DR h 0 D) : zPI d mX10_isSupplier [zA 108, zI x] h (d2i (0 ≤ x ∧ x < D 0 7)) := by
  have dy := VD.days
  have nb := VD.nb
  have ns := VD.ns
  refine zmet rfl rfl rfl ?_
  refine zS_iload_n (zdec eX10_isSupplier 0 rfl) rfl ?_
  refine zS_i2l (zdec eX10_isSupplier 1 rfl) ?_
  refine zS_lconst (zdec eX10_isSupplier 2 rfl) ?_
  refine zS_aload_n (zdec eX10_isSupplier 3 rfl) rfl rfl ?_
  refine zS_getref (i := 61) (zdec eX10_isSupplier 4 rfl) kF_X10_34 ⟨by decide, rfl⟩ rfl rfl rfl rfl rfl ?_
  refine zS_bipush (zdec eX10_isSupplier 5 rfl) rfl rfl ?_
  refine zS_ialoadE (v := (D 0 7)) (zdec eX10_isSupplier 6 rfl) ⟨by decide, rfl⟩ (by decide) (by decide) (RD.s (by decide) (by decide) (by decide)) ?_
  refine zS_i2l (zdec eX10_isSupplier 7 rfl) ?_
  refine zS_lconst (zdec eX10_isSupplier 8 rfl) ?_
  refine zS_lsub (zdec eX10_isSupplier 9 rfl) ⟨by omega, by omega⟩ ?_
  refine zsI (M' := mX10_in) (As := [zJ x, zJ 0, zJ ((D 0 7) - 1)]) (st := []) (zdec eX10_isSupplier 10 rfl) kM_X10_76 kS_X10_in rfl rfl rfl (by omega) r_in ?_
  exact zlZ (zdec eX10_isSupplier 11 rfl) rfl (by unfold d2i; split; exact Or.inr rfl; exact Or.inl rfl) (by first | rfl | (unfold d2i; congr 1; apply propext; omega))
theorem d_isBill {d : Nat} {h : zH} {D : Dk} {x : Int} (hd : 2 ≤ d) (VD : DV D) (RD : DR h 0 D) : zPI d mX10_isBill [zA 108, zJ x] h (d2i (0 ≤ x ∧ x < D 0 8)) := by
  have dy := VD.days
  have nb := VD.nb
  have ns := VD.ns
  refine zmet rfl rfl rfl ?_
  refine zS_lload_n (zdec eX10_isBill 0 rfl) rfl ?_
  refine zS_lconst (zdec eX10_isBill 1 rfl) ?_
  refine zS_aload_n (zdec eX10_isBill 2 rfl) rfl rfl ?_
  refine zvI (M' := mX10_bills) (As := []) (st := [zJ 0, zJ x]) (zdec eX10_isBill 3 rfl) kM_X10_236 kV_X10_bills ⟨by decide, rfl⟩ rfl rfl rfl rfl rfl (by omega) (d_bills RD) ?_
  refine zS_i2l (zdec eX10_isBill 4 rfl) ?_
  refine zS_lconst (zdec eX10_isBill 5 rfl) ?_
  refine zS_lsub (zdec eX10_isBill 6 rfl) ⟨by omega, by omega⟩ ?_
  refine zsI (M' := mX10_in) (As := [zJ x, zJ 0, zJ ((D 0 8) - 1)]) (st := []) (zdec eX10_isBill 7 rfl) kM_X10_76 kS_X10_in rfl rfl rfl (by omega) r_in ?_
  exact zlZ (zdec eX10_isBill 8 rfl) rfl (by unfold d2i; split; exact Or.inr rfl; exact Or.inl rfl) (by first | rfl | (unfold d2i; congr 1; apply propext; omega))
theorem d_isDay {d : Nat} {h : zH} {D : Dk} {x : Int} (hd : 2 ≤ d) (VD : DV D) (RD : DR h 0 D) : zPI d mX10_isDay [zA 108, zI x] h (d2i (0 ≤ x ∧ x < D 0 1)) := by
  have dy := VD.days
  have nb := VD.nb
  have ns := VD.ns
  refine zmet rfl rfl rfl ?_
  refine zS_iload_n (zdec eX10_isDay 0 rfl) rfl ?_
  refine zS_i2l (zdec eX10_isDay 1 rfl) ?_
  refine zS_lconst (zdec eX10_isDay 2 rfl) ?_
  refine zS_aload_n (zdec eX10_isDay 3 rfl) rfl rfl ?_
  refine zvI (M' := mX10_days) (As := []) (st := [zJ 0, zJ x]) (zdec eX10_isDay 4 rfl) kM_X10_240 kV_X10_days ⟨by decide, rfl⟩ rfl rfl rfl rfl rfl (by omega) (d_days RD) ?_
  refine zS_i2l (zdec eX10_isDay 5 rfl) ?_
  refine zS_lconst (zdec eX10_isDay 6 rfl) ?_
  refine zS_lsub (zdec eX10_isDay 7 rfl) ⟨by omega, by omega⟩ ?_
  refine zsI (M' := mX10_in) (As := [zJ x, zJ 0, zJ ((D 0 1) - 1)]) (st := []) (zdec eX10_isDay 8 rfl) kM_X10_76 kS_X10_in rfl rfl rfl (by omega) r_in ?_
  exact zlZ (zdec eX10_isDay 9 rfl) rfl (by unfold d2i; split; exact Or.inr rfl; exact Or.inl rfl) (by first | rfl | (unfold d2i; congr 1; apply propext; omega))
theorem d_areTwo {d : Nat} {h : zH} {D : Dk} {x y : Int} (hd : 3 ≤ d) (VD : DV D) (RD : DR h 0 D) : zPI d mX10_areTwo [zA 108, zI x, zI y] h (d2i ((0 ≤ x ∧ x < D 0 7) ∧ (0 ≤ y ∧ y < D 0 7) ∧ x ≠ y)) := by
  have dy := VD.days
  have nb := VD.nb
  have ns := VD.ns
  refine zmet rfl rfl rfl ?_
  refine zS_aload_n (zdec eX10_areTwo 0 rfl) rfl rfl ?_
  refine zS_iload_n (zdec eX10_areTwo 1 rfl) rfl ?_
  refine zvI (M' := mX10_isSupplier) (As := [zI x]) (st := []) (zdec eX10_areTwo 2 rfl) kM_X10_243 kV_X10_isSupplier ⟨by decide, rfl⟩ rfl rfl rfl rfl rfl (by omega) (d_isSup (by omega) VD RD) ?_
  refine zS_if_eq (tgt := 25) (zdec eX10_areTwo 3 rfl) rfl (fun c1 => ?_) (fun c1 => ?_)
  · have z1 := d2i_0.mp c1
    refine zS_iconst (zdec eX10_areTwo 13 rfl) rfl ?_
    exact zlZ (zdec eX10_areTwo 14 rfl) rfl (Or.inl rfl) (by rw [d2i_f (by omega)])
  · have z1 := d2i_n.mp c1
    refine zS_aload_n (zdec eX10_areTwo 4 rfl) rfl rfl ?_
    refine zS_iload_n (zdec eX10_areTwo 5 rfl) rfl ?_
    refine zvI (M' := mX10_isSupplier) (As := [zI y]) (st := []) (zdec eX10_areTwo 6 rfl) kM_X10_243 kV_X10_isSupplier ⟨by decide, rfl⟩ rfl rfl rfl rfl rfl (by omega) (d_isSup (by omega) VD RD) ?_
    refine zS_if_eq (tgt := 25) (zdec eX10_areTwo 7 rfl) rfl (fun c2 => ?_) (fun c2 => ?_)
    · have z2 := d2i_0.mp c2
      refine zS_iconst (zdec eX10_areTwo 13 rfl) rfl ?_
      exact zlZ (zdec eX10_areTwo 14 rfl) rfl (Or.inl rfl) (by rw [d2i_f (by omega)])
    · have z2 := d2i_n.mp c2
      refine zS_iload_n (zdec eX10_areTwo 8 rfl) rfl ?_
      refine zS_iload_n (zdec eX10_areTwo 9 rfl) rfl ?_
      refine zS_icmp_eq (tgt := 25) (zdec eX10_areTwo 10 rfl) rfl (fun c3 => ?_) (fun c3 => ?_)
      · refine zS_iconst (zdec eX10_areTwo 13 rfl) rfl ?_
        exact zlZ (zdec eX10_areTwo 14 rfl) rfl (Or.inl rfl) (by rw [d2i_f (by omega)])
      · refine zS_iconst (zdec eX10_areTwo 11 rfl) rfl ?_
        refine zS_goto (tgt := 26) (zdec eX10_areTwo 12 rfl) rfl ?_
        exact zlZ (zdec eX10_areTwo 14 rfl) rfl (Or.inr rfl) (by rw [d2i_t (by omega)])
theorem d_isHalf {d : Nat} {h : zH} {x : Int} (hd : 1 ≤ d) : zPI d mX10_isHalf [zI x] h (d2i (0 ≤ x ∧ x ≤ 1)) := by
  refine zmet rfl rfl rfl ?_
  refine zS_iload_n (zdec eX10_isHalf 0 rfl) rfl ?_
  refine zS_i2l (zdec eX10_isHalf 1 rfl) ?_
  refine zS_lconst (zdec eX10_isHalf 2 rfl) ?_
  refine zS_lconst (zdec eX10_isHalf 3 rfl) ?_
  refine zsI (M' := mX10_in) (As := [zJ x, zJ 0, zJ 1]) (st := []) (zdec eX10_isHalf 4 rfl) kM_X10_76 kS_X10_in rfl rfl rfl (by omega) r_in ?_
  exact zlZ (zdec eX10_isHalf 5 rfl) rfl (by unfold d2i; split; exact Or.inr rfl; exact Or.inl rfl) (by first | rfl | (unfold d2i; congr 1; apply propext; omega))
theorem d_isSeed {d : Nat} {h : zH} {x : Int} (hd : 1 ≤ d) : zPI d mX10_isSeed [zI x] h (d2i (0 ≤ x ∧ x ≤ 2000000000)) := by
  refine zmet rfl rfl rfl ?_
  refine zS_iload_n (zdec eX10_isSeed 0 rfl) rfl ?_
  refine zS_i2l (zdec eX10_isSeed 1 rfl) ?_
  refine zS_lconst (zdec eX10_isSeed 2 rfl) ?_
  refine zS_ldc2_w (zdec eX10_isSeed 3 rfl) kj_X10_470 rfl ?_
  refine zsI (M' := mX10_in) (As := [zJ x, zJ 0, zJ 2000000000]) (st := []) (zdec eX10_isSeed 4 rfl) kM_X10_76 kS_X10_in rfl rfl rfl (by omega) r_in ?_
  exact zlZ (zdec eX10_isSeed 5 rfl) rfl (by unfold d2i; split; exact Or.inr rfl; exact Or.inl rfl) (by first | rfl | (unfold d2i; congr 1; apply propext; omega))
theorem d_isSlot {d : Nat} {h : zH} {x : Int} (hd : 1 ≤ d) : zPI d mX10_isSlot [zI x] h (d2i (0 ≤ x ∧ x ≤ 3)) := by
  refine zmet rfl rfl rfl ?_
  refine zS_iload_n (zdec eX10_isSlot 0 rfl) rfl ?_
  refine zS_i2l (zdec eX10_isSlot 1 rfl) ?_
  refine zS_lconst (zdec eX10_isSlot 2 rfl) ?_
  refine zS_ldc2_w (zdec eX10_isSlot 3 rfl) kj_X10_74 rfl ?_
  refine zsI (M' := mX10_in) (As := [zJ x, zJ 0, zJ 3]) (st := []) (zdec eX10_isSlot 4 rfl) kM_X10_76 kS_X10_in rfl rfl rfl (by omega) r_in ?_
  exact zlZ (zdec eX10_isSlot 5 rfl) rfl (by unfold d2i; split; exact Or.inr rfl; exact Or.inl rfl) (by first | rfl | (unfold d2i; congr 1; apply propext; omega))
theorem L_lays2 {d : Nat} {h : zH} {D : Dk} (hd : 1 ≤ d) (VD : DV D) (hd0 : 0 < D 0 0) (RD : DR h 0 D) : ∀ (n : Nat) (e : Int) (h1 : zH), 0 ≤ e → e + n = D 0 10 → Fr (fun k j => (k = 108 ∧ 23 ≤ j ∧ j ≤ 28) ∨ k = 121 ∨ k = 122) h h1 → h1 108 23 = D 0 2 → h1 108 24 = D 0 4 → h1 108 25 = D 0 5 → h1 108 26 = 0 → h1 108 28 = 0 → h1 108 27 = clI D e → (∀ b, 0 ≤ b → b < D 0 8 → h1 121 b = D (3 + b) 2 ∧ h1 122 b = ntI D e b) → zS mX10_lays (zr d) 110 [zA 108, zI e, zN] [] TT h1 (zAnV (fun h' => WR h' (pb0 D) ∧ h' 108 27 = clI D (D 0 10) ∧ Fr (fun k j => (k = 108 ∧ 23 ≤ j ∧ j ≤ 28) ∨ k = 121 ∨ k = 122) h h')) := by
  intro n
  induction n with
  | zero =>
    intro e h1 a1 a2 i1 c23 c24 c25 c26 c28 c27 nt
    have RD1 : DR h1 0 D := RD.fr i1 (fun k j z => by omega)
    have nb := VD.nb
    have na := VD.na
    refine zS_iload_n (zdec eX10_lays 70 rfl) rfl ?_
    refine zS_aload_n (zdec eX10_lays 71 rfl) rfl rfl ?_
    refine zS_getref (i := 61) (zdec eX10_lays 72 rfl) kF_X10_34 ⟨by decide, rfl⟩ rfl rfl rfl rfl rfl ?_
    refine zS_bipush (zdec eX10_lays 73 rfl) rfl rfl ?_
    refine zS_ialoadE (v := (D 0 10)) (zdec eX10_lays 74 rfl) ⟨by decide, rfl⟩ (by decide) (by decide) (RD1.s (by decide) (by decide) (by decide)) ?_
    refine zS_icmp_ge (tgt := 182) (zdec eX10_lays 75 rfl) rfl (fun cz => ?_) (fun cz => absurd (by omega) cz)
    have he : e = D 0 10 := by omega
    have nl := VD.nl
    refine zlMV (zdec eX10_lays 116 rfl) rfl ⟨⟨RD1.s (by decide) (by decide) rfl, RD1.s (by decide) (by decide) rfl, RD1.s (by decide) (by decide) rfl, c25, c23, c24, RD1.s (by decide) (by decide) rfl, fun b b0 b1 => ?_, fun i i0 i1 => ?_, fun t t0 t1 => ?_, fun b b0 b1 => ?_, fun i i0 i1 => ?_⟩, by rw [c27, he], i1⟩
    · have b1 : b < D 0 8 := b1
      have rw_ := VD.row b0 b1
      have nv := nt b b0 b1
      rw [he] at nv
      exact ⟨nv.2, nv.1, RD1.row b0 (by omega) b1 (by omega) (by omega), RD1.row b0 (by omega) b1 (by omega) (by omega), RD1.row b0 (by omega) b1 (by omega) (by omega), RD1.rk (s := D (3 + b) 0) rw_.1.1 (by have := VD.ns; omega) rw_.1.2, RD1.row0 b0 (by omega) b1⟩
    · exact ⟨RD1.amt i0 (by have : i < D 0 9 := i1; omega) i1, RD1.on' i0 (by have : i < D 0 9 := i1; omega) i1⟩
    · rw [c27, he]; exact (clI_is VD na.1 (Int.le_refl _)).2 t t0 (by omega)
    · rw [c26]; exact bit0 b0 (by have : b < D 0 8 := b1; omega)
    · rw [c28]; exact bit0 i0 (by have : i < D 0 9 := i1; omega)
  | succ n ih =>
    intro e h1 a1 a2 i1 c23 c24 c25 c26 c28 c27 nt
    have RD1 : DR h1 0 D := RD.fr i1 (fun k j z => by omega)
    have nb := VD.nb
    have na := VD.na
    have ac := VD.act a1 (show e < D 0 10 by omega)
    refine zS_iload_n (zdec eX10_lays 70 rfl) rfl ?_
    refine zS_aload_n (zdec eX10_lays 71 rfl) rfl rfl ?_
    refine zS_getref (i := 61) (zdec eX10_lays 72 rfl) kF_X10_34 ⟨by decide, rfl⟩ rfl rfl rfl rfl rfl ?_
    refine zS_bipush (zdec eX10_lays 73 rfl) rfl rfl ?_
    refine zS_ialoadE (v := (D 0 10)) (zdec eX10_lays 74 rfl) ⟨by decide, rfl⟩ (by decide) (by decide) (RD1.s (by decide) (by decide) (by decide)) ?_
    refine zS_icmp_ge (tgt := 182) (zdec eX10_lays 75 rfl) rfl (fun cz => absurd cz (by omega)) (fun cz => ?_)
    refine zS_aload_n (zdec eX10_lays 76 rfl) rfl rfl ?_
    refine zS_getref (i := 65) (zdec eX10_lays 77 rfl) kF_X10_46 ⟨by decide, rfl⟩ rfl rfl rfl rfl rfl ?_
    refine zS_iconst (zdec eX10_lays 78 rfl) rfl ?_
    refine zS_iload_n (zdec eX10_lays 79 rfl) rfl ?_
    refine zS_imul (zdec eX10_lays 80 rfl) ⟨by omega, by omega⟩ ?_
    refine zS_iconst (zdec eX10_lays 81 rfl) rfl ?_
    refine zS_iadd (zdec eX10_lays 82 rfl) ⟨by omega, by omega⟩ ?_
    refine zS_ialoadE (v := (if D 10 e < 5 then D 10 e else D 10 e - 5)) (zdec eX10_lays 83 rfl) ⟨by decide, rfl⟩ (by omega) (by omega) (RD1.ao (by omega) (by omega) (by omega)) ?_
    refine zS_istore_n (zdec eX10_lays 84 rfl) rfl ?_
    refine zS_aload_n (zdec eX10_lays 85 rfl) rfl rfl ?_
    refine zS_getref (i := 65) (zdec eX10_lays 86 rfl) kF_X10_46 ⟨by decide, rfl⟩ rfl rfl rfl rfl rfl ?_
    refine zS_iconst (zdec eX10_lays 87 rfl) rfl ?_
    refine zS_iload_n (zdec eX10_lays 88 rfl) rfl ?_
    refine zS_imul (zdec eX10_lays 89 rfl) ⟨by omega, by omega⟩ ?_
    refine zS_ialoadE (v := (if D 10 e < 5 then 0 else 1)) (zdec eX10_lays 90 rfl) ⟨by decide, rfl⟩ (by omega) (by omega) (RD1.ak (by omega) (by omega) (by omega)) ?_
    refine zS_iconst (zdec eX10_lays 91 rfl) rfl ?_
    refine zS_icmp_ne (tgt := 159) (zdec eX10_lays 92 rfl) rfl (fun c1 => ?_) (fun c1 => ?_)
    · have hof : 0 ≤ (if D 10 e < 5 then D 10 e else D 10 e - 5) ∧ (if D 10 e < 5 then D 10 e else D 10 e - 5) < D 0 8 := by split at c1 <;> (try split) <;> omega
      refine zS_aload_n (zdec eX10_lays 102 rfl) rfl rfl ?_
      refine zS_getref (i := 68) (zdec eX10_lays 103 rfl) kF_X10_56 ⟨by decide, rfl⟩ rfl rfl rfl rfl rfl ?_
      refine zS_iload_n (zdec eX10_lays 104 rfl) rfl ?_
      refine zS_aload_n (zdec eX10_lays 105 rfl) rfl rfl ?_
      refine zS_getref (i := 63) (zdec eX10_lays 106 rfl) kF_X10_40 ⟨by decide, rfl⟩ rfl rfl rfl rfl rfl ?_
      refine zS_bipush (zdec eX10_lays 107 rfl) rfl rfl ?_
      refine zS_iload_n (zdec eX10_lays 108 rfl) rfl ?_
      refine zS_imul (zdec eX10_lays 109 rfl) ⟨by omega, by omega⟩ ?_
      refine zS_iconst (zdec eX10_lays 110 rfl) rfl ?_
      refine zS_iadd (zdec eX10_lays 111 rfl) ⟨by omega, by omega⟩ ?_
      refine zS_ialoadE (v := (D (3 + (if D 10 e < 5 then D 10 e else D 10 e - 5)) 1)) (zdec eX10_lays 112 rfl) ⟨by decide, rfl⟩ (by omega) (by omega) (RD1.row (by omega) (by omega) (by omega) (by omega) (by omega)) ?_
      refine zS_iastore (zdec eX10_lays 113 rfl) ⟨by decide, rfl⟩ (by omega) (by omega) ?_
      refine zS_iinc (zdec eX10_lays 114 rfl) rfl rfl ⟨by omega, by omega⟩ ?_
      refine zS_goto (tgt := 110) (zdec eX10_lays 115 rfl) rfl ?_
      refine zS_forget (i := 2) ?_
      have hc : D 10 e < 5 := by split at c1 <;> omega
      rw [if_pos hc]
      refine ih (e + 1) _ (by omega) (by omega) (i1.set (by omega)) (by rw [zset_n (by omega)]; exact c23) (by rw [zset_n (by omega)]; exact c24) (by rw [zset_n (by omega)]; exact c25) (by rw [zset_n (by omega)]; exact c26) (by rw [zset_n (by omega)]; exact c28) (by rw [zset_n (by omega), clI_s _ a1, if_pos hc]; exact c27) (fun b b0 b1 => ?_)
      have t := nt b b0 b1
      refine ⟨by rw [zset_n (by omega)]; exact t.1, ?_⟩
      unfold ntI
      rw [anyI_s _ a1]
      by_cases w : b = D 10 e
      · rw [w, zset_s, show (D 10 e == D 10 e) = true from beq_self_eq_true _, Bool.or_true, if_pos rfl]
      · rw [zset_j w, show (D 10 e == b) = false by simpa using fun z => w z.symm, Bool.or_false]; exact t.2
    · refine zS_aload_n (zdec eX10_lays 93 rfl) rfl rfl ?_
      refine zS_dup (zdec eX10_lays 94 rfl) (fun q => by cases q) ?_
      refine zS_getfieldE (x := 27) (v := (clI D e)) (zdec eX10_lays 95 rfl) kF_X10_261 ⟨by decide, rfl⟩ rfl rfl rfl c27 ?_
      refine zS_iconst (zdec eX10_lays 96 rfl) rfl ?_
      refine zS_iload_n (zdec eX10_lays 97 rfl) rfl ?_
      refine zS_ishl (zdec eX10_lays 98 rfl) ?_
      refine zS_ior (zdec eX10_lays 99 rfl) ?_
      refine zS_putfield (x := 27) (zdec eX10_lays 100 rfl) kF_X10_261 (Or.inl kf10_27) ⟨by decide, rfl⟩ rfl rfl rfl (Or.inl (fun q => by cases q)) ?_
      refine zS_goto (tgt := 176) (zdec eX10_lays 101 rfl) rfl ?_
      refine zS_iinc (zdec eX10_lays 114 rfl) rfl rfl ⟨by omega, by omega⟩ ?_
      refine zS_goto (tgt := 110) (zdec eX10_lays 115 rfl) rfl ?_
      refine zS_forget (i := 2) ?_
      have hc : ¬ D 10 e < 5 := by split at c1 <;> omega
      rw [if_neg hc]
      refine ih (e + 1) _ (by omega) (by omega) (i1.set (by omega)) (by rw [zset_n (by omega)]; exact c23) (by rw [zset_n (by omega)]; exact c24) (by rw [zset_n (by omega)]; exact c25) (by rw [zset_n (by omega)]; exact c26) (by rw [zset_n (by omega)]; exact c28) (by rw [zset_s, clI_s _ a1, if_neg hc]) (fun b b0 b1 => ?_)
      have t := nt b b0 b1
      refine ⟨by rw [zset_n (by omega)]; exact t.1, ?_⟩
      unfold ntI
      rw [anyI_s _ a1, zset_n (by omega), show (D 10 e == b) = false by simpa using (show ¬ (D 10 e = b) by omega), Bool.or_false]; exact t.2
theorem L_lays1 {d : Nat} {h : zH} {D : Dk} (hd : 1 ≤ d) (VD : DV D) (hd0 : 0 < D 0 0) (RD : DR h 0 D) : ∀ (n : Nat) (e : Int) (h1 : zH), 0 ≤ e → e + n = D 0 8 → Fr (fun k j => (k = 108 ∧ 23 ≤ j ∧ j ≤ 28) ∨ k = 121 ∨ k = 122) h h1 → h1 108 23 = D 0 2 → h1 108 24 = D 0 4 → h1 108 25 = D 0 5 → h1 108 26 = 0 → h1 108 28 = 0 → h1 108 27 = 0 → (∀ b, 0 ≤ b → b < e → h1 121 b = D (3 + b) 2 ∧ h1 122 b = D (3 + b) 1 - D (3 + b) 6) → zS mX10_lays (zr d) 47 [zA 108, zI e, zN] [] TT h1 (zAnV (fun h' => WR h' (pb0 D) ∧ h' 108 27 = clI D (D 0 10) ∧ Fr (fun k j => (k = 108 ∧ 23 ≤ j ∧ j ≤ 28) ∨ k = 121 ∨ k = 122) h h')) := by
  intro n
  induction n with
  | zero =>
    intro e h1 a1 a2 i1 c23 c24 c25 c26 c28 c27 nt
    have RD1 : DR h1 0 D := RD.fr i1 (fun k j z => by omega)
    have nb := VD.nb
    have na := VD.na
    refine zS_iload_n (zdec eX10_lays 29 rfl) rfl ?_
    refine zS_aload_n (zdec eX10_lays 30 rfl) rfl rfl ?_
    refine zvI (M' := mX10_bills) (As := []) (st := [zI e]) (zdec eX10_lays 31 rfl) kM_X10_236 kV_X10_bills ⟨by decide, rfl⟩ rfl rfl rfl rfl rfl (by omega) (d_bills RD1) ?_
    refine zS_icmp_ge (tgt := 108) (zdec eX10_lays 32 rfl) rfl (fun cz => ?_) (fun cz => absurd (by omega) cz)
    refine zS_iconst (zdec eX10_lays 68 rfl) rfl ?_
    refine zS_istore_n (zdec eX10_lays 69 rfl) rfl ?_
    exact L_lays2 hd VD hd0 RD (D 0 10).toNat 0 h1 (by omega) (by omega) i1 c23 c24 c25 c26 c28 c27 (fun b b0 b1 => nt b b0 (by omega))
  | succ n ih =>
    intro e h1 a1 a2 i1 c23 c24 c25 c26 c28 c27 nt
    have RD1 : DR h1 0 D := RD.fr i1 (fun k j z => by omega)
    have nb := VD.nb
    have na := VD.na
    have rwx := VD.row a1 (show e < D 0 8 by omega)
    refine zS_iload_n (zdec eX10_lays 29 rfl) rfl ?_
    refine zS_aload_n (zdec eX10_lays 30 rfl) rfl rfl ?_
    refine zvI (M' := mX10_bills) (As := []) (st := [zI e]) (zdec eX10_lays 31 rfl) kM_X10_236 kV_X10_bills ⟨by decide, rfl⟩ rfl rfl rfl rfl rfl (by omega) (d_bills RD1) ?_
    refine zS_icmp_ge (tgt := 108) (zdec eX10_lays 32 rfl) rfl (fun cz => absurd cz (by omega)) (fun cz => ?_)
    refine zS_aload_n (zdec eX10_lays 33 rfl) rfl rfl ?_
    refine zS_getref (i := 67) (zdec eX10_lays 34 rfl) kF_X10_53 ⟨by decide, rfl⟩ rfl rfl rfl rfl rfl ?_
    refine zS_iload_n (zdec eX10_lays 35 rfl) rfl ?_
    refine zS_aload_n (zdec eX10_lays 36 rfl) rfl rfl ?_
    refine zS_getref (i := 63) (zdec eX10_lays 37 rfl) kF_X10_40 ⟨by decide, rfl⟩ rfl rfl rfl rfl rfl ?_
    refine zS_bipush (zdec eX10_lays 38 rfl) rfl rfl ?_
    refine zS_iload_n (zdec eX10_lays 39 rfl) rfl ?_
    refine zS_imul (zdec eX10_lays 40 rfl) ⟨by omega, by omega⟩ ?_
    refine zS_iconst (zdec eX10_lays 41 rfl) rfl ?_
    refine zS_iadd (zdec eX10_lays 42 rfl) ⟨by omega, by omega⟩ ?_
    refine zS_ialoadE (v := (D (3 + e) 2)) (zdec eX10_lays 43 rfl) ⟨by decide, rfl⟩ (by omega) (by omega) (RD1.row (by omega) (by omega) (by omega) (by omega) (by omega)) ?_
    refine zS_iastore (zdec eX10_lays 44 rfl) ⟨by decide, rfl⟩ (by omega) (by omega) ?_
    refine zS_aload_n (zdec eX10_lays 45 rfl) rfl rfl ?_
    refine zS_getref (i := 68) (zdec eX10_lays 46 rfl) kF_X10_56 ⟨by decide, rfl⟩ rfl rfl rfl rfl rfl ?_
    refine zS_iload_n (zdec eX10_lays 47 rfl) rfl ?_
    refine zS_aload_n (zdec eX10_lays 48 rfl) rfl rfl ?_
    refine zS_getref (i := 63) (zdec eX10_lays 49 rfl) kF_X10_40 ⟨by decide, rfl⟩ rfl rfl rfl rfl rfl ?_
    refine zS_bipush (zdec eX10_lays 50 rfl) rfl rfl ?_
    refine zS_iload_n (zdec eX10_lays 51 rfl) rfl ?_
    refine zS_imul (zdec eX10_lays 52 rfl) ⟨by omega, by omega⟩ ?_
    refine zS_iconst (zdec eX10_lays 53 rfl) rfl ?_
    refine zS_iadd (zdec eX10_lays 54 rfl) ⟨by omega, by omega⟩ ?_
    refine zS_ialoadE (v := (D (3 + e) 1)) (zdec eX10_lays 55 rfl) ⟨by decide, rfl⟩ (by omega) (by omega) ((congrFun (zset_k (by decide)) _).trans (RD1.row (by omega) (by omega) (by omega) (by omega) (by omega))) ?_
    refine zS_aload_n (zdec eX10_lays 56 rfl) rfl rfl ?_
    refine zS_getref (i := 63) (zdec eX10_lays 57 rfl) kF_X10_40 ⟨by decide, rfl⟩ rfl rfl rfl rfl rfl ?_
    refine zS_bipush (zdec eX10_lays 58 rfl) rfl rfl ?_
    refine zS_iload_n (zdec eX10_lays 59 rfl) rfl ?_
    refine zS_imul (zdec eX10_lays 60 rfl) ⟨by omega, by omega⟩ ?_
    refine zS_bipush (zdec eX10_lays 61 rfl) rfl rfl ?_
    refine zS_iadd (zdec eX10_lays 62 rfl) ⟨by omega, by omega⟩ ?_
    refine zS_ialoadE (v := (D (3 + e) 6)) (zdec eX10_lays 63 rfl) ⟨by decide, rfl⟩ (by omega) (by omega) ((congrFun (zset_k (by decide)) _).trans (RD1.row (by omega) (by omega) (by omega) (by omega) (by omega))) ?_
    refine zS_isub (zdec eX10_lays 64 rfl) ⟨by omega, by omega⟩ ?_
    refine zS_iastore (zdec eX10_lays 65 rfl) ⟨by decide, rfl⟩ (by omega) (by omega) ?_
    refine zS_iinc (zdec eX10_lays 66 rfl) rfl rfl ⟨by omega, by omega⟩ ?_
    refine zS_goto (tgt := 47) (zdec eX10_lays 67 rfl) rfl ?_
    refine ih (e + 1) _ (by omega) (by omega) ((i1.set (by omega)).set (by omega)) (by rw [zset_n (by omega), zset_n (by omega)]; exact c23) (by rw [zset_n (by omega), zset_n (by omega)]; exact c24) (by rw [zset_n (by omega), zset_n (by omega)]; exact c25) (by rw [zset_n (by omega), zset_n (by omega)]; exact c26) (by rw [zset_n (by omega), zset_n (by omega)]; exact c28) (by rw [zset_n (by omega), zset_n (by omega)]; exact c27) (fun b b0 b1 => ?_)
    by_cases w : b = e
    · rw [w, zset_n (by omega), zset_s, zset_s]; exact ⟨rfl, rfl⟩
    · rw [zset_n (by omega), zset_j w, zset_j w, zset_n (by omega)]; exact nt b b0 (by omega)
theorem r_lays {d : Nat} {h : zH} {D : Dk} (hd : 1 ≤ d) (VD : DV D) (hd0 : 0 < D 0 0) (RD : DR h 0 D) : zMV d mX10_lays [zA 108] h (fun h' => WR h' (pb0 D) ∧ h' 108 27 = clI D (D 0 10) ∧ Fr (fun k j => (k = 108 ∧ 23 ≤ j ∧ j ≤ 28) ∨ k = 121 ∨ k = 122) h h') := by
  have nb := VD.nb
  refine zmet rfl rfl rfl ?_
  refine zS_aload_n (zdec eX10_lays 0 rfl) rfl rfl ?_
  refine zS_aload_n (zdec eX10_lays 1 rfl) rfl rfl ?_
  refine zS_getref (i := 61) (zdec eX10_lays 2 rfl) kF_X10_34 ⟨by decide, rfl⟩ rfl rfl rfl rfl rfl ?_
  refine zS_iconst (zdec eX10_lays 3 rfl) rfl ?_
  refine zS_ialoadE (v := (D 0 2)) (zdec eX10_lays 4 rfl) ⟨by decide, rfl⟩ (by decide) (by decide) (RD.s (by decide) (by decide) (by decide)) ?_
  refine zS_putfield (x := 23) (zdec eX10_lays 5 rfl) kF_X10_246 (Or.inl kf10_23) ⟨by decide, rfl⟩ rfl rfl rfl (Or.inl (fun q => by cases q)) ?_
  refine zS_aload_n (zdec eX10_lays 6 rfl) rfl rfl ?_
  refine zS_aload_n (zdec eX10_lays 7 rfl) rfl rfl ?_
  refine zS_getref (i := 61) (zdec eX10_lays 8 rfl) kF_X10_34 ⟨by decide, rfl⟩ rfl rfl rfl rfl rfl ?_
  refine zS_iconst (zdec eX10_lays 9 rfl) rfl ?_
  refine zS_ialoadE (v := (D 0 4)) (zdec eX10_lays 10 rfl) ⟨by decide, rfl⟩ (by decide) (by decide) ((congrFun (zset_k (by decide)) _).trans (RD.s (by decide) (by decide) (by decide))) ?_
  refine zS_putfield (x := 24) (zdec eX10_lays 11 rfl) kF_X10_249 (Or.inl kf10_24) ⟨by decide, rfl⟩ rfl rfl rfl (Or.inl (fun q => by cases q)) ?_
  refine zS_aload_n (zdec eX10_lays 12 rfl) rfl rfl ?_
  refine zS_aload_n (zdec eX10_lays 13 rfl) rfl rfl ?_
  refine zS_getref (i := 61) (zdec eX10_lays 14 rfl) kF_X10_34 ⟨by decide, rfl⟩ rfl rfl rfl rfl rfl ?_
  refine zS_iconst (zdec eX10_lays 15 rfl) rfl ?_
  refine zS_ialoadE (v := (D 0 5)) (zdec eX10_lays 16 rfl) ⟨by decide, rfl⟩ (by decide) (by decide) ((congrFun (zset_k (by decide)) _).trans ((congrFun (zset_k (by decide)) _).trans (RD.s (by decide) (by decide) (by decide)))) ?_
  refine zS_putfield (x := 25) (zdec eX10_lays 17 rfl) kF_X10_252 (Or.inl kf10_25) ⟨by decide, rfl⟩ rfl rfl rfl (Or.inl (fun q => by cases q)) ?_
  refine zS_aload_n (zdec eX10_lays 18 rfl) rfl rfl ?_
  refine zS_iconst (zdec eX10_lays 19 rfl) rfl ?_
  refine zS_putfield (x := 26) (zdec eX10_lays 20 rfl) kF_X10_255 (Or.inl kf10_26) ⟨by decide, rfl⟩ rfl rfl rfl (Or.inl (fun q => by cases q)) ?_
  refine zS_aload_n (zdec eX10_lays 21 rfl) rfl rfl ?_
  refine zS_iconst (zdec eX10_lays 22 rfl) rfl ?_
  refine zS_putfield (x := 28) (zdec eX10_lays 23 rfl) kF_X10_258 (Or.inl kf10_28) ⟨by decide, rfl⟩ rfl rfl rfl (Or.inl (fun q => by cases q)) ?_
  refine zS_aload_n (zdec eX10_lays 24 rfl) rfl rfl ?_
  refine zS_iconst (zdec eX10_lays 25 rfl) rfl ?_
  refine zS_putfield (x := 27) (zdec eX10_lays 26 rfl) kF_X10_261 (Or.inl kf10_27) ⟨by decide, rfl⟩ rfl rfl rfl (Or.inl (fun q => by cases q)) ?_
  refine zS_iconst (zdec eX10_lays 27 rfl) rfl ?_
  refine zS_istore_n (zdec eX10_lays 28 rfl) rfl ?_
  exact L_lays1 hd VD hd0 RD (D 0 8).toNat 0 _ (by omega) (by omega) ((((((Fr.rf.set (by omega)).set (by omega)).set (by omega)).set (by omega)).set (by omega)).set (by omega)) rfl rfl rfl rfl rfl rfl (fun b b0 b1 => by omega)

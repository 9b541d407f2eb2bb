def BR (h : zH) (B : Int → Int) (L : Int) : Prop := h 108 6 = L ∧ ∀ i, 0 ≤ i → i < L → h 113 i = B i
theorem BR.set {h : zH} {B : Int → Int} {L k j v : Int} (R : BR h B L) (h1 : ¬ (k = 108 ∧ j = 6)) (h2 : k ≠ 113) : BR (zset h k j v) B L :=
  ⟨(zset_n (by omega)).trans R.1, fun i i0 i1 => (zset_n (by omega)).trans (R.2 i i0 i1)⟩
theorem BR.fr {S : Int → Int → Prop} {h h' : zH} {B : Int → Int} {L : Int} (R : BR h B L) (f : Fr S h h') (hn : ∀ k j, S k j → ¬ ((k = 108 ∧ j = 6) ∨ k = 113)) : BR h' B L :=
  ⟨(f _ _ (fun z => hn _ _ z (Or.inl ⟨rfl, rfl⟩))).trans R.1, fun i i0 i1 => (f _ _ (fun z => hn _ _ z (Or.inr rfl))).trans (R.2 i i0 i1)⟩
/-- a word's number, base 27 -/
def wdN (f : Int → Int) : Nat → Int
  | 0 => 0
  | n + 1 => 27 * wdN f n + (f n - 96)
def wdI (f : Int → Int) (k : Int) : Int := wdN f k.toNat
def wcC (f : Int → Int) (k : Int) : Int := if k ≤ 12 then wdI f k else -1
theorem wdI_s (f : Int → Int) {k : Int} (h : 0 ≤ k) : wdI f (k + 1) = 27 * wdI f k + (f k - 96) := by
  unfold wdI
  rw [show (k + 1).toNat = k.toNat + 1 by omega]
  show 27 * wdN f k.toNat + (f (k.toNat : Int) - 96) = _
  rw [Int.toNat_of_nonneg h]
theorem wdN_b (f : Int → Int) : ∀ n : Nat, (∀ i : Int, 0 ≤ i → i < n → 97 ≤ f i ∧ f i ≤ 122) → 0 ≤ wdN f n ∧ wdN f n < ((27 ^ n : Nat) : Int) := by
  intro n
  induction n with
  | zero => intro _; exact ⟨Int.le_refl 0, Int.zero_lt_one⟩
  | succ n ih =>
    intro hf
    have k := ih (fun i i0 i1 => hf i i0 (by omega))
    have q := hf n (by omega) (by omega)
    show 0 ≤ 27 * wdN f n + (f n - 96) ∧ 27 * wdN f n + (f n - 96) < ((27 ^ n * 27 : Nat) : Int)
    rw [Int.natCast_mul]
    generalize ((27 ^ n : Nat) : Int) = m at *
    omega
theorem wdI_b {f : Int → Int} {k : Int} (h : 0 ≤ k) (h1 : k ≤ 11) (hf : ∀ i, 0 ≤ i → i < k → 97 ≤ f i ∧ f i ≤ 122) : 0 ≤ wdI f k ∧ wdI f k < 5559060566555523 := by
  have b := wdN_b f k.toNat (fun i i0 i1 => hf i i0 (by omega))
  have p : 27 ^ k.toNat ≤ 27 ^ 11 := Nat.pow_le_pow_right (by omega) (by omega)
  rw [show 27 ^ 11 = 5559060566555523 from rfl] at p
  unfold wdI
  generalize 27 ^ k.toNat = m at *
  omega
theorem dg1 {b : Int} (h : 97 ≤ b) : dgB b = 0 := by unfold dgB; rw [if_neg (by omega)]
theorem kd1 {b : Int} : kdB b = 1 ↔ 97 ≤ b ∧ b ≤ 122 := by unfold kdB; split <;> (try split) <;> (try split) <;> (try split) <;> omega
theorem kd2 {b : Int} : kdB b = 2 ↔ 48 ≤ b ∧ b ≤ 57 := by unfold kdB; split <;> (try split) <;> (try split) <;> (try split) <;> omega
theorem kd3 {b : Int} : kdB b = 3 ↔ b = 59 := by unfold kdB; split <;> (try split) <;> (try split) <;> (try split) <;> omega
theorem kd4 {b : Int} (h1 : kdB b ≠ 1) (h2 : kdB b ≠ 2) (h3 : kdB b ≠ 3) (h5 : kdB b ≠ 5) : kdB b = 4 := by have := kdB_rng b; omega
theorem kd5 {b : Int} : kdB b = 5 ↔ b = 32 ∨ b = 10 := by unfold kdB; split <;> (try split) <;> (try split) <;> (try split) <;> omega
def NR (h : zH) (B : Int → Int) (L s : Int) : Prop := h 108 7 = (tkR B L s).1 ∧ h 108 8 = tkK B L s ∧ h 108 9 = s ∧ (tkK B L s = 2 → min 100000 (h 108 10) = (tkR B L s).2 ∧ 0 ≤ h 108 10 ∧ h 108 10 ≤ 1000009) ∧ (tkK B L s = 1 → (∀ i, 0 ≤ i → i < (tkR B L s).1 - s → 97 ≤ B (s + i) ∧ B (s + i) ≤ 122) ∧ h 108 11 = wcC (fun i => B (s + i)) ((tkR B L s).1 - s))
abbrev sN : Int → Int → Prop := fun k j => k = 108 ∧ 7 ≤ j ∧ j ≤ 11
theorem r_isByte {d : Nat} {h : zH} {B : Int → Int} {L x y z : Int} (R : BR h B L) (x0 : 0 ≤ x) (L1 : L ≤ 700) : zPI d mX10_isByte [zA 108, zI x, zI y, zI z] h (d2i (x < L ∧ y ≤ B x ∧ B x ≤ z)) := by
  refine zmet rfl rfl rfl ?_
  refine zS_iload_n (zdec eX10_isByte 0 rfl) rfl ?_
  refine zS_aload_n (zdec eX10_isByte 1 rfl) rfl rfl ?_
  refine zS_getfieldE (x := 6) (v := L) (zdec eX10_isByte 2 rfl) kF_X10_88 ⟨by decide, rfl⟩ rfl rfl rfl R.1 ?_
  refine zS_icmp_ge (tgt := 32) (zdec eX10_isByte 3 rfl) rfl (fun c1 => ?_) (fun c1 => ?_)
  · refine zS_iconst (zdec eX10_isByte 18 rfl) rfl ?_
    exact zlZ (zdec eX10_isByte 19 rfl) rfl (Or.inl rfl) (by rw [d2i_f (by omega)])
  · refine zS_aload_n (zdec eX10_isByte 4 rfl) rfl rfl ?_
    refine zS_getref (i := 59) (zdec eX10_isByte 5 rfl) kF_X10_23 ⟨by decide, rfl⟩ rfl rfl rfl rfl rfl ?_
    refine zS_iload_n (zdec eX10_isByte 6 rfl) rfl ?_
    refine zS_baloadE (v := (B x)) (zdec eX10_isByte 7 rfl) (Or.inl rfl) ⟨by decide, rfl⟩ (by omega) (by omega) (R.2 _ (by omega) (by omega)) ?_
    refine zS_iload_n (zdec eX10_isByte 8 rfl) rfl ?_
    refine zS_icmp_lt (tgt := 32) (zdec eX10_isByte 9 rfl) rfl (fun c2 => ?_) (fun c2 => ?_)
    · refine zS_iconst (zdec eX10_isByte 18 rfl) rfl ?_
      exact zlZ (zdec eX10_isByte 19 rfl) rfl (Or.inl rfl) (by rw [d2i_f (by omega)])
    · refine zS_aload_n (zdec eX10_isByte 10 rfl) rfl rfl ?_
      refine zS_getref (i := 59) (zdec eX10_isByte 11 rfl) kF_X10_23 ⟨by decide, rfl⟩ rfl rfl rfl rfl rfl ?_
      refine zS_iload_n (zdec eX10_isByte 12 rfl) rfl ?_
      refine zS_baloadE (v := (B x)) (zdec eX10_isByte 13 rfl) (Or.inl rfl) ⟨by decide, rfl⟩ (by omega) (by omega) (R.2 _ (by omega) (by omega)) ?_
      refine zS_iload_n (zdec eX10_isByte 14 rfl) rfl ?_
      refine zS_icmp_gt (tgt := 32) (zdec eX10_isByte 15 rfl) rfl (fun c3 => ?_) (fun c3 => ?_)
      · refine zS_iconst (zdec eX10_isByte 18 rfl) rfl ?_
        exact zlZ (zdec eX10_isByte 19 rfl) rfl (Or.inl rfl) (by rw [d2i_f (by omega)])
      · refine zS_iconst (zdec eX10_isByte 16 rfl) rfl ?_
        refine zS_goto (tgt := 33) (zdec eX10_isByte 17 rfl) rfl ?_
        exact zlZ (zdec eX10_isByte 19 rfl) rfl (Or.inr rfl) (by rw [d2i_t (by omega)])
theorem L_rword {d : Nat} {h : zH} {B : Int → Int} {L s : Int} (hd : 1 ≤ d) (s0 : 0 ≤ s) (sL : s < L) (L1 : L ≤ 700) (RB : BR h B L) (hk : tkK B L s = 1) : ∀ (n : Nat) (e w : Int) (h1 : zH), 0 ≤ e → s + e + n = L → h1 108 7 = s + e → h1 108 8 = 1 → h1 108 9 = s → h1 108 11 = w → w = wcC (fun i => B (s + i)) e → (∀ i, 0 ≤ i → i < e → 97 ≤ B (s + i) ∧ B (s + i) ≤ 122) → (rnN B 1 L n (s + e) 0).1 = (tkR B L s).1 → Fr sN h h1 → zS mX10_next (zr d) 102 [zA 108, zI e] [] TT h1 (zAnV (fun h' => NR h' B L s ∧ Fr sN h h')) := by
  intro n
  induction n with
  | zero =>
    intro e w h1 a1 a2 i1 i2 i3 i4 i5 i6 i7 i9
    have RB1 : BR h1 B L := RB.fr i9 (fun k j z => by omega)
    have wb : e ≤ 11 → 0 ≤ w ∧ w < 5559060566555523 := fun q => by rw [i5]; unfold wcC; rw [if_pos (by omega)]; exact wdI_b a1 q i6
    refine zS_aload_n (zdec eX10_next 52 rfl) rfl rfl ?_
    refine zS_aload_n (zdec eX10_next 53 rfl) rfl rfl ?_
    refine zS_getfieldE (x := 7) (v := (s + e)) (zdec eX10_next 54 rfl) kF_X10_95 ⟨by decide, rfl⟩ rfl rfl rfl i1 ?_
    refine zS_bipush (zdec eX10_next 55 rfl) rfl rfl ?_
    refine zS_bipush (zdec eX10_next 56 rfl) rfl rfl ?_
    refine zvI (M' := mX10_isByte) (As := [zI (s + e), zI 97, zI 122]) (st := []) (zdec eX10_next 57 rfl) kM_X10_98 kV_X10_isByte ⟨by decide, rfl⟩ rfl rfl rfl rfl rfl (by omega) (r_isByte (B := B) (L := L) (by repeat (first | exact RB1 | refine BR.set ?_ (by omega) (by omega))) (by omega) (by omega)) ?_
    refine zS_if_eq (tgt := 185) (zdec eX10_next 58 rfl) rfl (fun c1 => ?_) (fun c1 => ?_)
    · have z1 := d2i_0.mp c1
      refine zS_goto (tgt := 307) (zdec eX10_next 93 rfl) rfl ?_
      have t : s + e = (tkR B L s).1 := by rw [← i7]; rfl
      refine zlMV (zdec eX10_next 156 rfl) rfl ⟨⟨i1.trans t, i2.trans hk.symm, i3, fun z => by omega, fun _ => ⟨fun i i0 k1 => i6 i i0 (by omega), ?_⟩⟩, i9⟩
      rw [i4, i5, ← t, show s + e - s = e by omega]
    · have z1 := d2i_n.mp c1
      exfalso; omega
  | succ n ih =>
    intro e w h1 a1 a2 i1 i2 i3 i4 i5 i6 i7 i9
    have RB1 : BR h1 B L := RB.fr i9 (fun k j z => by omega)
    have wb : e ≤ 11 → 0 ≤ w ∧ w < 5559060566555523 := fun q => by rw [i5]; unfold wcC; rw [if_pos (by omega)]; exact wdI_b a1 q i6
    refine zS_aload_n (zdec eX10_next 52 rfl) rfl rfl ?_
    refine zS_aload_n (zdec eX10_next 53 rfl) rfl rfl ?_
    refine zS_getfieldE (x := 7) (v := (s + e)) (zdec eX10_next 54 rfl) kF_X10_95 ⟨by decide, rfl⟩ rfl rfl rfl i1 ?_
    refine zS_bipush (zdec eX10_next 55 rfl) rfl rfl ?_
    refine zS_bipush (zdec eX10_next 56 rfl) rfl rfl ?_
    refine zvI (M' := mX10_isByte) (As := [zI (s + e), zI 97, zI 122]) (st := []) (zdec eX10_next 57 rfl) kM_X10_98 kV_X10_isByte ⟨by decide, rfl⟩ rfl rfl rfl rfl rfl (by omega) (r_isByte (B := B) (L := L) (by repeat (first | exact RB1 | refine BR.set ?_ (by omega) (by omega))) (by omega) (by omega)) ?_
    refine zS_if_eq (tgt := 185) (zdec eX10_next 58 rfl) rfl (fun c1 => ?_) (fun c1 => ?_)
    · have z1 := d2i_0.mp c1
      refine zS_goto (tgt := 307) (zdec eX10_next 93 rfl) rfl ?_
      have t : s + e = (tkR B L s).1 := by rw [← i7]; unfold rnN; rw [if_neg (fun q => z1 ⟨q.1, kd1.mp q.2⟩)]
      refine zlMV (zdec eX10_next 156 rfl) rfl ⟨⟨i1.trans t, i2.trans hk.symm, i3, fun z => by omega, fun _ => ⟨fun i i0 k1 => i6 i i0 (by omega), ?_⟩⟩, i9⟩
      rw [i4, i5, ← t, show s + e - s = e by omega]
    · have z1 := d2i_n.mp c1
      refine zS_aload_n (zdec eX10_next 59 rfl) rfl rfl ?_
      refine zS_iload_n (zdec eX10_next 60 rfl) rfl ?_
      refine zS_bipush (zdec eX10_next 61 rfl) rfl rfl ?_
      refine zS_icmp_le (tgt := 130) (zdec eX10_next 62 rfl) rfl (fun c2 => ?_) (fun c2 => ?_)
      · refine zS_ldc2_w (zdec eX10_next 65 rfl) kj_X10_117 rfl ?_
        refine zS_aload_n (zdec eX10_next 66 rfl) rfl rfl ?_
        refine zS_getfieldE (x := 11) (v := w) (zdec eX10_next 67 rfl) kF_X10_108 ⟨by decide, rfl⟩ rfl rfl rfl i4 ?_
        refine zS_lmul (zdec eX10_next 68 rfl) ⟨by omega, by omega⟩ ?_
        refine zS_aload_n (zdec eX10_next 69 rfl) rfl rfl ?_
        refine zS_getref (i := 59) (zdec eX10_next 70 rfl) kF_X10_23 ⟨by decide, rfl⟩ rfl rfl rfl rfl rfl ?_
        refine zS_aload_n (zdec eX10_next 71 rfl) rfl rfl ?_
        refine zS_getfieldE (x := 7) (v := (s + e)) (zdec eX10_next 72 rfl) kF_X10_95 ⟨by decide, rfl⟩ rfl rfl rfl i1 ?_
        refine zS_baloadE (v := (B (s + e))) (zdec eX10_next 73 rfl) (Or.inl rfl) ⟨by decide, rfl⟩ (by omega) (by omega) (RB1.2 _ (by omega) (by omega)) ?_
        refine zS_i2l (zdec eX10_next 74 rfl) ?_
        refine zS_ladd (zdec eX10_next 75 rfl) ⟨by omega, by omega⟩ ?_
        refine zS_ldc2_w (zdec eX10_next 76 rfl) kj_X10_119 rfl ?_
        refine zS_lsub (zdec eX10_next 77 rfl) ⟨by omega, by omega⟩ ?_
        refine zS_putfield (x := 11) (zdec eX10_next 78 rfl) kF_X10_108 (Or.inl kf10_11) ⟨by decide, rfl⟩ rfl rfl rfl (Or.inl (fun q => by cases q)) ?_
        refine zS_iload_n (zdec eX10_next 79 rfl) rfl ?_
        refine zS_bipush (zdec eX10_next 80 rfl) rfl rfl ?_
        refine zS_icmp_le (tgt := 169) (zdec eX10_next 81 rfl) rfl (fun c3 => ?_) (fun c3 => ?_)
        · refine zS_aload_n (zdec eX10_next 85 rfl) rfl rfl ?_
          refine zS_dup (zdec eX10_next 86 rfl) (fun q => by cases q) ?_
          refine zS_getfieldE (x := 7) (v := (s + e)) (zdec eX10_next 87 rfl) kF_X10_95 ⟨by decide, rfl⟩ rfl rfl rfl ((zset_j (by decide)).trans i1) ?_
          refine zS_iconst (zdec eX10_next 88 rfl) rfl ?_
          refine zS_iadd (zdec eX10_next 89 rfl) ⟨by omega, by omega⟩ ?_
          refine zS_putfield (x := 7) (zdec eX10_next 90 rfl) kF_X10_95 (Or.inl kf10_7) ⟨by decide, rfl⟩ rfl rfl rfl (Or.inl (fun q => by cases q)) ?_
          refine zS_iinc (zdec eX10_next 91 rfl) rfl rfl ⟨by omega, by omega⟩ ?_
          refine zS_goto (tgt := 102) (zdec eX10_next 92 rfl) rfl ?_
          have hb := z1
          refine ih (e + 1) (27 * w + B (s + e) - 96) _ (by omega) (by omega) (by rw [zset_s]; omega) ((zset_n (by omega)).trans ((zset_n (by omega)).trans (i2))) ((zset_n (by omega)).trans ((zset_n (by omega)).trans (i3))) (by rw [zset_n (by omega), zset_s]) ?_ (fun i i0 k1 => ?_) ?_ ((i9.set (by omega)).set (by omega))
          · rw [i5]; unfold wcC; rw [if_pos (by omega), if_pos (by omega), wdI_s _ a1]; omega
          · by_cases u : i = e
            · subst u; omega
            · exact i6 i i0 (by omega)
          · rw [← i7]; conv => rhs; unfold rnN
            rw [if_pos ⟨hb.1, kd1.mpr hb.2⟩, show s + (e + 1) = s + e + 1 by omega, dg1 hb.2.1]
            rfl
        · refine zS_aload_n (zdec eX10_next 82 rfl) rfl rfl ?_
          refine zS_ldc2_w (zdec eX10_next 83 rfl) kj_X10_115 rfl ?_
          refine zS_putfield (x := 11) (zdec eX10_next 84 rfl) kF_X10_108 (Or.inl kf10_11) ⟨by decide, rfl⟩ rfl rfl rfl (Or.inl (fun q => by cases q)) ?_
          refine zS_aload_n (zdec eX10_next 85 rfl) rfl rfl ?_
          refine zS_dup (zdec eX10_next 86 rfl) (fun q => by cases q) ?_
          refine zS_getfieldE (x := 7) (v := (s + e)) (zdec eX10_next 87 rfl) kF_X10_95 ⟨by decide, rfl⟩ rfl rfl rfl ((zset_j (by decide)).trans ((zset_j (by decide)).trans i1)) ?_
          refine zS_iconst (zdec eX10_next 88 rfl) rfl ?_
          refine zS_iadd (zdec eX10_next 89 rfl) ⟨by omega, by omega⟩ ?_
          refine zS_putfield (x := 7) (zdec eX10_next 90 rfl) kF_X10_95 (Or.inl kf10_7) ⟨by decide, rfl⟩ rfl rfl rfl (Or.inl (fun q => by cases q)) ?_
          refine zS_iinc (zdec eX10_next 91 rfl) rfl rfl ⟨by omega, by omega⟩ ?_
          refine zS_goto (tgt := 102) (zdec eX10_next 92 rfl) rfl ?_
          exfalso; omega
      · refine zS_ldc2_w (zdec eX10_next 63 rfl) kj_X10_115 rfl ?_
        refine zS_goto (tgt := 153) (zdec eX10_next 64 rfl) rfl ?_
        refine zS_putfield (x := 11) (zdec eX10_next 78 rfl) kF_X10_108 (Or.inl kf10_11) ⟨by decide, rfl⟩ rfl rfl rfl (Or.inl (fun q => by cases q)) ?_
        refine zS_iload_n (zdec eX10_next 79 rfl) rfl ?_
        refine zS_bipush (zdec eX10_next 80 rfl) rfl rfl ?_
        refine zS_icmp_le (tgt := 169) (zdec eX10_next 81 rfl) rfl (fun c3 => ?_) (fun c3 => ?_)
        · refine zS_aload_n (zdec eX10_next 85 rfl) rfl rfl ?_
          refine zS_dup (zdec eX10_next 86 rfl) (fun q => by cases q) ?_
          refine zS_getfieldE (x := 7) (v := (s + e)) (zdec eX10_next 87 rfl) kF_X10_95 ⟨by decide, rfl⟩ rfl rfl rfl ((zset_j (by decide)).trans i1) ?_
          refine zS_iconst (zdec eX10_next 88 rfl) rfl ?_
          refine zS_iadd (zdec eX10_next 89 rfl) ⟨by omega, by omega⟩ ?_
          refine zS_putfield (x := 7) (zdec eX10_next 90 rfl) kF_X10_95 (Or.inl kf10_7) ⟨by decide, rfl⟩ rfl rfl rfl (Or.inl (fun q => by cases q)) ?_
          refine zS_iinc (zdec eX10_next 91 rfl) rfl rfl ⟨by omega, by omega⟩ ?_
          refine zS_goto (tgt := 102) (zdec eX10_next 92 rfl) rfl ?_
          exfalso; omega
        · refine zS_aload_n (zdec eX10_next 82 rfl) rfl rfl ?_
          refine zS_ldc2_w (zdec eX10_next 83 rfl) kj_X10_115 rfl ?_
          refine zS_putfield (x := 11) (zdec eX10_next 84 rfl) kF_X10_108 (Or.inl kf10_11) ⟨by decide, rfl⟩ rfl rfl rfl (Or.inl (fun q => by cases q)) ?_
          refine zS_aload_n (zdec eX10_next 85 rfl) rfl rfl ?_
          refine zS_dup (zdec eX10_next 86 rfl) (fun q => by cases q) ?_
          refine zS_getfieldE (x := 7) (v := (s + e)) (zdec eX10_next 87 rfl) kF_X10_95 ⟨by decide, rfl⟩ rfl rfl rfl ((zset_j (by decide)).trans ((zset_j (by decide)).trans i1)) ?_
          refine zS_iconst (zdec eX10_next 88 rfl) rfl ?_
          refine zS_iadd (zdec eX10_next 89 rfl) ⟨by omega, by omega⟩ ?_
          refine zS_putfield (x := 7) (zdec eX10_next 90 rfl) kF_X10_95 (Or.inl kf10_7) ⟨by decide, rfl⟩ rfl rfl rfl (Or.inl (fun q => by cases q)) ?_
          refine zS_iinc (zdec eX10_next 91 rfl) rfl rfl ⟨by omega, by omega⟩ ?_
          refine zS_goto (tgt := 102) (zdec eX10_next 92 rfl) rfl ?_
          have hb := z1
          refine ih (e + 1) (-1) _ (by omega) (by omega) (by rw [zset_s]; omega) ((zset_n (by omega)).trans ((zset_n (by omega)).trans ((zset_n (by omega)).trans (i2)))) ((zset_n (by omega)).trans ((zset_n (by omega)).trans ((zset_n (by omega)).trans (i3)))) (by rw [zset_n (by omega), zset_s]) ?_ (fun i i0 k1 => ?_) ?_ (((i9.set (by omega)).set (by omega)).set (by omega))
          · unfold wcC; rw [if_neg (by omega)]
          · by_cases u : i = e
            · subst u; omega
            · exact i6 i i0 (by omega)
          · rw [← i7]; conv => rhs; unfold rnN
            rw [if_pos ⟨hb.1, kd1.mpr hb.2⟩, show s + (e + 1) = s + e + 1 by omega, dg1 hb.2.1]
            rfl
theorem dg2 {b : Int} (h0 : 48 ≤ b) (h1 : b ≤ 57) : dgB b = b - 48 := by unfold dgB; rw [if_pos ⟨h0, h1⟩]
theorem tkR_end {B : Int → Int} {L s : Int} (h : s = L) : (tkR B L s).1 = s := by
  have k : tkK B L s = 0 := by unfold tkK; rw [if_neg (by omega)]
  unfold tkR rnI
  rw [k, show (tkE L s 0 - s).toNat = 0 by unfold tkE; rw [if_neg (by omega)]; omega]
  rfl
theorem tkR_one {B : Int → Int} {L s : Int} (h : s < L) (h1 : kdB (B s) ≠ 1) (h2 : kdB (B s) ≠ 2) : (tkR B L s).1 = s + 1 := by
  have k : tkK B L s = kdB (B s) := by unfold tkK; rw [if_pos h]
  unfold tkR rnI
  rw [k]
  have t : tkE L s (kdB (B s)) = s + 1 := by unfold tkE; rw [if_neg (by omega)]; omega
  rw [t, show (s + 1 - s).toNat = 0 + 1 by omega]
  unfold rnN
  rw [if_pos ⟨by omega, rfl⟩]
  rfl
theorem L_rnum {d : Nat} {h : zH} {B : Int → Int} {L s : Int} (hd : 1 ≤ d) (s0 : 0 ≤ s) (sL : s < L) (L1 : L ≤ 700) (RB : BR h B L) (hk : tkK B L s = 2) : ∀ (n : Nat) (a v : Int) (h1 : zH), 0 ≤ a → a + n = L → h1 108 7 = a → h1 108 8 = 2 → h1 108 9 = s → h1 108 10 = v → 0 ≤ v → v ≤ 1000009 → rnN B 2 L n a (min 100000 v) = tkR B L s → Fr sN h h1 → zS mX10_next (zr d) 208 [zA 108, zN] [] TT h1 (zAnV (fun h' => NR h' B L s ∧ Fr sN h h')) := by
  intro n
  induction n with
  | zero =>
    intro a v h1 a1 a2 i1 i2 i3 i4 v0 v1 i7 i9
    have RB1 : BR h1 B L := RB.fr i9 (fun k j z => by omega)
    refine zS_aload_n (zdec eX10_next 104 rfl) rfl rfl ?_
    refine zS_aload_n (zdec eX10_next 105 rfl) rfl rfl ?_
    refine zS_getfieldE (x := 7) (v := a) (zdec eX10_next 106 rfl) kF_X10_95 ⟨by decide, rfl⟩ rfl rfl rfl i1 ?_
    refine zS_bipush (zdec eX10_next 107 rfl) rfl rfl ?_
    refine zS_bipush (zdec eX10_next 108 rfl) rfl rfl ?_
    refine zvI (M' := mX10_isByte) (As := [zI a, zI 48, zI 57]) (st := []) (zdec eX10_next 109 rfl) kM_X10_98 kV_X10_isByte ⟨by decide, rfl⟩ rfl rfl rfl rfl rfl (by omega) (r_isByte (B := B) (L := L) (by repeat (first | exact RB1 | refine BR.set ?_ (by omega) (by omega))) (by omega) (by omega)) ?_
    refine zS_if_eq (tgt := 307) (zdec eX10_next 110 rfl) rfl (fun c1 => ?_) (fun c1 => ?_)
    · have z1 := d2i_0.mp c1
      have t : (a, min 100000 v) = tkR B L s := by rw [← i7]; rfl
      exact zlMV (zdec eX10_next 156 rfl) rfl ⟨⟨by rw [i1, ← t], i2.trans hk.symm, i3, fun _ => ⟨by rw [i4, ← t], by omega, by omega⟩, fun z => by omega⟩, i9⟩
    · have z1 := d2i_n.mp c1
      exfalso; omega
  | succ n ih =>
    intro a v h1 a1 a2 i1 i2 i3 i4 v0 v1 i7 i9
    have RB1 : BR h1 B L := RB.fr i9 (fun k j z => by omega)
    refine zS_aload_n (zdec eX10_next 104 rfl) rfl rfl ?_
    refine zS_aload_n (zdec eX10_next 105 rfl) rfl rfl ?_
    refine zS_getfieldE (x := 7) (v := a) (zdec eX10_next 106 rfl) kF_X10_95 ⟨by decide, rfl⟩ rfl rfl rfl i1 ?_
    refine zS_bipush (zdec eX10_next 107 rfl) rfl rfl ?_
    refine zS_bipush (zdec eX10_next 108 rfl) rfl rfl ?_
    refine zvI (M' := mX10_isByte) (As := [zI a, zI 48, zI 57]) (st := []) (zdec eX10_next 109 rfl) kM_X10_98 kV_X10_isByte ⟨by decide, rfl⟩ rfl rfl rfl rfl rfl (by omega) (r_isByte (B := B) (L := L) (by repeat (first | exact RB1 | refine BR.set ?_ (by omega) (by omega))) (by omega) (by omega)) ?_
    refine zS_if_eq (tgt := 307) (zdec eX10_next 110 rfl) rfl (fun c1 => ?_) (fun c1 => ?_)
    · have z1 := d2i_0.mp c1
      have t : (a, min 100000 v) = tkR B L s := by rw [← i7]; unfold rnN; rw [if_neg (fun q => z1 ⟨q.1, kd2.mp q.2⟩)]
      exact zlMV (zdec eX10_next 156 rfl) rfl ⟨⟨by rw [i1, ← t], i2.trans hk.symm, i3, fun _ => ⟨by rw [i4, ← t], by omega, by omega⟩, fun z => by omega⟩, i9⟩
    · have z1 := d2i_n.mp c1
      refine zS_aload_n (zdec eX10_next 111 rfl) rfl rfl ?_
      refine zS_aload_n (zdec eX10_next 112 rfl) rfl rfl ?_
      refine zS_getfieldE (x := 10) (v := v) (zdec eX10_next 113 rfl) kF_X10_105 ⟨by decide, rfl⟩ rfl rfl rfl i4 ?_
      refine zS_ldc (zdec eX10_next 114 rfl) kc_X10_121 rfl ?_
      refine zS_icmp_le (tgt := 238) (zdec eX10_next 115 rfl) rfl (fun c2 => ?_) (fun c2 => ?_)
      · refine zS_bipush (zdec eX10_next 118 rfl) rfl rfl ?_
        refine zS_aload_n (zdec eX10_next 119 rfl) rfl rfl ?_
        refine zS_getfieldE (x := 10) (v := v) (zdec eX10_next 120 rfl) kF_X10_105 ⟨by decide, rfl⟩ rfl rfl rfl i4 ?_
        refine zS_imul (zdec eX10_next 121 rfl) ⟨by omega, by omega⟩ ?_
        refine zS_aload_n (zdec eX10_next 122 rfl) rfl rfl ?_
        refine zS_getref (i := 59) (zdec eX10_next 123 rfl) kF_X10_23 ⟨by decide, rfl⟩ rfl rfl rfl rfl rfl ?_
        refine zS_aload_n (zdec eX10_next 124 rfl) rfl rfl ?_
        refine zS_getfieldE (x := 7) (v := a) (zdec eX10_next 125 rfl) kF_X10_95 ⟨by decide, rfl⟩ rfl rfl rfl i1 ?_
        refine zS_baloadE (v := (B a)) (zdec eX10_next 126 rfl) (Or.inl rfl) ⟨by decide, rfl⟩ (by omega) (by omega) (RB1.2 _ (by omega) (by omega)) ?_
        refine zS_iadd (zdec eX10_next 127 rfl) ⟨by omega, by omega⟩ ?_
        refine zS_bipush (zdec eX10_next 128 rfl) rfl rfl ?_
        refine zS_isub (zdec eX10_next 129 rfl) ⟨by omega, by omega⟩ ?_
        refine zS_putfield (x := 10) (zdec eX10_next 130 rfl) kF_X10_105 (Or.inl kf10_10) ⟨by decide, rfl⟩ rfl rfl rfl (Or.inl (fun q => by cases q)) ?_
        refine zS_aload_n (zdec eX10_next 131 rfl) rfl rfl ?_
        refine zS_dup (zdec eX10_next 132 rfl) (fun q => by cases q) ?_
        refine zS_getfieldE (x := 7) (v := a) (zdec eX10_next 133 rfl) kF_X10_95 ⟨by decide, rfl⟩ rfl rfl rfl ((zset_j (by decide)).trans i1) ?_
        refine zS_iconst (zdec eX10_next 134 rfl) rfl ?_
        refine zS_iadd (zdec eX10_next 135 rfl) ⟨by omega, by omega⟩ ?_
        refine zS_putfield (x := 7) (zdec eX10_next 136 rfl) kF_X10_95 (Or.inl kf10_7) ⟨by decide, rfl⟩ rfl rfl rfl (Or.inl (fun q => by cases q)) ?_
        refine zS_goto (tgt := 208) (zdec eX10_next 137 rfl) rfl ?_
        have hb := z1
        have dg := dg2 hb.2.1 hb.2.2
        refine ih (a + 1) (10 * v + B a - 48) _ (by omega) (by omega) (zset_s _ _ _ _) ((zset_n (by omega)).trans ((zset_n (by omega)).trans i2)) ((zset_n (by omega)).trans ((zset_n (by omega)).trans i3)) (by rw [zset_n (by omega), zset_s]) (by omega) (by omega) ?_ ((i9.set (by omega)).set (by omega))
        rw [← i7]; conv => rhs; unfold rnN
        rw [if_pos ⟨hb.1, kd2.mpr hb.2⟩, dg]
        congr 1
        omega
      · refine zS_ldc (zdec eX10_next 116 rfl) kc_X10_122 rfl ?_
        refine zS_goto (tgt := 258) (zdec eX10_next 117 rfl) rfl ?_
        refine zS_putfield (x := 10) (zdec eX10_next 130 rfl) kF_X10_105 (Or.inl kf10_10) ⟨by decide, rfl⟩ rfl rfl rfl (Or.inl (fun q => by cases q)) ?_
        refine zS_aload_n (zdec eX10_next 131 rfl) rfl rfl ?_
        refine zS_dup (zdec eX10_next 132 rfl) (fun q => by cases q) ?_
        refine zS_getfieldE (x := 7) (v := a) (zdec eX10_next 133 rfl) kF_X10_95 ⟨by decide, rfl⟩ rfl rfl rfl ((zset_j (by decide)).trans i1) ?_
        refine zS_iconst (zdec eX10_next 134 rfl) rfl ?_
        refine zS_iadd (zdec eX10_next 135 rfl) ⟨by omega, by omega⟩ ?_
        refine zS_putfield (x := 7) (zdec eX10_next 136 rfl) kF_X10_95 (Or.inl kf10_7) ⟨by decide, rfl⟩ rfl rfl rfl (Or.inl (fun q => by cases q)) ?_
        refine zS_goto (tgt := 208) (zdec eX10_next 137 rfl) rfl ?_
        have hb := z1
        have dg := dg2 hb.2.1 hb.2.2
        refine ih (a + 1) 1000000 _ (by omega) (by omega) (zset_s _ _ _ _) ((zset_n (by omega)).trans ((zset_n (by omega)).trans i2)) ((zset_n (by omega)).trans ((zset_n (by omega)).trans i3)) (by rw [zset_n (by omega), zset_s]) (by omega) (by omega) ?_ ((i9.set (by omega)).set (by omega))
        rw [← i7]; conv => rhs; unfold rnN
        rw [if_pos ⟨hb.1, kd2.mpr hb.2⟩, dg]
        congr 1
        omega
theorem M_rtok {d : Nat} {h : zH} {B : Int → Int} {L s : Int} (hd : 1 ≤ d) (s0 : 0 ≤ s) (sL : s ≤ L) (L1 : L ≤ 700) (RB : BR h B L) (hs : s < L → kdB (B s) ≠ 5) {h1 : zH} (i1 : h1 108 7 = s) (i9 : Fr sN h h1) : zS mX10_next (zr d) 43 [zA 108, zN] [] TT h1 (zAnV (fun h' => NR h' B L s ∧ Fr sN h h')) := by
  have RB1 : BR h1 B L := RB.fr i9 (fun k j z => by omega)
  refine zS_aload_n (zdec eX10_next 21 rfl) rfl rfl ?_
  refine zS_aload_n (zdec eX10_next 22 rfl) rfl rfl ?_
  refine zS_getfieldE (x := 7) (v := s) (zdec eX10_next 23 rfl) kF_X10_95 ⟨by decide, rfl⟩ rfl rfl rfl i1 ?_
  refine zS_putfield (x := 9) (zdec eX10_next 24 rfl) kF_X10_102 (Or.inl kf10_9) ⟨by decide, rfl⟩ rfl rfl rfl (Or.inl (fun q => by cases q)) ?_
  refine zS_aload_n (zdec eX10_next 25 rfl) rfl rfl ?_
  refine zS_iconst (zdec eX10_next 26 rfl) rfl ?_
  refine zS_putfield (x := 10) (zdec eX10_next 27 rfl) kF_X10_105 (Or.inl kf10_10) ⟨by decide, rfl⟩ rfl rfl rfl (Or.inl (fun q => by cases q)) ?_
  refine zS_aload_n (zdec eX10_next 28 rfl) rfl rfl ?_
  refine zS_lconst (zdec eX10_next 29 rfl) ?_
  refine zS_putfield (x := 11) (zdec eX10_next 30 rfl) kF_X10_108 (Or.inl kf10_11) ⟨by decide, rfl⟩ rfl rfl rfl (Or.inl (fun q => by cases q)) ?_
  refine zS_aload_n (zdec eX10_next 31 rfl) rfl rfl ?_
  refine zS_getfieldE (x := 7) (v := s) (zdec eX10_next 32 rfl) kF_X10_95 ⟨by decide, rfl⟩ rfl rfl rfl ((zset_j (by decide)).trans ((zset_j (by decide)).trans ((zset_j (by decide)).trans i1))) ?_
  refine zS_aload_n (zdec eX10_next 33 rfl) rfl rfl ?_
  refine zS_getfieldE (x := 6) (v := L) (zdec eX10_next 34 rfl) kF_X10_88 ⟨by decide, rfl⟩ rfl rfl rfl ((zset_j (by decide)).trans ((zset_j (by decide)).trans ((zset_j (by decide)).trans RB1.1))) ?_
  refine zS_icmp_ne (tgt := 80) (zdec eX10_next 35 rfl) rfl (fun c1 => ?_) (fun c1 => ?_)
  · refine zS_aload_n (zdec eX10_next 40 rfl) rfl rfl ?_
    refine zS_aload_n (zdec eX10_next 41 rfl) rfl rfl ?_
    refine zS_getfieldE (x := 7) (v := s) (zdec eX10_next 42 rfl) kF_X10_95 ⟨by decide, rfl⟩ rfl rfl rfl ((zset_j (by decide)).trans ((zset_j (by decide)).trans ((zset_j (by decide)).trans i1))) ?_
    refine zS_bipush (zdec eX10_next 43 rfl) rfl rfl ?_
    refine zS_bipush (zdec eX10_next 44 rfl) rfl rfl ?_
    refine zvI (M' := mX10_isByte) (As := [zI s, zI 97, zI 122]) (st := []) (zdec eX10_next 45 rfl) kM_X10_98 kV_X10_isByte ⟨by decide, rfl⟩ rfl rfl rfl rfl rfl (by omega) (r_isByte (B := B) (L := L) (by repeat (first | exact RB1 | refine BR.set ?_ (by omega) (by omega))) (by omega) (by omega)) ?_
    refine zS_if_eq (tgt := 188) (zdec eX10_next 46 rfl) rfl (fun c2 => ?_) (fun c2 => ?_)
    · have z2 := d2i_0.mp c2
      refine zS_aload_n (zdec eX10_next 94 rfl) rfl rfl ?_
      refine zS_aload_n (zdec eX10_next 95 rfl) rfl rfl ?_
      refine zS_getfieldE (x := 7) (v := s) (zdec eX10_next 96 rfl) kF_X10_95 ⟨by decide, rfl⟩ rfl rfl rfl ((zset_j (by decide)).trans ((zset_j (by decide)).trans ((zset_j (by decide)).trans i1))) ?_
      refine zS_bipush (zdec eX10_next 97 rfl) rfl rfl ?_
      refine zS_bipush (zdec eX10_next 98 rfl) rfl rfl ?_
      refine zvI (M' := mX10_isByte) (As := [zI s, zI 48, zI 57]) (st := []) (zdec eX10_next 99 rfl) kM_X10_98 kV_X10_isByte ⟨by decide, rfl⟩ rfl rfl rfl rfl rfl (by omega) (r_isByte (B := B) (L := L) (by repeat (first | exact RB1 | refine BR.set ?_ (by omega) (by omega))) (by omega) (by omega)) ?_
      refine zS_if_eq (tgt := 274) (zdec eX10_next 100 rfl) rfl (fun c3 => ?_) (fun c3 => ?_)
      · have z3 := d2i_0.mp c3
        refine zS_aload_n (zdec eX10_next 138 rfl) rfl rfl ?_
        refine zS_aload_n (zdec eX10_next 139 rfl) rfl rfl ?_
        refine zS_getref (i := 59) (zdec eX10_next 140 rfl) kF_X10_23 ⟨by decide, rfl⟩ rfl rfl rfl rfl rfl ?_
        refine zS_aload_n (zdec eX10_next 141 rfl) rfl rfl ?_
        refine zS_getfieldE (x := 7) (v := s) (zdec eX10_next 142 rfl) kF_X10_95 ⟨by decide, rfl⟩ rfl rfl rfl ((zset_j (by decide)).trans ((zset_j (by decide)).trans ((zset_j (by decide)).trans i1))) ?_
        refine zS_baloadE (v := (B s)) (zdec eX10_next 143 rfl) (Or.inl rfl) ⟨by decide, rfl⟩ (by omega) (by omega) ((congrFun (zset_k (by decide)) _).trans ((congrFun (zset_k (by decide)) _).trans ((congrFun (zset_k (by decide)) _).trans (RB1.2 _ (by omega) (by omega))))) ?_
        refine zS_bipush (zdec eX10_next 144 rfl) rfl rfl ?_
        refine zS_icmp_ne (tgt := 293) (zdec eX10_next 145 rfl) rfl (fun c4 => ?_) (fun c4 => ?_)
        · refine zS_iconst (zdec eX10_next 148 rfl) rfl ?_
          refine zS_putfield (x := 8) (zdec eX10_next 149 rfl) kF_X10_112 (Or.inl kf10_8) ⟨by decide, rfl⟩ rfl rfl rfl (Or.inl (fun q => by cases q)) ?_
          refine zS_aload_n (zdec eX10_next 150 rfl) rfl rfl ?_
          refine zS_dup (zdec eX10_next 151 rfl) (fun q => by cases q) ?_
          refine zS_getfieldE (x := 7) (v := s) (zdec eX10_next 152 rfl) kF_X10_95 ⟨by decide, rfl⟩ rfl rfl rfl ((zset_j (by decide)).trans ((zset_j (by decide)).trans ((zset_j (by decide)).trans ((zset_j (by decide)).trans i1)))) ?_
          refine zS_iconst (zdec eX10_next 153 rfl) rfl ?_
          refine zS_iadd (zdec eX10_next 154 rfl) ⟨by omega, by omega⟩ ?_
          refine zS_putfield (x := 7) (zdec eX10_next 155 rfl) kF_X10_95 (Or.inl kf10_7) ⟨by decide, rfl⟩ rfl rfl rfl (Or.inl (fun q => by cases q)) ?_
          have n1 : kdB (B s) ≠ 1 := fun q => z2 ⟨by omega, kd1.mp q⟩
          have n2 : kdB (B s) ≠ 2 := fun q => z3 ⟨by omega, kd2.mp q⟩
          have n5 := hs (by omega)
          have kr := kdB_rng (B s)
          have hk : tkK B L s = 4 := by unfold tkK; rw [if_pos (by omega)]; exact kd4 n1 n2 (fun q => absurd (kd3.mp q) (by omega)) n5
          exact zlMV (zdec eX10_next 156 rfl) rfl ⟨⟨by rw [tkR_one (by omega) n1 n2]; exact zset_s _ _ _ _, by rw [hk]; exact (zset_n (by omega)).trans (zset_s _ _ _ _), by rw [zset_n (by omega), zset_n (by omega), zset_n (by omega), zset_n (by omega), zset_s], fun z => by omega, fun z => by omega⟩, (((((i9.set (by omega)).set (by omega)).set (by omega)).set (by omega)).set (by omega))⟩
        · refine zS_iconst (zdec eX10_next 146 rfl) rfl ?_
          refine zS_goto (tgt := 294) (zdec eX10_next 147 rfl) rfl ?_
          refine zS_putfield (x := 8) (zdec eX10_next 149 rfl) kF_X10_112 (Or.inl kf10_8) ⟨by decide, rfl⟩ rfl rfl rfl (Or.inl (fun q => by cases q)) ?_
          refine zS_aload_n (zdec eX10_next 150 rfl) rfl rfl ?_
          refine zS_dup (zdec eX10_next 151 rfl) (fun q => by cases q) ?_
          refine zS_getfieldE (x := 7) (v := s) (zdec eX10_next 152 rfl) kF_X10_95 ⟨by decide, rfl⟩ rfl rfl rfl ((zset_j (by decide)).trans ((zset_j (by decide)).trans ((zset_j (by decide)).trans ((zset_j (by decide)).trans i1)))) ?_
          refine zS_iconst (zdec eX10_next 153 rfl) rfl ?_
          refine zS_iadd (zdec eX10_next 154 rfl) ⟨by omega, by omega⟩ ?_
          refine zS_putfield (x := 7) (zdec eX10_next 155 rfl) kF_X10_95 (Or.inl kf10_7) ⟨by decide, rfl⟩ rfl rfl rfl (Or.inl (fun q => by cases q)) ?_
          have n1 : kdB (B s) ≠ 1 := fun q => z2 ⟨by omega, kd1.mp q⟩
          have n2 : kdB (B s) ≠ 2 := fun q => z3 ⟨by omega, kd2.mp q⟩
          have n5 := hs (by omega)
          have kr := kdB_rng (B s)
          have hk : tkK B L s = 3 := by unfold tkK; rw [if_pos (by omega)]; exact kd3.mpr (by omega)
          exact zlMV (zdec eX10_next 156 rfl) rfl ⟨⟨by rw [tkR_one (by omega) n1 n2]; exact zset_s _ _ _ _, by rw [hk]; exact (zset_n (by omega)).trans (zset_s _ _ _ _), by rw [zset_n (by omega), zset_n (by omega), zset_n (by omega), zset_n (by omega), zset_s], fun z => by omega, fun z => by omega⟩, (((((i9.set (by omega)).set (by omega)).set (by omega)).set (by omega)).set (by omega))⟩
      · have z3 := d2i_n.mp c3
        refine zS_aload_n (zdec eX10_next 101 rfl) rfl rfl ?_
        refine zS_iconst (zdec eX10_next 102 rfl) rfl ?_
        refine zS_putfield (x := 8) (zdec eX10_next 103 rfl) kF_X10_112 (Or.inl kf10_8) ⟨by decide, rfl⟩ rfl rfl rfl (Or.inl (fun q => by cases q)) ?_
        have hk : tkK B L s = 2 := by unfold tkK; rw [if_pos (by omega)]; exact kd2.mpr z3.2
        refine L_rnum hd s0 (by omega) L1 RB hk (L - s).toNat s 0 _ s0 (by omega) ((zset_n (by omega)).trans ((zset_n (by omega)).trans ((zset_n (by omega)).trans ((zset_n (by omega)).trans (i1))))) (zset_s _ _ _ _) (by rw [zset_n (by omega), zset_n (by omega), zset_n (by omega), zset_s]) (by rw [zset_n (by omega), zset_n (by omega), zset_s]) (by omega) (by omega) ?_ ((((i9.set (by omega)).set (by omega)).set (by omega)).set (by omega))
        unfold tkR rnI
        rw [hk, show tkE L s 2 = L from if_pos (Or.inr rfl)]
        rfl
    · have z2 := d2i_n.mp c2
      refine zS_aload_n (zdec eX10_next 47 rfl) rfl rfl ?_
      refine zS_iconst (zdec eX10_next 48 rfl) rfl ?_
      refine zS_putfield (x := 8) (zdec eX10_next 49 rfl) kF_X10_112 (Or.inl kf10_8) ⟨by decide, rfl⟩ rfl rfl rfl (Or.inl (fun q => by cases q)) ?_
      refine zS_iconst (zdec eX10_next 50 rfl) rfl ?_
      refine zS_istore_n (zdec eX10_next 51 rfl) rfl ?_
      have hk : tkK B L s = 1 := by unfold tkK; rw [if_pos (by omega)]; exact kd1.mpr z2.2
      refine L_rword hd s0 (by omega) L1 RB hk (L - s).toNat 0 0 _ (by omega) (by omega) (by rw [Int.add_zero]; exact ((zset_n (by omega)).trans ((zset_n (by omega)).trans ((zset_n (by omega)).trans ((zset_n (by omega)).trans (i1)))))) (zset_s _ _ _ _) (by rw [zset_n (by omega), zset_n (by omega), zset_n (by omega), zset_s]) ((zset_n (by omega)).trans (zset_s _ _ _ _)) rfl (fun i i0 k1 => by omega) ?_ ((((i9.set (by omega)).set (by omega)).set (by omega)).set (by omega))
      rw [Int.add_zero]; unfold tkR rnI
      rw [hk, show tkE L s 1 = L from if_pos (Or.inl rfl)]
  · refine zS_aload_n (zdec eX10_next 36 rfl) rfl rfl ?_
    refine zS_iconst (zdec eX10_next 37 rfl) rfl ?_
    refine zS_putfield (x := 8) (zdec eX10_next 38 rfl) kF_X10_112 (Or.inl kf10_8) ⟨by decide, rfl⟩ rfl rfl rfl (Or.inl (fun q => by cases q)) ?_
    refine zS_goto (tgt := 307) (zdec eX10_next 39 rfl) rfl ?_
    have sl : s = L := by omega
    have hk : tkK B L s = 0 := by unfold tkK; rw [if_neg (by omega)]
    exact zlMV (zdec eX10_next 156 rfl) rfl ⟨⟨by rw [tkR_end sl]; exact ((zset_n (by omega)).trans ((zset_n (by omega)).trans ((zset_n (by omega)).trans ((zset_n (by omega)).trans (i1))))), by rw [hk]; exact zset_s _ _ _ _, by rw [zset_n (by omega), zset_n (by omega), zset_n (by omega), zset_s], fun z => by omega, fun z => by omega⟩, ((((i9.set (by omega)).set (by omega)).set (by omega)).set (by omega))⟩
theorem L_rskip {d : Nat} {h : zH} {B : Int → Int} {L s : Int} (hd : 1 ≤ d) (L1 : L ≤ 700) (RB : BR h B L) : ∀ (n : Nat) (a : Int) (h1 : zH), 0 ≤ a → a + n = L → skN B L n a = s → h1 108 7 = a → Fr sN h h1 → zS mX10_next (zr d) 0 [zA 108, zN] [] TT h1 (zAnV (fun h' => NR h' B L s ∧ Fr sN h h')) := by
  intro n
  induction n with
  | zero =>
    intro a h1 a1 a2 r0 i1 i9
    have RB1 : BR h1 B L := RB.fr i9 (fun k j z => by omega)
    refine zS_aload_n (zdec eX10_next 0 rfl) rfl rfl ?_
    refine zS_aload_n (zdec eX10_next 1 rfl) rfl rfl ?_
    refine zS_getfieldE (x := 7) (v := a) (zdec eX10_next 2 rfl) kF_X10_95 ⟨by decide, rfl⟩ rfl rfl rfl i1 ?_
    refine zS_bipush (zdec eX10_next 3 rfl) rfl rfl ?_
    refine zS_bipush (zdec eX10_next 4 rfl) rfl rfl ?_
    refine zvI (M' := mX10_isByte) (As := [zI a, zI 32, zI 32]) (st := []) (zdec eX10_next 5 rfl) kM_X10_98 kV_X10_isByte ⟨by decide, rfl⟩ rfl rfl rfl rfl rfl (by omega) (r_isByte (B := B) (L := L) (by repeat (first | exact RB1 | refine BR.set ?_ (by omega) (by omega))) (by omega) (by omega)) ?_
    refine zS_if_ne (tgt := 30) (zdec eX10_next 6 rfl) rfl (fun c1 => ?_) (fun c1 => ?_)
    · have z1 := d2i_n.mp c1
      exfalso; omega
    · have z1 := d2i_0.mp c1
      refine zS_aload_n (zdec eX10_next 7 rfl) rfl rfl ?_
      refine zS_aload_n (zdec eX10_next 8 rfl) rfl rfl ?_
      refine zS_getfieldE (x := 7) (v := a) (zdec eX10_next 9 rfl) kF_X10_95 ⟨by decide, rfl⟩ rfl rfl rfl i1 ?_
      refine zS_bipush (zdec eX10_next 10 rfl) rfl rfl ?_
      refine zS_bipush (zdec eX10_next 11 rfl) rfl rfl ?_
      refine zvI (M' := mX10_isByte) (As := [zI a, zI 10, zI 10]) (st := []) (zdec eX10_next 12 rfl) kM_X10_98 kV_X10_isByte ⟨by decide, rfl⟩ rfl rfl rfl rfl rfl (by omega) (r_isByte (B := B) (L := L) (by repeat (first | exact RB1 | refine BR.set ?_ (by omega) (by omega))) (by omega) (by omega)) ?_
      refine zS_if_eq (tgt := 43) (zdec eX10_next 13 rfl) rfl (fun c2 => ?_) (fun c2 => ?_)
      · have z2 := d2i_0.mp c2
        have e : a = s := r0
        exact M_rtok hd (by omega) (by omega) L1 RB (fun q => by omega) (i1.trans e) i9
      · have z2 := d2i_n.mp c2
        exfalso; omega
  | succ n ih =>
    intro a h1 a1 a2 r0 i1 i9
    have RB1 : BR h1 B L := RB.fr i9 (fun k j z => by omega)
    refine zS_aload_n (zdec eX10_next 0 rfl) rfl rfl ?_
    refine zS_aload_n (zdec eX10_next 1 rfl) rfl rfl ?_
    refine zS_getfieldE (x := 7) (v := a) (zdec eX10_next 2 rfl) kF_X10_95 ⟨by decide, rfl⟩ rfl rfl rfl i1 ?_
    refine zS_bipush (zdec eX10_next 3 rfl) rfl rfl ?_
    refine zS_bipush (zdec eX10_next 4 rfl) rfl rfl ?_
    refine zvI (M' := mX10_isByte) (As := [zI a, zI 32, zI 32]) (st := []) (zdec eX10_next 5 rfl) kM_X10_98 kV_X10_isByte ⟨by decide, rfl⟩ rfl rfl rfl rfl rfl (by omega) (r_isByte (B := B) (L := L) (by repeat (first | exact RB1 | refine BR.set ?_ (by omega) (by omega))) (by omega) (by omega)) ?_
    refine zS_if_ne (tgt := 30) (zdec eX10_next 6 rfl) rfl (fun c1 => ?_) (fun c1 => ?_)
    · have z1 := d2i_n.mp c1
      refine zS_aload_n (zdec eX10_next 14 rfl) rfl rfl ?_
      refine zS_dup (zdec eX10_next 15 rfl) (fun q => by cases q) ?_
      refine zS_getfieldE (x := 7) (v := a) (zdec eX10_next 16 rfl) kF_X10_95 ⟨by decide, rfl⟩ rfl rfl rfl i1 ?_
      refine zS_iconst (zdec eX10_next 17 rfl) rfl ?_
      refine zS_iadd (zdec eX10_next 18 rfl) ⟨by omega, by omega⟩ ?_
      refine zS_putfield (x := 7) (zdec eX10_next 19 rfl) kF_X10_95 (Or.inl kf10_7) ⟨by decide, rfl⟩ rfl rfl rfl (Or.inl (fun q => by cases q)) ?_
      refine zS_goto (tgt := 0) (zdec eX10_next 20 rfl) rfl ?_
      refine ih (a + 1) _ (by omega) (by omega) ?_ (zset_s _ _ _ _) (i9.set (by omega))
      rw [← r0]; conv => rhs; unfold skN
      rw [if_pos ⟨by omega, kd5.mpr (by omega)⟩]
    · have z1 := d2i_0.mp c1
      refine zS_aload_n (zdec eX10_next 7 rfl) rfl rfl ?_
      refine zS_aload_n (zdec eX10_next 8 rfl) rfl rfl ?_
      refine zS_getfieldE (x := 7) (v := a) (zdec eX10_next 9 rfl) kF_X10_95 ⟨by decide, rfl⟩ rfl rfl rfl i1 ?_
      refine zS_bipush (zdec eX10_next 10 rfl) rfl rfl ?_
      refine zS_bipush (zdec eX10_next 11 rfl) rfl rfl ?_
      refine zvI (M' := mX10_isByte) (As := [zI a, zI 10, zI 10]) (st := []) (zdec eX10_next 12 rfl) kM_X10_98 kV_X10_isByte ⟨by decide, rfl⟩ rfl rfl rfl rfl rfl (by omega) (r_isByte (B := B) (L := L) (by repeat (first | exact RB1 | refine BR.set ?_ (by omega) (by omega))) (by omega) (by omega)) ?_
      refine zS_if_eq (tgt := 43) (zdec eX10_next 13 rfl) rfl (fun c2 => ?_) (fun c2 => ?_)
      · have z2 := d2i_0.mp c2
        have g : ¬ (a < L ∧ kdB (B a) = 5) := fun q => by have := kd5.mp q.2; omega
        have e : a = s := by rw [← r0]; unfold skN; rw [if_neg g]
        exact M_rtok hd (by omega) (by omega) L1 RB (fun q w => g ⟨by omega, by rw [e]; exact w⟩) (i1.trans e) i9
      · have z2 := d2i_n.mp c2
        refine zS_aload_n (zdec eX10_next 14 rfl) rfl rfl ?_
        refine zS_dup (zdec eX10_next 15 rfl) (fun q => by cases q) ?_
        refine zS_getfieldE (x := 7) (v := a) (zdec eX10_next 16 rfl) kF_X10_95 ⟨by decide, rfl⟩ rfl rfl rfl i1 ?_
        refine zS_iconst (zdec eX10_next 17 rfl) rfl ?_
        refine zS_iadd (zdec eX10_next 18 rfl) ⟨by omega, by omega⟩ ?_
        refine zS_putfield (x := 7) (zdec eX10_next 19 rfl) kF_X10_95 (Or.inl kf10_7) ⟨by decide, rfl⟩ rfl rfl rfl (Or.inl (fun q => by cases q)) ?_
        refine zS_goto (tgt := 0) (zdec eX10_next 20 rfl) rfl ?_
        refine ih (a + 1) _ (by omega) (by omega) ?_ (zset_s _ _ _ _) (i9.set (by omega))
        rw [← r0]; conv => rhs; unfold skN
        rw [if_pos ⟨by omega, kd5.mpr (by omega)⟩]
theorem r_next {d : Nat} {h : zH} {B : Int → Int} {L a : Int} (hd : 1 ≤ d) (L1 : L ≤ 700) (RB : BR h B L) (a0 : 0 ≤ a) (a1 : a ≤ L) (i1 : h 108 7 = a) : zMV d mX10_next [zA 108] h (fun h' => NR h' B L (skI B L a) ∧ Fr sN h h') := by
  refine zmet rfl rfl rfl ?_
  exact L_rskip hd L1 RB (L - a).toNat a h a0 (by omega) rfl i1 Fr.rf

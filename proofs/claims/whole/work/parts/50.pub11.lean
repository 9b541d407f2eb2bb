def gmO (D : Dk) (a b x y c : Int) : Int := D (3 + c) 2 + (if D (3 + c) 0 = a then 5 * x else 0) + (if D (3 + c) 0 = b then 5 * y else 0)
def gmX (D : Dk) (a b x y : Int) : Pb := wO (pb0 D) (gmO D a b x y)
theorem gmV {D : Dk} (VD : DV D) (hd0 : 0 < D 0 0) {a b x y : Int} (hab : a ≠ b) (x0 : 0 ≤ x) (x1 : x ≤ 1) (y0 : 0 ≤ y) (y1 : y ≤ 1) : PV (gmX D a b x y) := (pb0_V VD hd0).off' (fun c c0 c1 => by
  have r := VD.row c0 (show c < D 0 8 from c1)
  unfold gmO
  split <;> split <;> omega)
noncomputable def gnL (D : Dk) (p : Pb) (q : Int → Int) (s : Int) : Int := toP p q s - sumI (fun c => if D (3 + c) 0 = s then 10 * q c else 0) (D 0 8)
theorem L_play {d : Nat} {h h2 : zH} {D : Dk} {a b k x y : Int} (hd : 4 ≤ d) (VD : DV D) (hd0 : 0 < D 0 0) (V0 : PV (pb0 D)) (W2 : WC h2 (pb0 D)) (RD2 : DC h2 15 D) (g2 : Fr sAs h h2) (hab : a ≠ b) (x0 : 0 ≤ x) (x1 : x ≤ 1) (y0 : 0 ≤ y) (y1 : y ≤ 1) (k1 : zAnd k 1 ≠ 0 ↔ x = 1) (k2 : zAnd k 2 ≠ 0 ↔ y = 1) : ∀ (n : Nat) (e : Int) (h1 : zH), 0 ≤ e → e + n = D 0 8 → (∀ k j, k ≠ 27 → h1 k j = h2 k j) → (∀ c, 0 ≤ c → c < e → h1 27 c = gmO D a b x y c) → (∀ c, e ≤ c → c < D 0 8 → h1 27 c = D (3 + c) 2) → zS mX1_play (zr d) 7 [zA 104, zA 14, zI a, zI b, zI k, zI e, zN] [] TT h1 (zAnV (fun h' => Ln h' (gmX D a b x y) ∧ Fr sBy h h')) := by
  intro n
  induction n with
  | zero =>
    intro e h1 a1 a2 i1 i2 i3
    have RD1 : DC h1 15 D := RD2.of (fun k j a b => i1 k j (by omega))
    have nb := VD.nb
    refine zS_iload (zdec eX1_play 4 rfl) rfl ?_
    refine zS_aload_n (zdec eX1_play 5 rfl) rfl rfl ?_
    refine zS_getref (i := 18) (zdec eX1_play 6 rfl) kF_X1_23 ⟨by decide, rfl⟩ rfl rfl rfl rfl rfl ?_
    refine zS_getfieldE (x := 8) (v := (D 0 8)) (zdec eX1_play 7 rfl) kF_X1_27 ⟨by decide, rfl⟩ rfl rfl rfl (RD1.s (by decide) (by decide)) ?_
    refine zS_icmp_ge (tgt := 76) (zdec eX1_play 8 rfl) rfl (fun cz => ?_) (fun cz => absurd (by omega) cz)
    have R := W2.off' (h' := h1) (f := gmO D a b x y) V0 i1 (fun c c0 c1 => i2 c c0 (by have : c < D 0 8 := c1; omega))
    have V := gmV VD hd0 hab x0 x1 y0 y1
    refine zS_aload_n (zdec eX1_play 41 rfl) rfl rfl ?_
    refine zvMV (M' := mX8_planByLaw) (As := []) (st := []) (zdec eX1_play 42 rfl) kM_X1_40 kV_X8_planByLaw ⟨by decide, rfl⟩ rfl rfl rfl rfl rfl (by omega) (c_planByLaw (by omega) V R) (fun h3 ⟨S3, O3, m3, f3⟩ => ?_)
    have W3 := R.fr V f3 (fun k j z => by unfold wcP; omega)
    exact zlMV (zdec eX1_play 43 rfl) rfl ⟨⟨W3, S3, O3, m3⟩, (g2.tr (fun k j w => i1 k j (fun z => w (by omega)) : Fr sBy h2 h1) (fun k j z => by omega) (fun k j z => z)).tr f3 (fun k j z => z) (fun k j z => by omega)⟩
  | succ n ih =>
    intro e h1 a1 a2 i1 i2 i3
    have RD1 : DC h1 15 D := RD2.of (fun k j a b => i1 k j (by omega))
    have nb := VD.nb
    have rwx := VD.row a1 (show e < D 0 8 by omega)
    refine zS_iload (zdec eX1_play 4 rfl) rfl ?_
    refine zS_aload_n (zdec eX1_play 5 rfl) rfl rfl ?_
    refine zS_getref (i := 18) (zdec eX1_play 6 rfl) kF_X1_23 ⟨by decide, rfl⟩ rfl rfl rfl rfl rfl ?_
    refine zS_getfieldE (x := 8) (v := (D 0 8)) (zdec eX1_play 7 rfl) kF_X1_27 ⟨by decide, rfl⟩ rfl rfl rfl (RD1.s (by decide) (by decide)) ?_
    refine zS_icmp_ge (tgt := 76) (zdec eX1_play 8 rfl) rfl (fun cz => absurd cz (by omega)) (fun cz => ?_)
    refine zS_aload_n (zdec eX1_play 9 rfl) rfl rfl ?_
    refine zS_getref (i := 18) (zdec eX1_play 10 rfl) kF_X1_23 ⟨by decide, rfl⟩ rfl rfl rfl rfl rfl ?_
    refine zS_getref (i := 26) (zdec eX1_play 11 rfl) kF_X1_33 ⟨by decide, rfl⟩ rfl rfl rfl rfl rfl ?_
    refine zS_iload (zdec eX1_play 12 rfl) rfl ?_
    refine zS_aaload1 (i := 1) (zdec eX1_play 13 rfl) (Or.inr (Or.inl rfl)) ⟨by decide, rfl⟩ rfl rfl rfl (by omega) (by omega) ?_
    refine zS_iconst (zdec eX1_play 14 rfl) rfl ?_
    refine zS_ialoadE (v := (D (3 + e) 0)) (zdec eX1_play 15 rfl) (zrow_18 (by omega) (by omega)) (by decide) (by decide) (RD1.row (by omega) (by omega) (by omega) (by decide) (by decide)) ?_
    refine zS_istore (zdec eX1_play 16 rfl) rfl ?_
    refine zS_iload (zdec eX1_play 17 rfl) rfl ?_
    refine zS_iload_n (zdec eX1_play 18 rfl) rfl ?_
    refine zS_icmp_ne (tgt := 46) (zdec eX1_play 19 rfl) rfl (fun c1 => ?_) (fun c1 => ?_)
    · refine zS_iload (zdec eX1_play 24 rfl) rfl ?_
      refine zS_iload_n (zdec eX1_play 25 rfl) rfl ?_
      refine zS_icmp_ne (tgt := 70) (zdec eX1_play 26 rfl) rfl (fun c2 => ?_) (fun c2 => ?_)
      · refine zS_iinc (zdec eX1_play 39 rfl) rfl rfl ⟨by omega, by omega⟩ ?_
        refine zS_goto (tgt := 7) (zdec eX1_play 40 rfl) rfl ?_
        refine zS_forget (i := 6) ?_
        have oe : gmO D a b x y e = D (3 + e) 2 := by
          unfold gmO
          have kk := k1
          have kl := k2
          split <;> (try split) <;> omega
        exact ih (e + 1) h1 (by omega) (by omega) i1 (fun c c0 c1 => by
            by_cases w : c = e
            · rw [w, i3 e (by omega) (by omega), oe]
            · exact i2 c c0 (by omega)) (fun c c0 c1 => i3 c (by omega) c1)
      · refine zS_iload (zdec eX1_play 27 rfl) rfl ?_
        refine zS_iconst (zdec eX1_play 28 rfl) rfl ?_
        refine zS_iand (zdec eX1_play 29 rfl) ?_
        refine zS_if_eq (tgt := 70) (zdec eX1_play 30 rfl) rfl (fun c3 => ?_) (fun c3 => ?_)
        · refine zS_iinc (zdec eX1_play 39 rfl) rfl rfl ⟨by omega, by omega⟩ ?_
          refine zS_goto (tgt := 7) (zdec eX1_play 40 rfl) rfl ?_
          refine zS_forget (i := 6) ?_
          have oe : gmO D a b x y e = D (3 + e) 2 := by
            unfold gmO
            have kk := k1
            have kl := k2
            split <;> (try split) <;> omega
          exact ih (e + 1) h1 (by omega) (by omega) i1 (fun c c0 c1 => by
              by_cases w : c = e
              · rw [w, i3 e (by omega) (by omega), oe]
              · exact i2 c c0 (by omega)) (fun c c0 c1 => i3 c (by omega) c1)
        · refine zS_aload_n (zdec eX1_play 31 rfl) rfl rfl ?_
          refine zS_getref (i := 20) (zdec eX1_play 32 rfl) kF_X1_37 ⟨by decide, rfl⟩ rfl rfl rfl rfl rfl ?_
          refine zS_iload (zdec eX1_play 33 rfl) rfl ?_
          refine zS_dup2 (zdec eX1_play 34 rfl) (fun q => by cases q) (fun q => by cases q) ?_
          refine zS_ialoadE (v := (D (3 + e) 2)) (zdec eX1_play 35 rfl) ⟨by decide, rfl⟩ (by omega) (by omega) (i3 _ (by omega) (by omega)) ?_
          refine zS_iconst (zdec eX1_play 36 rfl) rfl ?_
          refine zS_iadd (zdec eX1_play 37 rfl) ⟨by omega, by omega⟩ ?_
          refine zS_iastore (zdec eX1_play 38 rfl) ⟨by decide, rfl⟩ (by omega) (by omega) ?_
          refine zS_iinc (zdec eX1_play 39 rfl) rfl rfl ⟨by omega, by omega⟩ ?_
          refine zS_goto (tgt := 7) (zdec eX1_play 40 rfl) rfl ?_
          refine zS_forget (i := 6) ?_
          have oe : gmO D a b x y e = D (3 + e) 2 + 5 := by
            unfold gmO
            have kk := k1
            have kl := k2
            split <;> (try split) <;> omega
          exact ih (e + 1) _ (by omega) (by omega) (fun k j hk => (congrFun (zset_k hk) _).trans (i1 k j hk)) (fun c c0 c1 => by
              by_cases w : c = e
              · rw [w, zset_s, oe]
              · rw [zset_j w]; exact i2 c c0 (by omega)) (fun c c0 c1 => by rw [zset_j (by omega)]; exact i3 c (by omega) c1)
    · refine zS_iload (zdec eX1_play 20 rfl) rfl ?_
      refine zS_iconst (zdec eX1_play 21 rfl) rfl ?_
      refine zS_iand (zdec eX1_play 22 rfl) ?_
      refine zS_if_ne (tgt := 59) (zdec eX1_play 23 rfl) rfl (fun c2 => ?_) (fun c2 => ?_)
      · refine zS_aload_n (zdec eX1_play 31 rfl) rfl rfl ?_
        refine zS_getref (i := 20) (zdec eX1_play 32 rfl) kF_X1_37 ⟨by decide, rfl⟩ rfl rfl rfl rfl rfl ?_
        refine zS_iload (zdec eX1_play 33 rfl) rfl ?_
        refine zS_dup2 (zdec eX1_play 34 rfl) (fun q => by cases q) (fun q => by cases q) ?_
        refine zS_ialoadE (v := (D (3 + e) 2)) (zdec eX1_play 35 rfl) ⟨by decide, rfl⟩ (by omega) (by omega) (i3 _ (by omega) (by omega)) ?_
        refine zS_iconst (zdec eX1_play 36 rfl) rfl ?_
        refine zS_iadd (zdec eX1_play 37 rfl) ⟨by omega, by omega⟩ ?_
        refine zS_iastore (zdec eX1_play 38 rfl) ⟨by decide, rfl⟩ (by omega) (by omega) ?_
        refine zS_iinc (zdec eX1_play 39 rfl) rfl rfl ⟨by omega, by omega⟩ ?_
        refine zS_goto (tgt := 7) (zdec eX1_play 40 rfl) rfl ?_
        refine zS_forget (i := 6) ?_
        have oe : gmO D a b x y e = D (3 + e) 2 + 5 := by
          unfold gmO
          have kk := k1
          have kl := k2
          split <;> (try split) <;> omega
        exact ih (e + 1) _ (by omega) (by omega) (fun k j hk => (congrFun (zset_k hk) _).trans (i1 k j hk)) (fun c c0 c1 => by
            by_cases w : c = e
            · rw [w, zset_s, oe]
            · rw [zset_j w]; exact i2 c c0 (by omega)) (fun c c0 c1 => by rw [zset_j (by omega)]; exact i3 c (by omega) c1)
      · refine zS_iload (zdec eX1_play 24 rfl) rfl ?_
        refine zS_iload_n (zdec eX1_play 25 rfl) rfl ?_
        refine zS_icmp_ne (tgt := 70) (zdec eX1_play 26 rfl) rfl (fun c3 => ?_) (fun c3 => ?_)
        · refine zS_iinc (zdec eX1_play 39 rfl) rfl rfl ⟨by omega, by omega⟩ ?_
          refine zS_goto (tgt := 7) (zdec eX1_play 40 rfl) rfl ?_
          refine zS_forget (i := 6) ?_
          have oe : gmO D a b x y e = D (3 + e) 2 := by
            unfold gmO
            have kk := k1
            have kl := k2
            split <;> (try split) <;> omega
          exact ih (e + 1) h1 (by omega) (by omega) i1 (fun c c0 c1 => by
              by_cases w : c = e
              · rw [w, i3 e (by omega) (by omega), oe]
              · exact i2 c c0 (by omega)) (fun c c0 c1 => i3 c (by omega) c1)
        · refine zS_iload (zdec eX1_play 27 rfl) rfl ?_
          refine zS_iconst (zdec eX1_play 28 rfl) rfl ?_
          refine zS_iand (zdec eX1_play 29 rfl) ?_
          refine zS_if_eq (tgt := 70) (zdec eX1_play 30 rfl) rfl (fun c4 => ?_) (fun c4 => ?_)
          · refine zS_iinc (zdec eX1_play 39 rfl) rfl rfl ⟨by omega, by omega⟩ ?_
            refine zS_goto (tgt := 7) (zdec eX1_play 40 rfl) rfl ?_
            refine zS_forget (i := 6) ?_
            have oe : gmO D a b x y e = D (3 + e) 2 := by
              unfold gmO
              have kk := k1
              have kl := k2
              split <;> (try split) <;> omega
            exact ih (e + 1) h1 (by omega) (by omega) i1 (fun c c0 c1 => by
                by_cases w : c = e
                · rw [w, i3 e (by omega) (by omega), oe]
                · exact i2 c c0 (by omega)) (fun c c0 c1 => i3 c (by omega) c1)
          · refine zS_aload_n (zdec eX1_play 31 rfl) rfl rfl ?_
            refine zS_getref (i := 20) (zdec eX1_play 32 rfl) kF_X1_37 ⟨by decide, rfl⟩ rfl rfl rfl rfl rfl ?_
            refine zS_iload (zdec eX1_play 33 rfl) rfl ?_
            refine zS_dup2 (zdec eX1_play 34 rfl) (fun q => by cases q) (fun q => by cases q) ?_
            refine zS_ialoadE (v := (D (3 + e) 2)) (zdec eX1_play 35 rfl) ⟨by decide, rfl⟩ (by omega) (by omega) (i3 _ (by omega) (by omega)) ?_
            refine zS_iconst (zdec eX1_play 36 rfl) rfl ?_
            refine zS_iadd (zdec eX1_play 37 rfl) ⟨by omega, by omega⟩ ?_
            refine zS_iastore (zdec eX1_play 38 rfl) ⟨by decide, rfl⟩ (by omega) (by omega) ?_
            refine zS_iinc (zdec eX1_play 39 rfl) rfl rfl ⟨by omega, by omega⟩ ?_
            refine zS_goto (tgt := 7) (zdec eX1_play 40 rfl) rfl ?_
            refine zS_forget (i := 6) ?_
            have oe : gmO D a b x y e = D (3 + e) 2 + 5 := by
              unfold gmO
              have kk := k1
              have kl := k2
              split <;> (try split) <;> omega
            exact ih (e + 1) _ (by omega) (by omega) (fun k j hk => (congrFun (zset_k hk) _).trans (i1 k j hk)) (fun c c0 c1 => by
                by_cases w : c = e
                · rw [w, zset_s, oe]
                · rw [zset_j w]; exact i2 c c0 (by omega)) (fun c c0 c1 => by rw [zset_j (by omega)]; exact i3 c (by omega) c1)
theorem c_play {d : Nat} {h : zH} {D : Dk} {a b k x y : Int} (hd : 5 ≤ d) (VD : DV D) (hd0 : 0 < D 0 0) (RD : DC h 15 D) (hab : a ≠ b) (x0 : 0 ≤ x) (x1 : x ≤ 1) (y0 : 0 ≤ y) (y1 : y ≤ 1) (k1 : zAnd k 1 ≠ 0 ↔ x = 1) (k2 : zAnd k 2 ≠ 0 ↔ y = 1) : zMV d mX1_play [zA 104, zA 14, zI a, zI b, zI k] h (fun h' => Ln h' (gmX D a b x y) ∧ Fr sBy h h') := by
  have nb := VD.nb
  refine zmet rfl rfl rfl ?_
  refine zS_aload_n (zdec eX1_play 0 rfl) rfl rfl ?_
  refine zvMV (M' := mX8_asTold) (As := []) (st := []) (zdec eX1_play 1 rfl) kM_X1_18 kV_X8_asTold ⟨by decide, rfl⟩ rfl rfl rfl rfl rfl (by omega) (c_asTold (by omega) hd0 VD RD) (fun h2 ⟨R, cl2, g2⟩ => ?_)
  refine zS_iconst (zdec eX1_play 2 rfl) rfl ?_
  refine zS_istore (zdec eX1_play 3 rfl) rfl ?_
  exact L_play (by omega) VD hd0 (pb0_V VD hd0) R (RD.fr g2 (fun k j z => by omega)) g2 hab x0 x1 y0 y1 k1 k2 (D 0 8).toNat 0 h2 (by omega) (by omega) (fun _ _ _ => rfl) (fun c c0 c1 => by omega) (fun c c0 c1 => R.off c0 c1)

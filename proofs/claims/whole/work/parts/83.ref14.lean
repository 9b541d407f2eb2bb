theorem L_rwor1 {d : Nat} {h : zH} {nb c m a : Int} {Q : Option zV → zT → zH → Prop} {f : Int → Bool} {g : Int → Int → Int} (hd : 2 ≤ d) (SN : SnR h nb f g) (c0 : 0 ≤ c) (cn : c < nb) (nb5 : nb ≤ 5) (x0 : 0 ≤ a) (x1 : a < 21) (K : zS mX10_worstBy (zr d) 86 [zA 108, zI c, zI m, zI a, zI (ctI (wrI f g c a) 21), zI 21] [] TT h Q) : ∀ (n : Nat) (e : Int), 0 ≤ e → e + n = 21 → zS mX10_worstBy (zr d) 16 [zA 108, zI c, zI m, zI a, zI (ctI (wrI f g c a) e), zI e] [] TT h Q := by
  intro n
  induction n with
  | zero =>
    intro e a1 a2
    refine zS_iload (zdec eX10_worstBy 11 rfl) rfl ?_
    refine zS_bipush (zdec eX10_worstBy 12 rfl) rfl rfl ?_
    refine zS_icmp_gt (tgt := 86) (zdec eX10_worstBy 13 rfl) rfl (fun cz => ?_) (fun cz => absurd (by omega) cz)
    rw [show e = 21 by omega]
    exact K
  | succ n ih =>
    intro e a1 a2
    have ct := ctB (wrI f g c a) a1
    have ba : bitB (bitsI f 21) a = f a := by rw [bitsI_bit (by decide) (by decide) (by omega) (by omega), decide_eq_true (by omega), Bool.true_and]
    have be : bitB (bitsI f 21) e = f e := by rw [bitsI_bit (by decide) (by decide) (by omega) (by omega), decide_eq_true (by omega), Bool.true_and]
    refine zS_iload (zdec eX10_worstBy 11 rfl) rfl ?_
    refine zS_bipush (zdec eX10_worstBy 12 rfl) rfl rfl ?_
    refine zS_icmp_gt (tgt := 86) (zdec eX10_worstBy 13 rfl) rfl (fun cz => absurd cz (by omega)) (fun cz => ?_)
    refine zS_iload (zdec eX10_worstBy 14 rfl) rfl ?_
    refine zS_aload_n (zdec eX10_worstBy 15 rfl) rfl rfl ?_
    refine zS_getfieldE (x := 39) (v := (bitsI f 21)) (zdec eX10_worstBy 16 rfl) kF_X10_409 ⟨by decide, rfl⟩ rfl rfl rfl SN.1 ?_
    refine zS_iload_n (zdec eX10_worstBy 17 rfl) rfl ?_
    refine zsI (M' := mX10_isBit) (As := [zI (bitsI f 21), zI a]) (st := [zI (ctI (wrI f g c a) e)]) (zdec eX10_worstBy 18 rfl) kM_X10_264 kS_X10_isBit rfl rfl rfl (by omega) r_isBit ?_
    refine zS_if_eq (tgt := 76) (zdec eX10_worstBy 19 rfl) rfl (fun k1 => ?_) (fun k1 => ?_)
    · have z1 := b2i_0.mp k1
      refine zS_iconst (zdec eX10_worstBy 44 rfl) rfl ?_
      refine zS_iadd (zdec eX10_worstBy 45 rfl) ⟨by omega, by omega⟩ ?_
      refine zS_istore (zdec eX10_worstBy 46 rfl) rfl ?_
      refine zS_iinc (zdec eX10_worstBy 47 rfl) rfl rfl ⟨by omega, by omega⟩ ?_
      refine zS_goto (tgt := 16) (zdec eX10_worstBy 48 rfl) rfl ?_
      have k := ih (e + 1) (by omega) (by omega)
      rw [ct_s _ a1] at k
      rw [show wrI f g c a e = false by unfold wrI; rw [show f a = false from ba.symm.trans z1]; rfl] at k
      exact k
    · have z1 := b2i_n.mp k1
      refine zS_aload_n (zdec eX10_worstBy 20 rfl) rfl rfl ?_
      refine zS_getfieldE (x := 39) (v := (bitsI f 21)) (zdec eX10_worstBy 21 rfl) kF_X10_409 ⟨by decide, rfl⟩ rfl rfl rfl SN.1 ?_
      refine zS_iload (zdec eX10_worstBy 22 rfl) rfl ?_
      refine zsI (M' := mX10_isBit) (As := [zI (bitsI f 21), zI e]) (st := [zI (ctI (wrI f g c a) e)]) (zdec eX10_worstBy 23 rfl) kM_X10_264 kS_X10_isBit rfl rfl rfl (by omega) r_isBit ?_
      refine zS_if_eq (tgt := 76) (zdec eX10_worstBy 24 rfl) rfl (fun c2 => ?_) (fun c2 => ?_)
      · have z2 := b2i_0.mp c2
        refine zS_iconst (zdec eX10_worstBy 44 rfl) rfl ?_
        refine zS_iadd (zdec eX10_worstBy 45 rfl) ⟨by omega, by omega⟩ ?_
        refine zS_istore (zdec eX10_worstBy 46 rfl) rfl ?_
        refine zS_iinc (zdec eX10_worstBy 47 rfl) rfl rfl ⟨by omega, by omega⟩ ?_
        refine zS_goto (tgt := 16) (zdec eX10_worstBy 48 rfl) rfl ?_
        have k := ih (e + 1) (by omega) (by omega)
        rw [ct_s _ a1] at k
        rw [show wrI f g c a e = false by unfold wrI; rw [show f e = false from be.symm.trans z2, Bool.and_false]; rfl] at k
        exact k
      · have z2 := b2i_n.mp c2
        refine zS_aload_n (zdec eX10_worstBy 25 rfl) rfl rfl ?_
        refine zS_getref (i := 72) (zdec eX10_worstBy 26 rfl) kF_X10_68 ⟨by decide, rfl⟩ rfl rfl rfl rfl rfl ?_
        refine zS_iconst (zdec eX10_worstBy 27 rfl) rfl ?_
        refine zS_iload_n (zdec eX10_worstBy 28 rfl) rfl ?_
        refine zS_imul (zdec eX10_worstBy 29 rfl) ⟨by omega, by omega⟩ ?_
        refine zS_iload_n (zdec eX10_worstBy 30 rfl) rfl ?_
        refine zS_iadd (zdec eX10_worstBy 31 rfl) ⟨by omega, by omega⟩ ?_
        refine zS_ialoadE (v := (g a c)) (zdec eX10_worstBy 32 rfl) ⟨by decide, rfl⟩ (by omega) (by omega) (SN.2 a c (by omega) (by omega) (by omega) (by omega)) ?_
        refine zS_aload_n (zdec eX10_worstBy 33 rfl) rfl rfl ?_
        refine zS_getref (i := 72) (zdec eX10_worstBy 34 rfl) kF_X10_68 ⟨by decide, rfl⟩ rfl rfl rfl rfl rfl ?_
        refine zS_iconst (zdec eX10_worstBy 35 rfl) rfl ?_
        refine zS_iload (zdec eX10_worstBy 36 rfl) rfl ?_
        refine zS_imul (zdec eX10_worstBy 37 rfl) ⟨by omega, by omega⟩ ?_
        refine zS_iload_n (zdec eX10_worstBy 38 rfl) rfl ?_
        refine zS_iadd (zdec eX10_worstBy 39 rfl) ⟨by omega, by omega⟩ ?_
        refine zS_ialoadE (v := (g e c)) (zdec eX10_worstBy 40 rfl) ⟨by decide, rfl⟩ (by omega) (by omega) (SN.2 e c (by omega) (by omega) (by omega) (by omega)) ?_
        refine zS_icmp_ne (tgt := 76) (zdec eX10_worstBy 41 rfl) rfl (fun c3 => ?_) (fun c3 => ?_)
        · refine zS_iconst (zdec eX10_worstBy 44 rfl) rfl ?_
          refine zS_iadd (zdec eX10_worstBy 45 rfl) ⟨by omega, by omega⟩ ?_
          refine zS_istore (zdec eX10_worstBy 46 rfl) rfl ?_
          refine zS_iinc (zdec eX10_worstBy 47 rfl) rfl rfl ⟨by omega, by omega⟩ ?_
          refine zS_goto (tgt := 16) (zdec eX10_worstBy 48 rfl) rfl ?_
          have k := ih (e + 1) (by omega) (by omega)
          rw [ct_s _ a1] at k
          rw [show wrI f g c a e = false by unfold wrI; rw [decide_eq_false c3, Bool.and_false]] at k
          exact k
        · refine zS_iconst (zdec eX10_worstBy 42 rfl) rfl ?_
          refine zS_goto (tgt := 77) (zdec eX10_worstBy 43 rfl) rfl ?_
          refine zS_iadd (zdec eX10_worstBy 45 rfl) ⟨by omega, by omega⟩ ?_
          refine zS_istore (zdec eX10_worstBy 46 rfl) rfl ?_
          refine zS_iinc (zdec eX10_worstBy 47 rfl) rfl rfl ⟨by omega, by omega⟩ ?_
          refine zS_goto (tgt := 16) (zdec eX10_worstBy 48 rfl) rfl ?_
          have k := ih (e + 1) (by omega) (by omega)
          rw [ct_s _ a1] at k
          rw [show wrI f g c a e = true by unfold wrI; rw [show f a = true from ba.symm.trans z1, show f e = true from be.symm.trans z2, decide_eq_true c3]; rfl] at k
          exact k
theorem L_rwor {d : Nat} {h : zH} {nb c : Int} {f : Int → Bool} {g : Int → Int → Int} (hd : 2 ≤ d) (SN : SnR h nb f g) (c0 : 0 ≤ c) (c1 : c < nb) (nb5 : nb ≤ 5) : ∀ (n : Nat) (e : Int), 0 ≤ e → e + n = 21 → zS mX10_worstBy (zr d) 4 [zA 108, zI c, zI (moI (fun a => ctI (wrI f g c a) 21) e), zI e, zN, zN] [] TT h (zOne (woR f g c) h) := by
  intro n
  induction n with
  | zero =>
    intro e a1 a2
    refine zS_iload_n (zdec eX10_worstBy 4 rfl) rfl ?_
    refine zS_bipush (zdec eX10_worstBy 5 rfl) rfl rfl ?_
    refine zS_icmp_gt (tgt := 99) (zdec eX10_worstBy 6 rfl) rfl (fun cz => ?_) (fun cz => absurd (by omega) cz)
    refine zS_iload_n (zdec eX10_worstBy 55 rfl) rfl ?_
    exact zlI (zdec eX10_worstBy 56 rfl) rfl (by unfold woR; rw [show e = 21 by omega])
  | succ n ih =>
    intro e a1 a2
    refine zS_iload_n (zdec eX10_worstBy 4 rfl) rfl ?_
    refine zS_bipush (zdec eX10_worstBy 5 rfl) rfl rfl ?_
    refine zS_icmp_gt (tgt := 99) (zdec eX10_worstBy 6 rfl) rfl (fun cz => absurd cz (by omega)) (fun cz => ?_)
    refine zS_iconst (zdec eX10_worstBy 7 rfl) rfl ?_
    refine zS_istore (zdec eX10_worstBy 8 rfl) rfl ?_
    refine zS_iconst (zdec eX10_worstBy 9 rfl) rfl ?_
    refine zS_istore (zdec eX10_worstBy 10 rfl) rfl ?_
    refine L_rwor1 hd SN c0 c1 nb5 a1 (by omega) ?_ 21 0 (by omega) (by omega)
    refine zS_iload_n (zdec eX10_worstBy 49 rfl) rfl ?_
    refine zS_iload (zdec eX10_worstBy 50 rfl) rfl ?_
    refine zsI (M' := mX10_moreOf) (As := [zI (moI (fun a => ctI (wrI f g c a) 21) e), zI (ctI (wrI f g c e) 21)]) (st := []) (zdec eX10_worstBy 51 rfl) kM_X10_268 kS_X10_moreOf rfl rfl rfl (by omega) r_moreOf ?_
    refine zS_istore_n (zdec eX10_worstBy 52 rfl) rfl ?_
    refine zS_iinc (zdec eX10_worstBy 53 rfl) rfl rfl ⟨by omega, by omega⟩ ?_
    refine zS_goto (tgt := 4) (zdec eX10_worstBy 54 rfl) rfl ?_
    refine zS_forget (i := 4) ?_
    refine zS_forget (i := 5) ?_
    have k := ih (e + 1) (by omega) (by omega)
    rw [moI_s _ a1] at k
    exact k
theorem r_worstBy {d : Nat} {h : zH} {nb c : Int} {f : Int → Bool} {g : Int → Int → Int} (hd : 2 ≤ d) (SN : SnR h nb f g) (c0 : 0 ≤ c) (c1 : c < nb) (nb5 : nb ≤ 5) : zPI d mX10_worstBy [zA 108, zI c] h (woR f g c) := by
  refine zmet rfl rfl rfl ?_
  refine zS_iconst (zdec eX10_worstBy 0 rfl) rfl ?_
  refine zS_istore_n (zdec eX10_worstBy 1 rfl) rfl ?_
  refine zS_iconst (zdec eX10_worstBy 2 rfl) rfl ?_
  refine zS_istore_n (zdec eX10_worstBy 3 rfl) rfl ?_
  exact L_rwor hd SN c0 c1 nb5 21 0 (by omega) (by omega)
theorem L_rask {d : Nat} {h : zH} {D : Dk} {W : Rw} {x y : Int} (hd : 20 ≤ d) (VD : DV D) (hd0 : 0 < D 0 0) (RD : DR h 0 D) (RW : RR h W) (VW : RV W) (x0 : 0 ≤ x) (x1 : x < 4) (y0 : 0 ≤ y) (y1 : y < D 0 8) (ok : okS D W x) : ∀ (n : Nat) (e : Int) (h1 : zH), 0 ≤ e → e + n = D 0 8 → SnR h1 (D 0 8) (ftP D W x y) (plP D y) → h1 108 40 = (slI (fun _ => true) (woR (ftP D W x y) (plP D y)) (ctI (ftP D W x y) 21) e).1 → h1 108 41 = (slI (fun _ => true) (woR (ftP D W x y) (plP D y)) (ctI (ftP D W x y) 21) e).2 → Fr sQR h h1 → zS mX10_laysSeen (zr d) 112 [zA 108, zI x, zI y, zI e, zN] [] TT h1 (zAnV (fun h' => SnR h' (D 0 8) (ftP D W x y) (plP D y) ∧ h' 108 40 = (slI (fun _ => true) (woR (ftP D W x y) (plP D y)) (ctI (ftP D W x y) 21) (D 0 8)).1 ∧ h' 108 41 = (slI (fun _ => true) (woR (ftP D W x y) (plP D y)) (ctI (ftP D W x y) 21) (D 0 8)).2 ∧ Fr sQR h h')) := by
  intro n
  induction n with
  | zero =>
    intro e h1 a1 a2 SN b40 b41 i1
    have RD1 : DR h1 0 D := RD.fr i1 (fun k j z => by omega)
    have nb := VD.nb
    refine zS_iload_n (zdec eX10_laysSeen 63 rfl) rfl ?_
    refine zS_aload_n (zdec eX10_laysSeen 64 rfl) rfl rfl ?_
    refine zvI (M' := mX10_bills) (As := []) (st := [zI e]) (zdec eX10_laysSeen 65 rfl) kM_X10_236 kV_X10_bills ⟨by decide, rfl⟩ rfl rfl rfl rfl rfl (by omega) (d_bills RD1) ?_
    refine zS_icmp_ge (tgt := 156) (zdec eX10_laysSeen 66 rfl) rfl (fun cz => ?_) (fun cz => absurd (by omega) cz)
    exact zlMV (zdec eX10_laysSeen 84 rfl) rfl ⟨SN, by rw [b40, show e = D 0 8 by omega], by rw [b41, show e = D 0 8 by omega], i1⟩
  | succ n ih =>
    intro e h1 a1 a2 SN b40 b41 i1
    have RD1 : DR h1 0 D := RD.fr i1 (fun k j z => by omega)
    have nb := VD.nb
    refine zS_iload_n (zdec eX10_laysSeen 63 rfl) rfl ?_
    refine zS_aload_n (zdec eX10_laysSeen 64 rfl) rfl rfl ?_
    refine zvI (M' := mX10_bills) (As := []) (st := [zI e]) (zdec eX10_laysSeen 65 rfl) kM_X10_236 kV_X10_bills ⟨by decide, rfl⟩ rfl rfl rfl rfl rfl (by omega) (d_bills RD1) ?_
    refine zS_icmp_ge (tgt := 156) (zdec eX10_laysSeen 66 rfl) rfl (fun cz => absurd cz (by omega)) (fun cz => ?_)
    refine zS_aload_n (zdec eX10_laysSeen 67 rfl) rfl rfl ?_
    refine zS_iload_n (zdec eX10_laysSeen 68 rfl) rfl ?_
    refine zvI (M' := mX10_worstBy) (As := [zI e]) (st := []) (zdec eX10_laysSeen 69 rfl) kM_X10_421 kV_X10_worstBy ⟨by decide, rfl⟩ rfl rfl rfl rfl rfl (by omega) (r_worstBy (by omega) SN a1 (by omega) nb.2) ?_
    refine zS_istore (zdec eX10_laysSeen 70 rfl) rfl ?_
    refine zS_iload (zdec eX10_laysSeen 71 rfl) rfl ?_
    refine zS_aload_n (zdec eX10_laysSeen 72 rfl) rfl rfl ?_
    refine zS_getfieldE (x := 41) (v := ((slI (fun _ => true) (woR (ftP D W x y) (plP D y)) (ctI (ftP D W x y) 21) e).2)) (zdec eX10_laysSeen 73 rfl) kF_X10_418 ⟨by decide, rfl⟩ rfl rfl rfl b41 ?_
    refine zS_icmp_lt (tgt := 139) (zdec eX10_laysSeen 74 rfl) rfl (fun c1 => ?_) (fun c1 => ?_)
    · refine zS_aload_n (zdec eX10_laysSeen 76 rfl) rfl rfl ?_
      refine zS_iload_n (zdec eX10_laysSeen 77 rfl) rfl ?_
      refine zS_putfield (x := 40) (zdec eX10_laysSeen 78 rfl) kF_X10_415 (Or.inl kf10_40) ⟨by decide, rfl⟩ rfl rfl rfl (Or.inl (fun q => by cases q)) ?_
      refine zS_aload_n (zdec eX10_laysSeen 79 rfl) rfl rfl ?_
      refine zS_iload (zdec eX10_laysSeen 80 rfl) rfl ?_
      refine zS_putfield (x := 41) (zdec eX10_laysSeen 81 rfl) kF_X10_418 (Or.inl kf10_41) ⟨by decide, rfl⟩ rfl rfl rfl (Or.inl (fun q => by cases q)) ?_
      refine zS_iinc (zdec eX10_laysSeen 82 rfl) rfl rfl ⟨by omega, by omega⟩ ?_
      refine zS_goto (tgt := 112) (zdec eX10_laysSeen 83 rfl) rfl ?_
      refine zS_forget (i := 4) ?_
      have ye : (slI (fun _ => true) (woR (ftP D W x y) (plP D y)) (ctI (ftP D W x y) 21) (e + 1)) = (e, woR (ftP D W x y) (plP D y) e) := by rw [slI_s _ _ _ a1, if_pos ⟨rfl, by omega⟩]
      exact ih (e + 1) _ (by omega) (by omega) ⟨by rw [zset_n (by omega), zset_n (by omega)]; exact SN.1, fun n c n0 n1 c0 c1 => by rw [zset_n (by omega), zset_n (by omega)]; exact SN.2 n c n0 n1 c0 c1⟩ (by rw [ye, zset_n (by omega), zset_s]) (by rw [ye, zset_s]) ((i1.set (by omega)).set (by omega))
    · refine zS_goto (tgt := 150) (zdec eX10_laysSeen 75 rfl) rfl ?_
      refine zS_iinc (zdec eX10_laysSeen 82 rfl) rfl rfl ⟨by omega, by omega⟩ ?_
      refine zS_goto (tgt := 112) (zdec eX10_laysSeen 83 rfl) rfl ?_
      refine zS_forget (i := 4) ?_
      have no : (slI (fun _ => true) (woR (ftP D W x y) (plP D y)) (ctI (ftP D W x y) 21) (e + 1)) = (slI (fun _ => true) (woR (ftP D W x y) (plP D y)) (ctI (ftP D W x y) 21) e) := by rw [slI_s _ _ _ a1, if_neg (fun w => by have := w.2; omega)]
      exact ih (e + 1) h1 (by omega) (by omega) SN (by rw [no]; exact b40) (by rw [no]; exact b41) i1
theorem L_rsee1 {d : Nat} {h : zH} {D : Dk} {W : Rw} {x y e : Int} {Q : Option zV → zT → zH → Prop} (hd : 20 ≤ d) (VD : DV D) (hd0 : 0 < D 0 0) (RD : DR h 0 D) (RW : RR h W) (VW : RV W) (x0 : 0 ≤ x) (x1 : x < 4) (y0 : 0 ≤ y) (y1 : y < D 0 8) (ok : okS D W x) (e0 : 0 ≤ e) (e1 : e < 21) (K : ∀ h2 : zH, Fr sQR h h2 → h2 108 39 = bitsI (ftP D W x y) (e + 1) → (∀ n c, 0 ≤ n → n < e + 1 → 0 ≤ c → c < D 0 8 → h2 126 (5 * n + c) = plP D y n c) → zS mX10_laysSeen (zr d) 88 [zA 108, zI x, zI y, zI e, zI (D 0 8)] [] TT h2 Q) : ∀ (n : Nat) (t : Int) (h1 : zH), 0 ≤ t → t + n = D 0 8 → Fr sQR h h1 → WR h1 (ofX D y e) → PlR h1 (ofX D y e) (planP (ofX D y e)) → h1 108 39 = bitsI (ftP D W x y) (e + 1) → (∀ n c, 0 ≤ n → n < e → 0 ≤ c → c < D 0 8 → h1 126 (5 * n + c) = plP D y n c) → (∀ c, 0 ≤ c → c < t → h1 126 (5 * e + c) = plP D y e c) → zS mX10_laysSeen (zr d) 55 [zA 108, zI x, zI y, zI e, zI t] [] TT h1 Q := by
  intro n
  induction n with
  | zero =>
    intro t h1 a1 a2 i1 R S b39 i2 i3
    have RD1 : DR h1 0 D := RD.fr i1 (fun k j z => by omega)
    have nb := VD.nb
    refine zS_iload (zdec eX10_laysSeen 33 rfl) rfl ?_
    refine zS_aload_n (zdec eX10_laysSeen 34 rfl) rfl rfl ?_
    refine zvI (M' := mX10_bills) (As := []) (st := [zI t]) (zdec eX10_laysSeen 35 rfl) kM_X10_236 kV_X10_bills ⟨by decide, rfl⟩ rfl rfl rfl rfl rfl (by omega) (d_bills RD1) ?_
    refine zS_icmp_ge (tgt := 88) (zdec eX10_laysSeen 36 rfl) rfl (fun cz => ?_) (fun cz => absurd (by omega) cz)
    rw [show t = D 0 8 by omega]
    exact K h1 i1 b39 (fun n c n0 n1 c0 c1 => by
        by_cases w : n = e
        · rw [w]; exact i3 c c0 (by omega)
        · exact i2 n c n0 (by omega) c0 c1)
  | succ n ih =>
    intro t h1 a1 a2 i1 R S b39 i2 i3
    have RD1 : DR h1 0 D := RD.fr i1 (fun k j z => by omega)
    have nb := VD.nb
    refine zS_iload (zdec eX10_laysSeen 33 rfl) rfl ?_
    refine zS_aload_n (zdec eX10_laysSeen 34 rfl) rfl rfl ?_
    refine zvI (M' := mX10_bills) (As := []) (st := [zI t]) (zdec eX10_laysSeen 35 rfl) kM_X10_236 kV_X10_bills ⟨by decide, rfl⟩ rfl rfl rfl rfl rfl (by omega) (d_bills RD1) ?_
    refine zS_icmp_ge (tgt := 88) (zdec eX10_laysSeen 36 rfl) rfl (fun cz => absurd cz (by omega)) (fun cz => ?_)
    refine zS_aload_n (zdec eX10_laysSeen 37 rfl) rfl rfl ?_
    refine zS_getref (i := 72) (zdec eX10_laysSeen 38 rfl) kF_X10_68 ⟨by decide, rfl⟩ rfl rfl rfl rfl rfl ?_
    refine zS_iconst (zdec eX10_laysSeen 39 rfl) rfl ?_
    refine zS_iload_n (zdec eX10_laysSeen 40 rfl) rfl ?_
    refine zS_imul (zdec eX10_laysSeen 41 rfl) ⟨by omega, by omega⟩ ?_
    refine zS_iload (zdec eX10_laysSeen 42 rfl) rfl ?_
    refine zS_iadd (zdec eX10_laysSeen 43 rfl) ⟨by omega, by omega⟩ ?_
    refine zS_aload_n (zdec eX10_laysSeen 44 rfl) rfl rfl ?_
    refine zS_getref (i := 69) (zdec eX10_laysSeen 45 rfl) kF_X10_59 ⟨by decide, rfl⟩ rfl rfl rfl rfl rfl ?_
    refine zS_iload (zdec eX10_laysSeen 46 rfl) rfl ?_
    refine zS_ialoadE (v := (plP D y e t)) (zdec eX10_laysSeen 47 rfl) ⟨by decide, rfl⟩ (by omega) (by omega) (S _ (by omega) (show _ < D 0 8 by omega)) ?_
    refine zS_iastore (zdec eX10_laysSeen 48 rfl) ⟨by decide, rfl⟩ (by omega) (by omega) ?_
    refine zS_iinc (zdec eX10_laysSeen 49 rfl) rfl rfl ⟨by omega, by omega⟩ ?_
    refine zS_goto (tgt := 55) (zdec eX10_laysSeen 50 rfl) rfl ?_
    refine ih (t + 1) _ (by omega) (by omega) (i1.set (by omega)) (R.set (by unfold wrP; omega)) (S.fr (S := fun k _ => k = 126) (Fr.rf.set rfl) (fun k j z => by omega)) (by rw [zset_n (by omega)]; exact b39) (fun n c n0 n1 c0 c1 => by rw [zset_n (by omega)]; exact i2 n c n0 n1 c0 c1) (fun c c0 c1 => ?_)
    by_cases w : c = t
    · rw [w, zset_s]
    · rw [zset_n (by omega)]; exact i3 c c0 (by omega)
theorem L_rsee {d : Nat} {h : zH} {D : Dk} {W : Rw} {x y : Int} (hd : 20 ≤ d) (VD : DV D) (hd0 : 0 < D 0 0) (RD : DR h 0 D) (RW : RR h W) (VW : RV W) (x0 : 0 ≤ x) (x1 : x < 4) (y0 : 0 ≤ y) (y1 : y < D 0 8) (ok : okS D W x) : ∀ (n : Nat) (e : Int) (h1 : zH), 0 ≤ e → e + n = 21 → Fr sQR h h1 → h1 108 39 = bitsI (ftP D W x y) e → (∀ n c, 0 ≤ n → n < e → 0 ≤ c → c < D 0 8 → h1 126 (5 * n + c) = plP D y n c) → zS mX10_laysSeen (zr d) 7 [zA 108, zI x, zI y, zI e, zN] [] TT h1 (zAnV (fun h' => SnR h' (D 0 8) (ftP D W x y) (plP D y) ∧ h' 108 40 = (slI (fun _ => true) (woR (ftP D W x y) (plP D y)) (ctI (ftP D W x y) 21) (D 0 8)).1 ∧ h' 108 41 = (slI (fun _ => true) (woR (ftP D W x y) (plP D y)) (ctI (ftP D W x y) 21) (D 0 8)).2 ∧ Fr sQR h h')) := by
  intro n
  induction n with
  | zero =>
    intro e h1 a1 a2 i1 b39 i2
    have RD1 : DR h1 0 D := RD.fr i1 (fun k j z => by omega)
    have nb := VD.nb
    refine zS_iload_n (zdec eX10_laysSeen 5 rfl) rfl ?_
    refine zS_bipush (zdec eX10_laysSeen 6 rfl) rfl rfl ?_
    refine zS_icmp_gt (tgt := 94) (zdec eX10_laysSeen 7 rfl) rfl (fun cz => ?_) (fun cz => absurd (by omega) cz)
    have c39 : h1 108 39 = bitsI (ftP D W x y) 21 := by rw [b39, show e = 21 by omega]
    refine zS_aload_n (zdec eX10_laysSeen 53 rfl) rfl rfl ?_
    refine zS_iconst (zdec eX10_laysSeen 54 rfl) rfl ?_
    refine zS_putfield (x := 40) (zdec eX10_laysSeen 55 rfl) kF_X10_415 (Or.inl kf10_40) ⟨by decide, rfl⟩ rfl rfl rfl (Or.inl (fun q => by cases q)) ?_
    refine zS_aload_n (zdec eX10_laysSeen 56 rfl) rfl rfl ?_
    refine zS_aload_n (zdec eX10_laysSeen 57 rfl) rfl rfl ?_
    refine zS_getfieldE (x := 39) (v := (bitsI (ftP D W x y) 21)) (zdec eX10_laysSeen 58 rfl) kF_X10_409 ⟨by decide, rfl⟩ rfl rfl rfl ((zset_j (by decide)).trans c39) ?_
    refine zsI (M' := mX10_sizeOf) (As := [zI (bitsI (ftP D W x y) 21)]) (st := [zA 108]) (zdec eX10_laysSeen 59 rfl) kM_X10_364 kS_X10_sizeOf rfl rfl rfl (by omega) (show zPI (d - 1) mX10_sizeOf [zI (bitsI (ftP D W x y) 21)] (zset h1 108 40 (-1)) (ctI (ftP D W x y) 21) from by rw [← ct_bits (f := (ftP D W x y)) (k := 21) (by decide) (by decide)]; exact r_sizeOf (bits21 (ftP D W x y) (by decide) (by decide)).1 (by have := (bits21 (ftP D W x y) (k := 21) (by decide) (by decide)).2; omega)) ?_
    refine zS_putfield (x := 41) (zdec eX10_laysSeen 60 rfl) kF_X10_418 (Or.inl kf10_41) ⟨by decide, rfl⟩ rfl rfl rfl (Or.inl (fun q => by cases q)) ?_
    refine zS_iconst (zdec eX10_laysSeen 61 rfl) rfl ?_
    refine zS_istore_n (zdec eX10_laysSeen 62 rfl) rfl ?_
    exact L_rask hd VD hd0 RD RW VW x0 x1 y0 y1 ok (D 0 8).toNat 0 _ (by omega) (by omega) ⟨by rw [zset_n (by omega), zset_n (by omega)]; exact c39, fun n c n0 n1 c0 c1 => by rw [zset_n (by omega), zset_n (by omega)]; exact i2 n c n0 (by omega) c0 c1⟩ (by rw [zset_n (by omega), zset_s]; rfl) (by rw [zset_s]; rfl) ((i1.set (by omega)).set (by omega))
  | succ n ih =>
    intro e h1 a1 a2 i1 b39 i2
    have RD1 : DR h1 0 D := RD.fr i1 (fun k j z => by omega)
    have nb := VD.nb
    refine zS_iload_n (zdec eX10_laysSeen 5 rfl) rfl ?_
    refine zS_bipush (zdec eX10_laysSeen 6 rfl) rfl rfl ?_
    refine zS_icmp_gt (tgt := 94) (zdec eX10_laysSeen 7 rfl) rfl (fun cz => absurd cz (by omega)) (fun cz => ?_)
    refine zS_aload_n (zdec eX10_laysSeen 8 rfl) rfl rfl ?_
    refine zvMV (M' := mX10_lays) (As := []) (st := []) (zdec eX10_laysSeen 9 rfl) kM_X10_314 kV_X10_lays ⟨by decide, rfl⟩ rfl rfl rfl rfl rfl (by omega) (r_lays (by omega) VD hd0 RD1) (fun h2 ⟨R, cl2, g2⟩ => ?_)
    have V := pb0_V VD hd0
    refine zS_aload_n (zdec eX10_laysSeen 10 rfl) rfl rfl ?_
    refine zS_getref (i := 67) (zdec eX10_laysSeen 11 rfl) kF_X10_53 ⟨by decide, rfl⟩ rfl rfl rfl rfl rfl ?_
    refine zS_iload_n (zdec eX10_laysSeen 12 rfl) rfl ?_
    refine zS_iload_n (zdec eX10_laysSeen 13 rfl) rfl ?_
    refine zS_iastore (zdec eX10_laysSeen 14 rfl) ⟨by decide, rfl⟩ (by omega) (by omega) ?_
    have R4 : WR (zset h2 121 y e) (ofX D y e) := R.off' (f := fun c => if c = y then e else D (3 + c) 2) (fun k j w => congrFun (zset_k w) j) (fun c c0 c1 => by
        show zset h2 121 y e 121 c = if c = y then e else D (3 + c) 2
        by_cases w : c = y
        · subst w; rw [if_pos rfl]; exact zset_s _ _ _ _
        · rw [if_neg w, zset_j w]; exact R.off c0 c1)
    have V4 : PV (ofX D y e) := ofV VD hd0 y a1 (by omega)
    have ff : Fr sQR h (zset h2 121 y e) := (i1.tr g2 (fun k j z => z) (fun k j z => by omega)).set (by omega)
    refine zS_aload_n (zdec eX10_laysSeen 15 rfl) rfl rfl ?_
    refine zvMV (M' := mX10_runs) (As := []) (st := []) (zdec eX10_laysSeen 16 rfl) kM_X10_317 kV_X10_runs ⟨by decide, rfl⟩ rfl rfl rfl rfl rfl (by omega) (r_runs (by omega) V4 R4) (fun h3 ⟨S3, O3, g3⟩ => ?_)
    have f3 : Fr sQR h h3 := ff.tr g3 (fun k j z => z) (fun k j z => by omega)
    have R3 : WR h3 (ofX D y e) := R4.fr g3 (fun k j z => by unfold wrP; omega)
    have RW3 : RR h3 W := RW.fr f3 (fun k j z => by omega)
    have q39 : h3 108 39 = bitsI (ftP D W x y) e := by rw [g3 _ _ (by omega), zset_n (by omega), g2 _ _ (by omega)]; exact b39
    have q126 : ∀ j, h3 126 j = h1 126 j := fun j => by rw [g3 _ _ (by omega), zset_n (by omega), g2 _ _ (by omega)]
    refine zS_aload_n (zdec eX10_laysSeen 17 rfl) rfl rfl ?_
    refine zS_dup (zdec eX10_laysSeen 18 rfl) (fun q => by cases q) ?_
    refine zS_getfieldE (x := 39) (v := (bitsI (ftP D W x y) e)) (zdec eX10_laysSeen 19 rfl) kF_X10_409 ⟨by decide, rfl⟩ rfl rfl rfl q39 ?_
    refine zS_aload_n (zdec eX10_laysSeen 20 rfl) rfl rfl ?_
    refine zS_iload_n (zdec eX10_laysSeen 21 rfl) rfl ?_
    refine zvI (M' := mX10_isSo) (As := [zI x]) (st := [zI (bitsI (ftP D W x y) e), zA 108]) (zdec eX10_laysSeen 22 rfl) kM_X10_412 kV_X10_isSo ⟨by decide, rfl⟩ rfl rfl rfl rfl rfl (by omega) (show zPI (d - 1) mX10_isSo [zA 108, zI x] h3 (b2i (ftP D W x y e)) from r_isSo (by omega) VD VW rfl V4 R3 S3 (fun b => (planP_rng V4 b).2) RW3 x0 x1 ok) ?_
    refine zS_if_eq (tgt := 47) (zdec eX10_laysSeen 23 rfl) rfl (fun c1 => ?_) (fun c1 => ?_)
    · have z1 := b2i_0.mp c1
      refine zS_iconst (zdec eX10_laysSeen 28 rfl) rfl ?_
      refine zS_ior (zdec eX10_laysSeen 29 rfl) ?_
      refine zS_putfield (x := 39) (zdec eX10_laysSeen 30 rfl) kF_X10_409 (Or.inl kf10_39) ⟨by decide, rfl⟩ rfl rfl rfl (Or.inl (fun q => by cases q)) ?_
      refine zS_iconst (zdec eX10_laysSeen 31 rfl) rfl ?_
      refine zS_istore (zdec eX10_laysSeen 32 rfl) rfl ?_
      refine L_rsee1 (e := e) hd VD hd0 RD RW VW x0 x1 y0 y1 ok a1 (by omega) (fun h6 f6 c39 c126 => ?_) (D 0 8).toNat 0 _ (by omega) (by omega) (f3.set (by omega)) (R3.set (by unfold wrP; omega)) (S3.fr (S := fun k _ => k = 108) (Fr.rf.set rfl) (fun k j z => by omega)) (by rw [zset_s, bits_or0 a1 (by omega), bitsI_s _ a1, z1, if_neg (by decide)]) (fun n c n0 n1 c0 c1 => by rw [zset_n (by omega), q126]; exact i2 n c n0 n1 c0 c1) (fun c c0 c1 => by omega)
      refine zS_iinc (zdec eX10_laysSeen 51 rfl) rfl rfl ⟨by omega, by omega⟩ ?_
      refine zS_goto (tgt := 7) (zdec eX10_laysSeen 52 rfl) rfl ?_
      refine zS_forget (i := 4) ?_
      exact ih (e + 1) h6 (by omega) (by omega) f6 c39 c126
    · have z1 := b2i_n.mp c1
      refine zS_iconst (zdec eX10_laysSeen 24 rfl) rfl ?_
      refine zS_iload_n (zdec eX10_laysSeen 25 rfl) rfl ?_
      refine zS_ishl (zdec eX10_laysSeen 26 rfl) ?_
      refine zS_goto (tgt := 48) (zdec eX10_laysSeen 27 rfl) rfl ?_
      refine zS_ior (zdec eX10_laysSeen 29 rfl) ?_
      refine zS_putfield (x := 39) (zdec eX10_laysSeen 30 rfl) kF_X10_409 (Or.inl kf10_39) ⟨by decide, rfl⟩ rfl rfl rfl (Or.inl (fun q => by cases q)) ?_
      refine zS_iconst (zdec eX10_laysSeen 31 rfl) rfl ?_
      refine zS_istore (zdec eX10_laysSeen 32 rfl) rfl ?_
      refine L_rsee1 (e := e) hd VD hd0 RD RW VW x0 x1 y0 y1 ok a1 (by omega) (fun h6 f6 c39 c126 => ?_) (D 0 8).toNat 0 _ (by omega) (by omega) (f3.set (by omega)) (R3.set (by unfold wrP; omega)) (S3.fr (S := fun k _ => k = 108) (Fr.rf.set rfl) (fun k j z => by omega)) (by rw [zset_s, bitsI_s _ a1, z1, if_pos rfl]) (fun n c n0 n1 c0 c1 => by rw [zset_n (by omega), q126]; exact i2 n c n0 n1 c0 c1) (fun c c0 c1 => by omega)
      refine zS_iinc (zdec eX10_laysSeen 51 rfl) rfl rfl ⟨by omega, by omega⟩ ?_
      refine zS_goto (tgt := 7) (zdec eX10_laysSeen 52 rfl) rfl ?_
      refine zS_forget (i := 4) ?_
      exact ih (e + 1) h6 (by omega) (by omega) f6 c39 c126
theorem r_laysSeen {d : Nat} {h : zH} {D : Dk} {W : Rw} {x y : Int} (hd : 20 ≤ d) (VD : DV D) (hd0 : 0 < D 0 0) (RD : DR h 0 D) (RW : RR h W) (VW : RV W) (x0 : 0 ≤ x) (x1 : x < 4) (y0 : 0 ≤ y) (y1 : y < D 0 8) (ok : okS D W x) : zMV d mX10_laysSeen [zA 108, zI x, zI y] h (fun h' => SnR h' (D 0 8) (ftP D W x y) (plP D y) ∧ h' 108 40 = (slI (fun _ => true) (woR (ftP D W x y) (plP D y)) (ctI (ftP D W x y) 21) (D 0 8)).1 ∧ h' 108 41 = (slI (fun _ => true) (woR (ftP D W x y) (plP D y)) (ctI (ftP D W x y) 21) (D 0 8)).2 ∧ Fr sQR h h') := by
  refine zmet rfl rfl rfl ?_
  refine zS_aload_n (zdec eX10_laysSeen 0 rfl) rfl rfl ?_
  refine zS_iconst (zdec eX10_laysSeen 1 rfl) rfl ?_
  refine zS_putfield (x := 39) (zdec eX10_laysSeen 2 rfl) kF_X10_409 (Or.inl kf10_39) ⟨by decide, rfl⟩ rfl rfl rfl (Or.inl (fun q => by cases q)) ?_
  refine zS_iconst (zdec eX10_laysSeen 3 rfl) rfl ?_
  refine zS_istore_n (zdec eX10_laysSeen 4 rfl) rfl ?_
  exact L_rsee hd VD hd0 RD RW VW x0 x1 y0 y1 ok 21 0 _ (by omega) (by omega) (Fr.rf.set (by omega)) (zset_s _ _ _ _) (fun n c n0 n1 => by omega)
theorem seen_eq {D : Dk} (VD : DV D) (hd0 : 0 < D 0 0) (W : Rw) {x y : Int} : slI (fun _ => true) (woR (ftP D W x y) (plP D y)) (ctI (ftP D W x y) 21) (D 0 8) = slI (fun _ => true) (woI (ftP D W x y) (dyP D y) (D 0 1)) (ctI (ftP D W x y) 21) (D 0 8) := by
  have dy := VD.days
  refine slI_congr _ VD.nb.1 (fun c c0 c1 => wo_eq dy.1 (fun n n0 n1 => ?_) (fun a n a0 a1 n0 n1 => ?_))
  · have V := ofV VD hd0 y n0 n1
    have r := planP_rng V c
    have pd : pDays (ofX D y n) = D 0 1 := rfl
    unfold dyP dayC
    split <;> omega
  · have V1 := ofV VD hd0 y a0 a1
    have V2 := ofV VD hd0 y n0 n1
    have r1 := planP_rng V1 c
    have r2 := planP_rng V2 c
    have p1 : pDays (ofX D y a) = D 0 1 := rfl
    have p2 : pDays (ofX D y n) = D 0 1 := rfl
    unfold dyP dayC plP
    split <;> split <;> omega
theorem q_fits {d : Nat} {h : zH} {D : Dk} {W : Rw} {x y : Int} (hd : 200 ≤ d) (VD : DV D) (RD : DR h 0 D) (RW : RR h W) (VW : RV W) : zMI d mX10_fits [zA 108, zI x, zI y] h (fun r h' => r = a_fits D W x y ∧ Fr sQR h h') := by
  obtain ⟨p, hp⟩ : ∃ p, pb0 D = p := ⟨_, rfl⟩
  obtain ⟨q, hq⟩ : ∃ q, planP p = q := ⟨_, rfl⟩
  have pd : pDays p = D 0 1 := by rw [← hp]; rfl
  have pn : pNb p = D 0 8 := by rw [← hp]; rfl
  have dy := VD.days
  have nb := VD.nb
  have ns := VD.ns
  have nl := VD.nl
  have na := VD.na
  have vfl := VD.fl
  have vfe := VD.fee
  have hin : ∀ b, 0 ≤ b → b < pNb p → pIn p b = true := fun b _ _ => by rw [← hp]; rfl
  refine zmet rfl rfl rfl ?_
  refine zS_aload_n (zdec eX10_fits 0 rfl) rfl rfl ?_
  refine zS_iconst (zdec eX10_fits 1 rfl) rfl ?_
  refine zS_putfield (x := 0) (zdec eX10_fits 2 rfl) kF_X10_71 (Or.inl kf10_0) ⟨by decide, rfl⟩ rfl rfl rfl (Or.inl (fun q => by cases q)) ?_
  obtain ⟨h0, E0⟩ : ∃ x, x = zset h 108 0 0 := ⟨_, rfl⟩
  rw [show zset h 108 0 (0 : Int) = h0 from E0.symm]
  have f0 : Fr sQR h h0 := by rw [E0]; exact Fr.rf.set (by omega)
  have RD0 : DR h0 0 D := RD.fr f0 (fun k j z => by omega)
  refine zS_aload_n (zdec eX10_fits 3 rfl) rfl rfl ?_
  refine zS_iload_n (zdec eX10_fits 4 rfl) rfl ?_
  refine zS_aload_n (zdec eX10_fits 5 rfl) rfl rfl ?_
  refine zS_iload_n (zdec eX10_fits 6 rfl) rfl ?_
  refine zS_i2l (zdec eX10_fits 7 rfl) ?_
  refine zvI (M' := mX10_isBill) (As := [zJ y]) (st := [zI x, zA 108]) (zdec eX10_fits 8 rfl) kM_X10_324 kV_X10_isBill ⟨by decide, rfl⟩ rfl rfl rfl rfl rfl (by omega) (d_isBill (by omega) VD RD0) ?_
  have RW0 : RR h0 W := RW.fr f0 (fun k j z => by omega)
  refine zvI (M' := mX10_whyNot) (As := [zI x, zI (d2i (0 ≤ y ∧ y < D 0 8))]) (st := []) (zdec eX10_fits 9 rfl) kM_X10_424 kV_X10_whyNot ⟨by decide, rfl⟩ rfl rfl rfl rfl rfl (by omega) (show zPI (d - 1) mX10_whyNot [zA 108, zI x, zI (d2i (0 ≤ y ∧ y < D 0 8))] h0 (rfS D W x y) from by rw [← wy_rfS VD W x y]; exact r_whyNot (by omega) VD RD0 RW0 VW (by unfold d2i; split; exact Or.inr rfl; exact Or.inl rfl)) ?_
  refine zS_istore_n (zdec eX10_fits 10 rfl) rfl ?_
  refine zS_iload_n (zdec eX10_fits 11 rfl) rfl ?_
  refine zS_if_eq (tgt := 23) (zdec eX10_fits 12 rfl) rfl (fun c1 => ?_) (fun c1 => ?_)
  · refine zS_aload_n (zdec eX10_fits 15 rfl) rfl rfl ?_
    refine zS_iload_n (zdec eX10_fits 16 rfl) rfl ?_
    refine zS_iload_n (zdec eX10_fits 17 rfl) rfl ?_
    have r0 := rfS_0 VW c1
    have hd0 := VD.bill r0.1.2.1 r0.1.2.2
    refine zvMV (M' := mX10_laysSeen) (As := [zI x, zI y]) (st := []) (zdec eX10_fits 18 rfl) kM_X10_428 kV_X10_laysSeen ⟨by decide, rfl⟩ rfl rfl rfl rfl rfl (by omega) (r_laysSeen (by omega) VD hd0 RD0 RW0 VW r0.1.1.1 r0.1.1.2 r0.1.2.1 r0.1.2.2 r0.2) (fun h3 ⟨SN, b40, b41, g3⟩ => ?_)
    have f3 : Fr sQR h h3 := f0.tr g3 (fun k j z => z) (fun k j z => z)
    rw [seen_eq VD hd0 W] at b40 b41
    refine zS_aload_n (zdec eX10_fits 19 rfl) rfl rfl ?_
    refine zS_getfieldE (x := 39) (v := (bitsI (ftP D W x y) 21)) (zdec eX10_fits 20 rfl) kF_X10_409 ⟨by decide, rfl⟩ rfl rfl rfl SN.1 ?_
    refine zsI (M' := mX10_sizeOf) (As := [zI (bitsI (ftP D W x y) 21)]) (st := []) (zdec eX10_fits 21 rfl) kM_X10_364 kS_X10_sizeOf rfl rfl rfl (by omega) (show zPI (d - 1) mX10_sizeOf [zI (bitsI (ftP D W x y) 21)] h3 (ctI (ftP D W x y) 21) from by rw [← ct_bits (f := (ftP D W x y)) (k := 21) (by decide) (by decide)]; exact r_sizeOf (bits21 (ftP D W x y) (by decide) (by decide)).1 (by have := (bits21 (ftP D W x y) (k := 21) (by decide) (by decide)).2; omega)) ?_
    exact zlMI (zdec eX10_fits 22 rfl) rfl ⟨by unfold a_fits; rw [if_pos c1], f3⟩
  · refine zS_iload_n (zdec eX10_fits 13 rfl) rfl ?_
    exact zlMI (zdec eX10_fits 14 rfl) rfl ⟨by unfold a_fits; rw [if_neg c1], f0⟩
theorem q_ask {d : Nat} {h : zH} {D : Dk} {W : Rw} {x y : Int} (hd : 200 ≤ d) (VD : DV D) (RD : DR h 0 D) (RW : RR h W) (VW : RV W) : zMI d mX10_ask [zA 108, zI x, zI y] h (fun r h' => r = a_ask D W x y ∧ Fr sQR h h') := by
  obtain ⟨p, hp⟩ : ∃ p, pb0 D = p := ⟨_, rfl⟩
  obtain ⟨q, hq⟩ : ∃ q, planP p = q := ⟨_, rfl⟩
  have pd : pDays p = D 0 1 := by rw [← hp]; rfl
  have pn : pNb p = D 0 8 := by rw [← hp]; rfl
  have dy := VD.days
  have nb := VD.nb
  have ns := VD.ns
  have nl := VD.nl
  have na := VD.na
  have vfl := VD.fl
  have vfe := VD.fee
  have hin : ∀ b, 0 ≤ b → b < pNb p → pIn p b = true := fun b _ _ => by rw [← hp]; rfl
  refine zmet rfl rfl rfl ?_
  refine zS_aload_n (zdec eX10_ask 0 rfl) rfl rfl ?_
  refine zS_iconst (zdec eX10_ask 1 rfl) rfl ?_
  refine zS_putfield (x := 0) (zdec eX10_ask 2 rfl) kF_X10_71 (Or.inl kf10_0) ⟨by decide, rfl⟩ rfl rfl rfl (Or.inl (fun q => by cases q)) ?_
  obtain ⟨h0, E0⟩ : ∃ x, x = zset h 108 0 0 := ⟨_, rfl⟩
  rw [show zset h 108 0 (0 : Int) = h0 from E0.symm]
  have f0 : Fr sQR h h0 := by rw [E0]; exact Fr.rf.set (by omega)
  have RD0 : DR h0 0 D := RD.fr f0 (fun k j z => by omega)
  refine zS_aload_n (zdec eX10_ask 3 rfl) rfl rfl ?_
  refine zS_iload_n (zdec eX10_ask 4 rfl) rfl ?_
  refine zS_aload_n (zdec eX10_ask 5 rfl) rfl rfl ?_
  refine zS_iload_n (zdec eX10_ask 6 rfl) rfl ?_
  refine zS_i2l (zdec eX10_ask 7 rfl) ?_
  refine zvI (M' := mX10_isBill) (As := [zJ y]) (st := [zI x, zA 108]) (zdec eX10_ask 8 rfl) kM_X10_324 kV_X10_isBill ⟨by decide, rfl⟩ rfl rfl rfl rfl rfl (by omega) (d_isBill (by omega) VD RD0) ?_
  have RW0 : RR h0 W := RW.fr f0 (fun k j z => by omega)
  refine zvI (M' := mX10_whyNot) (As := [zI x, zI (d2i (0 ≤ y ∧ y < D 0 8))]) (st := []) (zdec eX10_ask 9 rfl) kM_X10_424 kV_X10_whyNot ⟨by decide, rfl⟩ rfl rfl rfl rfl rfl (by omega) (show zPI (d - 1) mX10_whyNot [zA 108, zI x, zI (d2i (0 ≤ y ∧ y < D 0 8))] h0 (rfS D W x y) from by rw [← wy_rfS VD W x y]; exact r_whyNot (by omega) VD RD0 RW0 VW (by unfold d2i; split; exact Or.inr rfl; exact Or.inl rfl)) ?_
  refine zS_istore_n (zdec eX10_ask 10 rfl) rfl ?_
  refine zS_iload_n (zdec eX10_ask 11 rfl) rfl ?_
  refine zS_if_eq (tgt := 23) (zdec eX10_ask 12 rfl) rfl (fun c1 => ?_) (fun c1 => ?_)
  · refine zS_aload_n (zdec eX10_ask 15 rfl) rfl rfl ?_
    refine zS_iload_n (zdec eX10_ask 16 rfl) rfl ?_
    refine zS_iload_n (zdec eX10_ask 17 rfl) rfl ?_
    have r0 := rfS_0 VW c1
    have hd0 := VD.bill r0.1.2.1 r0.1.2.2
    refine zvMV (M' := mX10_laysSeen) (As := [zI x, zI y]) (st := []) (zdec eX10_ask 18 rfl) kM_X10_428 kV_X10_laysSeen ⟨by decide, rfl⟩ rfl rfl rfl rfl rfl (by omega) (r_laysSeen (by omega) VD hd0 RD0 RW0 VW r0.1.1.1 r0.1.1.2 r0.1.2.1 r0.1.2.2 r0.2) (fun h3 ⟨SN, b40, b41, g3⟩ => ?_)
    have f3 : Fr sQR h h3 := f0.tr g3 (fun k j z => z) (fun k j z => z)
    rw [seen_eq VD hd0 W] at b40 b41
    refine zS_aload_n (zdec eX10_ask 19 rfl) rfl rfl ?_
    refine zS_getfieldE (x := 40) (v := ((slI (fun _ => true) (woI (ftP D W x y) (dyP D y) (D 0 1)) (ctI (ftP D W x y) 21) (D 0 8)).1)) (zdec eX10_ask 20 rfl) kF_X10_415 ⟨by decide, rfl⟩ rfl rfl rfl b40 ?_
    exact zlMI (zdec eX10_ask 21 rfl) rfl ⟨by unfold a_ask; rw [if_pos c1], f3⟩
  · refine zS_iload_n (zdec eX10_ask 13 rfl) rfl ?_
    exact zlMI (zdec eX10_ask 14 rfl) rfl ⟨by unfold a_ask; rw [if_neg c1], f0⟩
theorem q_leaves {d : Nat} {h : zH} {D : Dk} {W : Rw} {x y : Int} (hd : 200 ≤ d) (VD : DV D) (RD : DR h 0 D) (RW : RR h W) (VW : RV W) : zMI d mX10_leaves [zA 108, zI x, zI y] h (fun r h' => r = a_leaves D W x y ∧ Fr sQR h h') := by
  obtain ⟨p, hp⟩ : ∃ p, pb0 D = p := ⟨_, rfl⟩
  obtain ⟨q, hq⟩ : ∃ q, planP p = q := ⟨_, rfl⟩
  have pd : pDays p = D 0 1 := by rw [← hp]; rfl
  have pn : pNb p = D 0 8 := by rw [← hp]; rfl
  have dy := VD.days
  have nb := VD.nb
  have ns := VD.ns
  have nl := VD.nl
  have na := VD.na
  have vfl := VD.fl
  have vfe := VD.fee
  have hin : ∀ b, 0 ≤ b → b < pNb p → pIn p b = true := fun b _ _ => by rw [← hp]; rfl
  refine zmet rfl rfl rfl ?_
  refine zS_aload_n (zdec eX10_leaves 0 rfl) rfl rfl ?_
  refine zS_iconst (zdec eX10_leaves 1 rfl) rfl ?_
  refine zS_putfield (x := 0) (zdec eX10_leaves 2 rfl) kF_X10_71 (Or.inl kf10_0) ⟨by decide, rfl⟩ rfl rfl rfl (Or.inl (fun q => by cases q)) ?_
  obtain ⟨h0, E0⟩ : ∃ x, x = zset h 108 0 0 := ⟨_, rfl⟩
  rw [show zset h 108 0 (0 : Int) = h0 from E0.symm]
  have f0 : Fr sQR h h0 := by rw [E0]; exact Fr.rf.set (by omega)
  have RD0 : DR h0 0 D := RD.fr f0 (fun k j z => by omega)
  refine zS_aload_n (zdec eX10_leaves 3 rfl) rfl rfl ?_
  refine zS_iload_n (zdec eX10_leaves 4 rfl) rfl ?_
  refine zS_aload_n (zdec eX10_leaves 5 rfl) rfl rfl ?_
  refine zS_iload_n (zdec eX10_leaves 6 rfl) rfl ?_
  refine zS_i2l (zdec eX10_leaves 7 rfl) ?_
  refine zvI (M' := mX10_isBill) (As := [zJ y]) (st := [zI x, zA 108]) (zdec eX10_leaves 8 rfl) kM_X10_324 kV_X10_isBill ⟨by decide, rfl⟩ rfl rfl rfl rfl rfl (by omega) (d_isBill (by omega) VD RD0) ?_
  have RW0 : RR h0 W := RW.fr f0 (fun k j z => by omega)
  refine zvI (M' := mX10_whyNot) (As := [zI x, zI (d2i (0 ≤ y ∧ y < D 0 8))]) (st := []) (zdec eX10_leaves 9 rfl) kM_X10_424 kV_X10_whyNot ⟨by decide, rfl⟩ rfl rfl rfl rfl rfl (by omega) (show zPI (d - 1) mX10_whyNot [zA 108, zI x, zI (d2i (0 ≤ y ∧ y < D 0 8))] h0 (rfS D W x y) from by rw [← wy_rfS VD W x y]; exact r_whyNot (by omega) VD RD0 RW0 VW (by unfold d2i; split; exact Or.inr rfl; exact Or.inl rfl)) ?_
  refine zS_istore_n (zdec eX10_leaves 10 rfl) rfl ?_
  refine zS_iload_n (zdec eX10_leaves 11 rfl) rfl ?_
  refine zS_if_eq (tgt := 23) (zdec eX10_leaves 12 rfl) rfl (fun c1 => ?_) (fun c1 => ?_)
  · refine zS_aload_n (zdec eX10_leaves 15 rfl) rfl rfl ?_
    refine zS_iload_n (zdec eX10_leaves 16 rfl) rfl ?_
    refine zS_iload_n (zdec eX10_leaves 17 rfl) rfl ?_
    have r0 := rfS_0 VW c1
    have hd0 := VD.bill r0.1.2.1 r0.1.2.2
    refine zvMV (M' := mX10_laysSeen) (As := [zI x, zI y]) (st := []) (zdec eX10_leaves 18 rfl) kM_X10_428 kV_X10_laysSeen ⟨by decide, rfl⟩ rfl rfl rfl rfl rfl (by omega) (r_laysSeen (by omega) VD hd0 RD0 RW0 VW r0.1.1.1 r0.1.1.2 r0.1.2.1 r0.1.2.2 r0.2) (fun h3 ⟨SN, b40, b41, g3⟩ => ?_)
    have f3 : Fr sQR h h3 := f0.tr g3 (fun k j z => z) (fun k j z => z)
    rw [seen_eq VD hd0 W] at b40 b41
    refine zS_aload_n (zdec eX10_leaves 19 rfl) rfl rfl ?_
    refine zS_getfieldE (x := 41) (v := ((slI (fun _ => true) (woI (ftP D W x y) (dyP D y) (D 0 1)) (ctI (ftP D W x y) 21) (D 0 8)).2)) (zdec eX10_leaves 20 rfl) kF_X10_418 ⟨by decide, rfl⟩ rfl rfl rfl b41 ?_
    exact zlMI (zdec eX10_leaves 21 rfl) rfl ⟨by unfold a_leaves; rw [if_pos c1], f3⟩
  · refine zS_iload_n (zdec eX10_leaves 13 rfl) rfl ?_
    exact zlMI (zdec eX10_leaves 14 rfl) rfl ⟨by unfold a_leaves; rw [if_neg c1], f0⟩
theorem K_low {d : Nat} {h h3 : zH} {D : Dk} {W : Rw} {x y v : Int} (hd : 50 ≤ d) (SN : h3 108 39 = bitsI (ftP D W x y) 21) (f3 : Fr sQR h h3) : ∀ (n : Nat) (e : Int), 0 ≤ e → e + n = 21 → fsI (ftP D W x y) e = -1 → zS mX10_low (zr d) 32 [zA 108, zI x, zI y, zI v, zI e] [] TT h3 (zAnI (fun r h' => r = fsI (ftP D W x y) 21 ∧ Fr sQR h h')) := by
  intro n
  induction n with
  | zero =>
    intro e a1 a2 a3
    refine zS_iload (zdec eX10_low 21 rfl) rfl ?_
    refine zS_bipush (zdec eX10_low 22 rfl) rfl rfl ?_
    refine zS_icmp_gt (tgt := 60) (zdec eX10_low 23 rfl) rfl (fun cz => ?_) (fun cz => absurd (by omega) cz)
    refine zS_iconst (zdec eX10_low 33 rfl) rfl ?_
    exact zlMI (zdec eX10_low 34 rfl) rfl ⟨by rw [← a3, show e = 21 by omega], f3⟩
  | succ n ih =>
    intro e a1 a2 a3
    have be : bitB (bitsI (ftP D W x y) 21) e = (ftP D W x y) e := by rw [bitsI_bit (by decide) (by decide) (by omega) (by omega), decide_eq_true (by omega), Bool.true_and]
    refine zS_iload (zdec eX10_low 21 rfl) rfl ?_
    refine zS_bipush (zdec eX10_low 22 rfl) rfl rfl ?_
    refine zS_icmp_gt (tgt := 60) (zdec eX10_low 23 rfl) rfl (fun cz => absurd cz (by omega)) (fun cz => ?_)
    refine zS_aload_n (zdec eX10_low 24 rfl) rfl rfl ?_
    refine zS_getfieldE (x := 39) (v := (bitsI (ftP D W x y) 21)) (zdec eX10_low 25 rfl) kF_X10_409 ⟨by decide, rfl⟩ rfl rfl rfl SN ?_
    refine zS_iload (zdec eX10_low 26 rfl) rfl ?_
    refine zsI (M' := mX10_isBit) (As := [zI (bitsI (ftP D W x y) 21), zI e]) (st := []) (zdec eX10_low 27 rfl) kM_X10_264 kS_X10_isBit rfl rfl rfl (by omega) r_isBit ?_
    refine zS_if_eq (tgt := 54) (zdec eX10_low 28 rfl) rfl (fun c1 => ?_) (fun c1 => ?_)
    · have z1 := b2i_0.mp c1
      refine zS_iinc (zdec eX10_low 31 rfl) rfl rfl ⟨by omega, by omega⟩ ?_
      refine zS_goto (tgt := 32) (zdec eX10_low 32 rfl) rfl ?_
      exact ih (e + 1) (by omega) (by omega) (fsI_next a1 a3 (by rw [← be]; exact z1))
    · have z1 := b2i_n.mp c1
      refine zS_iload (zdec eX10_low 29 rfl) rfl ?_
      exact zlMI (zdec eX10_low 30 rfl) rfl ⟨(fsI_hit a1 (by omega) a3 (by rw [← be]; exact z1)).symm, f3⟩
theorem q_low {d : Nat} {h : zH} {D : Dk} {W : Rw} {x y : Int} (hd : 200 ≤ d) (VD : DV D) (RD : DR h 0 D) (RW : RR h W) (VW : RV W) : zMI d mX10_low [zA 108, zI x, zI y] h (fun r h' => r = a_low D W x y ∧ Fr sQR h h') := by
  obtain ⟨p, hp⟩ : ∃ p, pb0 D = p := ⟨_, rfl⟩
  obtain ⟨q, hq⟩ : ∃ q, planP p = q := ⟨_, rfl⟩
  have pd : pDays p = D 0 1 := by rw [← hp]; rfl
  have pn : pNb p = D 0 8 := by rw [← hp]; rfl
  have dy := VD.days
  have nb := VD.nb
  have ns := VD.ns
  have nl := VD.nl
  have na := VD.na
  have vfl := VD.fl
  have vfe := VD.fee
  have hin : ∀ b, 0 ≤ b → b < pNb p → pIn p b = true := fun b _ _ => by rw [← hp]; rfl
  refine zmet rfl rfl rfl ?_
  refine zS_aload_n (zdec eX10_low 0 rfl) rfl rfl ?_
  refine zS_iconst (zdec eX10_low 1 rfl) rfl ?_
  refine zS_putfield (x := 0) (zdec eX10_low 2 rfl) kF_X10_71 (Or.inl kf10_0) ⟨by decide, rfl⟩ rfl rfl rfl (Or.inl (fun q => by cases q)) ?_
  obtain ⟨h0, E0⟩ : ∃ x, x = zset h 108 0 0 := ⟨_, rfl⟩
  rw [show zset h 108 0 (0 : Int) = h0 from E0.symm]
  have f0 : Fr sQR h h0 := by rw [E0]; exact Fr.rf.set (by omega)
  have RD0 : DR h0 0 D := RD.fr f0 (fun k j z => by omega)
  refine zS_aload_n (zdec eX10_low 3 rfl) rfl rfl ?_
  refine zS_iload_n (zdec eX10_low 4 rfl) rfl ?_
  refine zS_aload_n (zdec eX10_low 5 rfl) rfl rfl ?_
  refine zS_iload_n (zdec eX10_low 6 rfl) rfl ?_
  refine zS_i2l (zdec eX10_low 7 rfl) ?_
  refine zvI (M' := mX10_isBill) (As := [zJ y]) (st := [zI x, zA 108]) (zdec eX10_low 8 rfl) kM_X10_324 kV_X10_isBill ⟨by decide, rfl⟩ rfl rfl rfl rfl rfl (by omega) (d_isBill (by omega) VD RD0) ?_
  have RW0 : RR h0 W := RW.fr f0 (fun k j z => by omega)
  refine zvI (M' := mX10_whyNot) (As := [zI x, zI (d2i (0 ≤ y ∧ y < D 0 8))]) (st := []) (zdec eX10_low 9 rfl) kM_X10_424 kV_X10_whyNot ⟨by decide, rfl⟩ rfl rfl rfl rfl rfl (by omega) (show zPI (d - 1) mX10_whyNot [zA 108, zI x, zI (d2i (0 ≤ y ∧ y < D 0 8))] h0 (rfS D W x y) from by rw [← wy_rfS VD W x y]; exact r_whyNot (by omega) VD RD0 RW0 VW (by unfold d2i; split; exact Or.inr rfl; exact Or.inl rfl)) ?_
  refine zS_istore_n (zdec eX10_low 10 rfl) rfl ?_
  refine zS_iload_n (zdec eX10_low 11 rfl) rfl ?_
  refine zS_if_eq (tgt := 23) (zdec eX10_low 12 rfl) rfl (fun c1 => ?_) (fun c1 => ?_)
  · refine zS_aload_n (zdec eX10_low 15 rfl) rfl rfl ?_
    refine zS_iload_n (zdec eX10_low 16 rfl) rfl ?_
    refine zS_iload_n (zdec eX10_low 17 rfl) rfl ?_
    have r0 := rfS_0 VW c1
    have hd0 := VD.bill r0.1.2.1 r0.1.2.2
    refine zvMV (M' := mX10_laysSeen) (As := [zI x, zI y]) (st := []) (zdec eX10_low 18 rfl) kM_X10_428 kV_X10_laysSeen ⟨by decide, rfl⟩ rfl rfl rfl rfl rfl (by omega) (r_laysSeen (by omega) VD hd0 RD0 RW0 VW r0.1.1.1 r0.1.1.2 r0.1.2.1 r0.1.2.2 r0.2) (fun h3 ⟨SN, b40, b41, g3⟩ => ?_)
    have f3 : Fr sQR h h3 := f0.tr g3 (fun k j z => z) (fun k j z => z)
    rw [seen_eq VD hd0 W] at b40 b41
    refine zS_iconst (zdec eX10_low 19 rfl) rfl ?_
    refine zS_istore (zdec eX10_low 20 rfl) rfl ?_
    unfold a_low
    rw [if_pos c1]
    exact K_low (by omega) SN.1 f3 21 0 (by omega) (by omega) rfl
  · refine zS_iload_n (zdec eX10_low 13 rfl) rfl ?_
    exact zlMI (zdec eX10_low 14 rfl) rfl ⟨by unfold a_low; rw [if_neg c1], f0⟩
theorem K_high {d : Nat} {h h3 : zH} {D : Dk} {W : Rw} {x y v : Int} (hd : 50 ≤ d) (SN : h3 108 39 = bitsI (ftP D W x y) 21) (f3 : Fr sQR h h3) : ∀ (n : Nat) (e : Int), 0 ≤ e → e + n = 21 → fsI (fun j => ftP D W x y (20 - j)) e = -1 → zS mX10_high (zr d) 33 [zA 108, zI x, zI y, zI v, zI (20 - e)] [] TT h3 (zAnI (fun r h' => r = laI (ftP D W x y) ∧ Fr sQR h h')) := by
  intro n
  induction n with
  | zero =>
    intro e a1 a2 a3
    refine zS_iload (zdec eX10_high 21 rfl) rfl ?_
    refine zS_if_lt (tgt := 59) (zdec eX10_high 22 rfl) rfl (fun cz => ?_) (fun cz => absurd (by omega) cz)
    refine zS_iconst (zdec eX10_high 32 rfl) rfl ?_
    exact zlMI (zdec eX10_high 33 rfl) rfl ⟨by unfold laI; rw [if_pos (by rw [← a3, show e = 21 by omega])], f3⟩
  | succ n ih =>
    intro e a1 a2 a3
    have be : bitB (bitsI (ftP D W x y) 21) (20 - e) = (ftP D W x y) (20 - e) := by rw [bitsI_bit (by decide) (by decide) (by omega) (by omega), decide_eq_true (by omega), Bool.true_and]
    refine zS_iload (zdec eX10_high 21 rfl) rfl ?_
    refine zS_if_lt (tgt := 59) (zdec eX10_high 22 rfl) rfl (fun cz => absurd cz (by omega)) (fun cz => ?_)
    refine zS_aload_n (zdec eX10_high 23 rfl) rfl rfl ?_
    refine zS_getfieldE (x := 39) (v := (bitsI (ftP D W x y) 21)) (zdec eX10_high 24 rfl) kF_X10_409 ⟨by decide, rfl⟩ rfl rfl rfl SN ?_
    refine zS_iload (zdec eX10_high 25 rfl) rfl ?_
    refine zsI (M' := mX10_isBit) (As := [zI (bitsI (ftP D W x y) 21), zI (20 - e)]) (st := []) (zdec eX10_high 26 rfl) kM_X10_264 kS_X10_isBit rfl rfl rfl (by omega) r_isBit ?_
    refine zS_if_eq (tgt := 53) (zdec eX10_high 27 rfl) rfl (fun c1 => ?_) (fun c1 => ?_)
    · have z1 := b2i_0.mp c1
      refine zS_iinc (zdec eX10_high 30 rfl) rfl rfl ⟨by omega, by omega⟩ ?_
      refine zS_goto (tgt := 33) (zdec eX10_high 31 rfl) rfl ?_
      rw [show 20 - e + -1 = 20 - (e + 1) by omega]
      exact ih (e + 1) (by omega) (by omega) (fsI_next a1 a3 (be.symm.trans z1))
    · have z1 := b2i_n.mp c1
      refine zS_iload (zdec eX10_high 28 rfl) rfl ?_
      have t := fsI_hit (f := (fun j => ftP D W x y (20 - j))) a1 (show e < 21 by omega) a3 (be.symm.trans z1)
      exact zlMI (zdec eX10_high 29 rfl) rfl ⟨by unfold laI; rw [t, if_neg (by omega)], f3⟩
theorem q_high {d : Nat} {h : zH} {D : Dk} {W : Rw} {x y : Int} (hd : 200 ≤ d) (VD : DV D) (RD : DR h 0 D) (RW : RR h W) (VW : RV W) : zMI d mX10_high [zA 108, zI x, zI y] h (fun r h' => r = a_high D W x y ∧ Fr sQR h h') := by
  obtain ⟨p, hp⟩ : ∃ p, pb0 D = p := ⟨_, rfl⟩
  obtain ⟨q, hq⟩ : ∃ q, planP p = q := ⟨_, rfl⟩
  have pd : pDays p = D 0 1 := by rw [← hp]; rfl
  have pn : pNb p = D 0 8 := by rw [← hp]; rfl
  have dy := VD.days
  have nb := VD.nb
  have ns := VD.ns
  have nl := VD.nl
  have na := VD.na
  have vfl := VD.fl
  have vfe := VD.fee
  have hin : ∀ b, 0 ≤ b → b < pNb p → pIn p b = true := fun b _ _ => by rw [← hp]; rfl
  refine zmet rfl rfl rfl ?_
  refine zS_aload_n (zdec eX10_high 0 rfl) rfl rfl ?_
  refine zS_iconst (zdec eX10_high 1 rfl) rfl ?_
  refine zS_putfield (x := 0) (zdec eX10_high 2 rfl) kF_X10_71 (Or.inl kf10_0) ⟨by decide, rfl⟩ rfl rfl rfl (Or.inl (fun q => by cases q)) ?_
  obtain ⟨h0, E0⟩ : ∃ x, x = zset h 108 0 0 := ⟨_, rfl⟩
  rw [show zset h 108 0 (0 : Int) = h0 from E0.symm]
  have f0 : Fr sQR h h0 := by rw [E0]; exact Fr.rf.set (by omega)
  have RD0 : DR h0 0 D := RD.fr f0 (fun k j z => by omega)
  refine zS_aload_n (zdec eX10_high 3 rfl) rfl rfl ?_
  refine zS_iload_n (zdec eX10_high 4 rfl) rfl ?_
  refine zS_aload_n (zdec eX10_high 5 rfl) rfl rfl ?_
  refine zS_iload_n (zdec eX10_high 6 rfl) rfl ?_
  refine zS_i2l (zdec eX10_high 7 rfl) ?_
  refine zvI (M' := mX10_isBill) (As := [zJ y]) (st := [zI x, zA 108]) (zdec eX10_high 8 rfl) kM_X10_324 kV_X10_isBill ⟨by decide, rfl⟩ rfl rfl rfl rfl rfl (by omega) (d_isBill (by omega) VD RD0) ?_
  have RW0 : RR h0 W := RW.fr f0 (fun k j z => by omega)
  refine zvI (M' := mX10_whyNot) (As := [zI x, zI (d2i (0 ≤ y ∧ y < D 0 8))]) (st := []) (zdec eX10_high 9 rfl) kM_X10_424 kV_X10_whyNot ⟨by decide, rfl⟩ rfl rfl rfl rfl rfl (by omega) (show zPI (d - 1) mX10_whyNot [zA 108, zI x, zI (d2i (0 ≤ y ∧ y < D 0 8))] h0 (rfS D W x y) from by rw [← wy_rfS VD W x y]; exact r_whyNot (by omega) VD RD0 RW0 VW (by unfold d2i; split; exact Or.inr rfl; exact Or.inl rfl)) ?_
  refine zS_istore_n (zdec eX10_high 10 rfl) rfl ?_
  refine zS_iload_n (zdec eX10_high 11 rfl) rfl ?_
  refine zS_if_eq (tgt := 23) (zdec eX10_high 12 rfl) rfl (fun c1 => ?_) (fun c1 => ?_)
  · refine zS_aload_n (zdec eX10_high 15 rfl) rfl rfl ?_
    refine zS_iload_n (zdec eX10_high 16 rfl) rfl ?_
    refine zS_iload_n (zdec eX10_high 17 rfl) rfl ?_
    have r0 := rfS_0 VW c1
    have hd0 := VD.bill r0.1.2.1 r0.1.2.2
    refine zvMV (M' := mX10_laysSeen) (As := [zI x, zI y]) (st := []) (zdec eX10_high 18 rfl) kM_X10_428 kV_X10_laysSeen ⟨by decide, rfl⟩ rfl rfl rfl rfl rfl (by omega) (r_laysSeen (by omega) VD hd0 RD0 RW0 VW r0.1.1.1 r0.1.1.2 r0.1.2.1 r0.1.2.2 r0.2) (fun h3 ⟨SN, b40, b41, g3⟩ => ?_)
    have f3 : Fr sQR h h3 := f0.tr g3 (fun k j z => z) (fun k j z => z)
    rw [seen_eq VD hd0 W] at b40 b41
    refine zS_bipush (zdec eX10_high 19 rfl) rfl rfl ?_
    refine zS_istore (zdec eX10_high 20 rfl) rfl ?_
    unfold a_high
    rw [if_pos c1]
    exact K_high (by omega) SN.1 f3 21 0 (by omega) (by omega) rfl
  · refine zS_iload_n (zdec eX10_high 13 rfl) rfl ?_
    exact zlMI (zdec eX10_high 14 rfl) rfl ⟨by unfold a_high; rw [if_neg c1], f0⟩

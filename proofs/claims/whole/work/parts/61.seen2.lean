def ofX (D : Dk) (b n : Int) : Pb := wO (pb0 D) (fun c => if c = b then n else D (3 + c) 2)
noncomputable def ftP (D : Dk) (W : Rw) (x b n : Int) : Bool := agP (ofX D b n) (planP (ofX D b n)) W x
noncomputable def dyP (D : Dk) (b n c : Int) : Int := dayC (ofX D b n) (planP (ofX D b n)) c
def ctI (f : Int → Bool) (k : Int) : Int := sumI (fun n => b2i (f n)) k
theorem ctB (f : Int → Bool) {k : Int} (k0 : 0 ≤ k) : 0 ≤ ctI f k ∧ ctI f k ≤ k := by
  have s0 := sumI_nn (f := fun n => b2i (f n)) (k := k) (fun j _ _ => by rcases b2i_01 (f j) with z | z <;> omega)
  have s1 := sumI_le (f := fun n => b2i (f n)) (k := k) (B := 1) k0 (fun j _ _ => by rcases b2i_01 (f j) with z | z <;> omega)
  unfold ctI
  omega
/-- what Seen holds: which offs fit, the days by each -/
def SnC (h : zH) (nb : Int) (f : Int → Bool) (g : Int → Int → Int) : Prop := h 79 2 = ctI f 21 ∧ ∀ n, 0 ≤ n → n < 21 → h 80 n = b2i (f n) ∧ ∀ c, 0 ≤ c → c < nb → h (82 + n) c = g n c
theorem ofV {D : Dk} (VD : DV D) (hd0 : 0 < D 0 0) (b : Int) {n : Int} (n0 : 0 ≤ n) (n1 : n < 21) : PV (ofX D b n) := (pb0_V VD hd0).off' (fun c c0 c1 => by
  have := VD.row c0 (show c < D 0 8 from c1)
  split <;> omega)
theorem L_fit {d : Nat} {h : zH} {D : Dk} {W : Rw} {x y : Int} (hd : 7 ≤ d) (VD : DV D) (hd0 : 0 < D 0 0) (RD : DC h 15 D) (RW : RC h W) (VW : RV W) (x0 : 0 ≤ x) (x1 : x < 4) (y0 : 0 ≤ y) (y1 : y < D 0 8) (ok : okS D W x) : ∀ (n : Nat) (e : Int) (h1 : zH), 0 ≤ e → e + n = 21 → Fr sQ h h1 → h1 79 2 = ctI (ftP D W x y) e → (∀ n, 0 ≤ n → n < e → h1 80 n = b2i (ftP D W x y n) ∧ ∀ c, 0 ≤ c → c < D 0 8 → h1 (82 + n) c = dyP D y n c) → zS mX5_fitting (zr d) 8 [zA 79, zA 14, zA 67, zI x, zI y, zI e] [] TT h1 (zAnI (fun r h' => r = ctI (ftP D W x y) 21 ∧ SnC h' (D 0 8) (ftP D W x y) (dyP D y) ∧ Fr sQ h h')) := by
  intro n
  induction n with
  | zero =>
    intro e h1 a1 a2 i1 i2 i3
    refine zS_iload (zdec eX5_fitting 5 rfl) rfl ?_
    refine zS_bipush (zdec eX5_fitting 6 rfl) rfl rfl ?_
    refine zS_icmp_ge (tgt := 93) (zdec eX5_fitting 7 rfl) rfl (fun cz => ?_) (fun cz => absurd (by omega) cz)
    refine zS_aload_n (zdec eX5_fitting 51 rfl) rfl rfl ?_
    refine zS_getfieldE (x := 2) (v := (ctI (ftP D W x y) e)) (zdec eX5_fitting 52 rfl) kF_X5_20 ⟨by decide, rfl⟩ rfl rfl rfl i2 ?_
    exact zlMI (zdec eX5_fitting 53 rfl) rfl ⟨by rw [show e = 21 by omega], ⟨by rw [i2, show e = 21 by omega], fun n n0 n1 => i3 n n0 (by omega)⟩, i1⟩
  | succ n ih =>
    intro e h1 a1 a2 i1 i2 i3
    have RD1 : DC h1 15 D := RD.fr i1 (fun k j z => by omega)
    have nb := VD.nb
    have ct := ctB (ftP D W x y) a1
    refine zS_iload (zdec eX5_fitting 5 rfl) rfl ?_
    refine zS_bipush (zdec eX5_fitting 6 rfl) rfl rfl ?_
    refine zS_icmp_ge (tgt := 93) (zdec eX5_fitting 7 rfl) rfl (fun cz => absurd cz (by omega)) (fun cz => ?_)
    refine zS_aload_n (zdec eX5_fitting 8 rfl) rfl rfl ?_
    refine zvMV (M' := mX8_asTold) (As := []) (st := []) (zdec eX5_fitting 9 rfl) kM_X5_24 kV_X8_asTold ⟨by decide, rfl⟩ rfl rfl rfl rfl rfl (by omega) (c_asTold (by omega) hd0 VD RD1) (fun h2 ⟨R, cl2, g2⟩ => ?_)
    have V := pb0_V VD hd0
    refine zS_aload_n (zdec eX5_fitting 10 rfl) rfl rfl ?_
    refine zS_getref (i := 20) (zdec eX5_fitting 11 rfl) kF_X5_29 ⟨by decide, rfl⟩ rfl rfl rfl rfl rfl ?_
    refine zS_iload (zdec eX5_fitting 12 rfl) rfl ?_
    refine zS_iload (zdec eX5_fitting 13 rfl) rfl ?_
    refine zS_iastore (zdec eX5_fitting 14 rfl) ⟨by decide, rfl⟩ (by omega) (by omega) ?_
    have R : WC (zset h2 27 y e) (ofX D y e) := R.off' (f := fun c => if c = y then e else D (3 + c) 2) V (fun k j w => congrFun (zset_k w) j) (fun c c0 c1 => by
        show zset h2 27 y e 27 c = if c = y then e else D (3 + c) 2
        by_cases w : c = y
        · subst w; rw [if_pos rfl]; exact zset_s _ _ _ _
        · rw [if_neg w, zset_j w]; exact R.off c0 c1)
    have V : PV (ofX D y e) := ofV VD hd0 y a1 (by omega)
    refine zS_aload_n (zdec eX5_fitting 15 rfl) rfl rfl ?_
    refine zvMV (M' := mX8_planByLaw) (As := []) (st := []) (zdec eX5_fitting 16 rfl) kM_X5_33 kV_X8_planByLaw ⟨by decide, rfl⟩ rfl rfl rfl rfl rfl (by omega) (c_planByLaw (by omega) V R) (fun h3 ⟨S3, O3, m3, f3⟩ => ?_)
    have g3 : Fr sBy h1 h3 := (g2.tr (Fr.rf.set (by omega) : Fr sBy h2 (zset h2 27 y e)) (S'' := sBy) (fun k j z => by omega) (fun k j z => z)).tr f3 (fun k j z => z) (fun k j z => by omega)
    have gg : Fr sQ h h3 := i1.tr g3 (fun k j z => z) (fun k j z => by omega)
    have RW3 : RC h3 W := RW.fr gg (fun k j z => by omega)
    have w3 : ∀ k j, 79 ≤ k → k ≤ 102 → h3 k j = h1 k j := fun k j a b => g3 k j (by omega)
    have fb := b2i_01 (ftP D W x y e)
    refine zS_aload_n (zdec eX5_fitting 17 rfl) rfl rfl ?_
    refine zS_getref (i := 51) (zdec eX5_fitting 18 rfl) kF_X5_9 ⟨by decide, rfl⟩ rfl rfl rfl rfl rfl ?_
    refine zS_iload (zdec eX5_fitting 19 rfl) rfl ?_
    refine zS_aload_n (zdec eX5_fitting 20 rfl) rfl rfl ?_
    refine zS_aload_n (zdec eX5_fitting 21 rfl) rfl rfl ?_
    refine zS_aload_n (zdec eX5_fitting 22 rfl) rfl rfl ?_
    refine zS_iload_n (zdec eX5_fitting 23 rfl) rfl ?_
    refine zvI (M' := mX5_agrees) (As := [zA 14, zA 67, zI x]) (st := [zI e, zA 80]) (zdec eX5_fitting 24 rfl) kM_X5_36 kV_X5_agrees ⟨by decide, rfl⟩ rfl rfl rfl rfl rfl (by omega) (show zPI (d - 1) mX5_agrees [zA 79, zA 14, zA 67, zI x] h3 (b2i (ftP D W x y e)) from c_agrees VD VW rfl S3 RW3 x0 x1 ok) ?_
    refine zS_bastore (zdec eX5_fitting 25 rfl) (Or.inr ⟨rfl, by omega⟩) ⟨by decide, rfl⟩ (by omega) (by omega) ?_
    refine zS_aload_n (zdec eX5_fitting 26 rfl) rfl rfl ?_
    refine zS_dup (zdec eX5_fitting 27 rfl) (fun q => by cases q) ?_
    refine zS_getfieldE (x := 2) (v := (ctI (ftP D W x y) e)) (zdec eX5_fitting 28 rfl) kF_X5_20 ⟨by decide, rfl⟩ rfl rfl rfl ((congrFun (zset_k (by decide)) _).trans ((w3 79 2 (by omega) (by omega)).trans i2)) ?_
    refine zS_aload_n (zdec eX5_fitting 29 rfl) rfl rfl ?_
    refine zS_getref (i := 51) (zdec eX5_fitting 30 rfl) kF_X5_9 ⟨by decide, rfl⟩ rfl rfl rfl rfl rfl ?_
    refine zS_iload (zdec eX5_fitting 31 rfl) rfl ?_
    refine zS_baloadE (v := (b2i (ftP D W x y e))) (zdec eX5_fitting 32 rfl) (Or.inr rfl) ⟨by decide, rfl⟩ (by omega) (by omega) (zset_s _ _ _ _) ?_
    refine zS_if_eq (tgt := 65) (zdec eX5_fitting 33 rfl) rfl (fun c1 => ?_) (fun c1 => ?_)
    · refine zS_iconst (zdec eX5_fitting 36 rfl) rfl ?_
      refine zS_iadd (zdec eX5_fitting 37 rfl) ⟨by omega, by omega⟩ ?_
      refine zS_putfield (x := 2) (zdec eX5_fitting 38 rfl) kF_X5_20 (Or.inl kf5_2) ⟨by decide, rfl⟩ rfl rfl rfl (Or.inl (fun q => by cases q)) ?_
      refine zS_aload_n (zdec eX5_fitting 39 rfl) rfl rfl ?_
      refine zS_getref (i := 21) (zdec eX5_fitting 40 rfl) kF_X5_40 ⟨by decide, rfl⟩ rfl rfl rfl rfl rfl ?_
      refine zS_iconst (zdec eX5_fitting 41 rfl) rfl ?_
      refine zS_aload_n (zdec eX5_fitting 42 rfl) rfl rfl ?_
      refine zS_getref (i := 52) (zdec eX5_fitting 43 rfl) kF_X5_17 ⟨by decide, rfl⟩ rfl rfl rfl rfl rfl ?_
      refine zS_iload (zdec eX5_fitting 44 rfl) rfl ?_
      refine zS_aaload1 (i := 7) (zdec eX5_fitting 45 rfl) (Or.inr (Or.inl rfl)) ⟨by decide, rfl⟩ rfl rfl rfl (by omega) (by omega) ?_
      refine zS_iconst (zdec eX5_fitting 46 rfl) rfl ?_
      refine zS_iconst (zdec eX5_fitting 47 rfl) rfl ?_
      refine zS_copyI (zdec eX5_fitting 48 rfl) kM_X5_43 rfl (by omega) ⟨by decide, rfl⟩ (zrow_82 a1 (by omega)) (by decide) (by decide) (by decide) (by decide) (by decide) ?_
      refine zS_iinc (zdec eX5_fitting 49 rfl) rfl rfl ⟨by omega, by omega⟩ ?_
      refine zS_goto (tgt := 8) (zdec eX5_fitting 50 rfl) rfl ?_
      refine ih (e + 1) _ (by omega) (by omega) ?_ ?_ ?_
      · intro k j hn
        rw [zcpy_k (by omega)]
        exact ((gg.set (by omega)).set (by omega)) k j hn
      · rw [zcpy_k (by omega), zset_s]
        unfold ctI
        rw [sumI_s _ a1, show b2i (ftP D W x y e) = 0 by rw [show ftP D W x y e = false from b2i_0.mp c1]; rfl]
      · intro n n0 n1
        by_cases w : n = e
        · subst w
          refine ⟨by rw [zcpy_k (by omega), zset_k (by decide), zset_s], fun c c0 c1 => ?_⟩
          show (if 82 + n = 82 + n ∧ 0 ≤ c ∧ c < 0 + 5 then _ else _) = _
          rw [if_pos ⟨rfl, c0, by omega⟩, zset_k (by decide), zset_k (by decide), show (0 : Int) + (c - 0) = c by omega]
          exact S3.day c0 c1
        · have t := i3 n n0 (by omega)
          refine ⟨by rw [zcpy_k (by omega), zset_k (by decide), zset_j w, w3 80 n (by omega) (by omega)]; exact t.1, fun c c0 c1 => ?_⟩
          rw [zcpy_k (by omega), zset_k (by omega), zset_k (by omega), w3 _ c (by omega) (by omega)]
          exact t.2 c c0 c1
    · refine zS_iconst (zdec eX5_fitting 34 rfl) rfl ?_
      refine zS_goto (tgt := 66) (zdec eX5_fitting 35 rfl) rfl ?_
      refine zS_iadd (zdec eX5_fitting 37 rfl) ⟨by omega, by omega⟩ ?_
      refine zS_putfield (x := 2) (zdec eX5_fitting 38 rfl) kF_X5_20 (Or.inl kf5_2) ⟨by decide, rfl⟩ rfl rfl rfl (Or.inl (fun q => by cases q)) ?_
      refine zS_aload_n (zdec eX5_fitting 39 rfl) rfl rfl ?_
      refine zS_getref (i := 21) (zdec eX5_fitting 40 rfl) kF_X5_40 ⟨by decide, rfl⟩ rfl rfl rfl rfl rfl ?_
      refine zS_iconst (zdec eX5_fitting 41 rfl) rfl ?_
      refine zS_aload_n (zdec eX5_fitting 42 rfl) rfl rfl ?_
      refine zS_getref (i := 52) (zdec eX5_fitting 43 rfl) kF_X5_17 ⟨by decide, rfl⟩ rfl rfl rfl rfl rfl ?_
      refine zS_iload (zdec eX5_fitting 44 rfl) rfl ?_
      refine zS_aaload1 (i := 7) (zdec eX5_fitting 45 rfl) (Or.inr (Or.inl rfl)) ⟨by decide, rfl⟩ rfl rfl rfl (by omega) (by omega) ?_
      refine zS_iconst (zdec eX5_fitting 46 rfl) rfl ?_
      refine zS_iconst (zdec eX5_fitting 47 rfl) rfl ?_
      refine zS_copyI (zdec eX5_fitting 48 rfl) kM_X5_43 rfl (by omega) ⟨by decide, rfl⟩ (zrow_82 a1 (by omega)) (by decide) (by decide) (by decide) (by decide) (by decide) ?_
      refine zS_iinc (zdec eX5_fitting 49 rfl) rfl rfl ⟨by omega, by omega⟩ ?_
      refine zS_goto (tgt := 8) (zdec eX5_fitting 50 rfl) rfl ?_
      refine ih (e + 1) _ (by omega) (by omega) ?_ ?_ ?_
      · intro k j hn
        rw [zcpy_k (by omega)]
        exact ((gg.set (by omega)).set (by omega)) k j hn
      · rw [zcpy_k (by omega), zset_s]
        unfold ctI
        rw [sumI_s _ a1, show b2i (ftP D W x y e) = 1 by rw [show ftP D W x y e = true from b2i_n.mp c1]; rfl]
      · intro n n0 n1
        by_cases w : n = e
        · subst w
          refine ⟨by rw [zcpy_k (by omega), zset_k (by decide), zset_s], fun c c0 c1 => ?_⟩
          show (if 82 + n = 82 + n ∧ 0 ≤ c ∧ c < 0 + 5 then _ else _) = _
          rw [if_pos ⟨rfl, c0, by omega⟩, zset_k (by decide), zset_k (by decide), show (0 : Int) + (c - 0) = c by omega]
          exact S3.day c0 c1
        · have t := i3 n n0 (by omega)
          refine ⟨by rw [zcpy_k (by omega), zset_k (by decide), zset_j w, w3 80 n (by omega) (by omega)]; exact t.1, fun c c0 c1 => ?_⟩
          rw [zcpy_k (by omega), zset_k (by omega), zset_k (by omega), w3 _ c (by omega) (by omega)]
          exact t.2 c c0 c1
theorem c_fitting {d : Nat} {h : zH} {D : Dk} {W : Rw} {x y : Int} (hd : 7 ≤ d) (VD : DV D) (hd0 : 0 < D 0 0) (RD : DC h 15 D) (RW : RC h W) (VW : RV W) (x0 : 0 ≤ x) (x1 : x < 4) (y0 : 0 ≤ y) (y1 : y < D 0 8) (ok : okS D W x) : zMI d mX5_fitting [zA 79, zA 14, zA 67, zI x, zI y] h (fun r h' => r = ctI (ftP D W x y) 21 ∧ SnC h' (D 0 8) (ftP D W x y) (dyP D y) ∧ Fr sQ h h') := by
  refine zmet rfl rfl rfl ?_
  refine zS_aload_n (zdec eX5_fitting 0 rfl) rfl rfl ?_
  refine zS_iconst (zdec eX5_fitting 1 rfl) rfl ?_
  refine zS_putfield (x := 2) (zdec eX5_fitting 2 rfl) kF_X5_20 (Or.inl kf5_2) ⟨by decide, rfl⟩ rfl rfl rfl (Or.inl (fun q => by cases q)) ?_
  refine zS_iconst (zdec eX5_fitting 3 rfl) rfl ?_
  refine zS_istore (zdec eX5_fitting 4 rfl) rfl ?_
  exact L_fit hd VD hd0 RD RW VW x0 x1 y0 y1 ok 21 0 _ (by omega) (by omega) (Fr.rf.set (by omega)) (zset_s _ _ _ _) (fun n n0 n1 => by omega)
theorem L_lOff {d : Nat} {h : zH} {nb : Int} {f : Int → Bool} {g : Int → Int → Int} (SN : SnC h nb f g) : ∀ (n : Nat) (e : Int), 0 ≤ e → e + n = 21 → fsI f e = -1 → zS mX5_leastOff (zr d) 2 [zA 79, zI e] [] TT h (zOne (fsI f 21) h) := by
  intro n
  induction n with
  | zero =>
    intro e a1 a2 a3
    refine zS_iload_n (zdec eX5_leastOff 2 rfl) rfl ?_
    refine zS_bipush (zdec eX5_leastOff 3 rfl) rfl rfl ?_
    refine zS_icmp_ge (tgt := 25) (zdec eX5_leastOff 4 rfl) rfl (fun cz => ?_) (fun cz => absurd (by omega) cz)
    refine zS_iconst (zdec eX5_leastOff 14 rfl) rfl ?_
    exact zlI (zdec eX5_leastOff 15 rfl) rfl (by rw [← a3, show e = 21 by omega])
  | succ n ih =>
    intro e a1 a2 a3
    refine zS_iload_n (zdec eX5_leastOff 2 rfl) rfl ?_
    refine zS_bipush (zdec eX5_leastOff 3 rfl) rfl rfl ?_
    refine zS_icmp_ge (tgt := 25) (zdec eX5_leastOff 4 rfl) rfl (fun cz => absurd cz (by omega)) (fun cz => ?_)
    refine zS_aload_n (zdec eX5_leastOff 5 rfl) rfl rfl ?_
    refine zS_getref (i := 51) (zdec eX5_leastOff 6 rfl) kF_X5_9 ⟨by decide, rfl⟩ rfl rfl rfl rfl rfl ?_
    refine zS_iload_n (zdec eX5_leastOff 7 rfl) rfl ?_
    refine zS_baloadE (v := (b2i (f e))) (zdec eX5_leastOff 8 rfl) (Or.inr rfl) ⟨by decide, rfl⟩ (by omega) (by omega) (SN.2 _ (by omega) (by omega)).1 ?_
    refine zS_if_eq (tgt := 19) (zdec eX5_leastOff 9 rfl) rfl (fun c1 => ?_) (fun c1 => ?_)
    · refine zS_iinc (zdec eX5_leastOff 12 rfl) rfl rfl ⟨by omega, by omega⟩ ?_
      refine zS_goto (tgt := 2) (zdec eX5_leastOff 13 rfl) rfl ?_
      exact ih (e + 1) (by omega) (by omega) (fsI_next a1 a3 (b2i_0.mp c1))
    · refine zS_iload_n (zdec eX5_leastOff 10 rfl) rfl ?_
      exact zlI (zdec eX5_leastOff 11 rfl) rfl (fsI_hit a1 (by omega) a3 (b2i_n.mp c1)).symm
theorem c_leastOff {d : Nat} {h : zH} {nb : Int} {f : Int → Bool} {g : Int → Int → Int} (SN : SnC h nb f g) : zPI d mX5_leastOff [zA 79] h (fsI f 21) := by
  refine zmet rfl rfl rfl ?_
  refine zS_iconst (zdec eX5_leastOff 0 rfl) rfl ?_
  refine zS_istore_n (zdec eX5_leastOff 1 rfl) rfl ?_
  exact L_lOff SN 21 0 (by omega) (by omega) rfl
def laI (f : Int → Bool) : Int := if fsI (fun j => f (20 - j)) 21 = -1 then -1 else 20 - fsI (fun j => f (20 - j)) 21
theorem L_gOff {d : Nat} {h : zH} {nb : Int} {f : Int → Bool} {g : Int → Int → Int} (SN : SnC h nb f g) : ∀ (n : Nat) (e : Int), 0 ≤ e → e + n = 21 → fsI (fun j => f (20 - j)) e = -1 → zS mX5_greatestOff (zr d) 3 [zA 79, zI (20 - e)] [] TT h (zOne (laI f) h) := by
  intro n
  induction n with
  | zero =>
    intro e a1 a2 a3
    refine zS_iload_n (zdec eX5_greatestOff 2 rfl) rfl ?_
    refine zS_if_lt (tgt := 24) (zdec eX5_greatestOff 3 rfl) rfl (fun cz => ?_) (fun cz => absurd (by omega) cz)
    refine zS_iconst (zdec eX5_greatestOff 13 rfl) rfl ?_
    exact zlI (zdec eX5_greatestOff 14 rfl) rfl (by unfold laI; rw [if_pos (by rw [← a3, show e = 21 by omega])])
  | succ n ih =>
    intro e a1 a2 a3
    refine zS_iload_n (zdec eX5_greatestOff 2 rfl) rfl ?_
    refine zS_if_lt (tgt := 24) (zdec eX5_greatestOff 3 rfl) rfl (fun cz => absurd cz (by omega)) (fun cz => ?_)
    refine zS_aload_n (zdec eX5_greatestOff 4 rfl) rfl rfl ?_
    refine zS_getref (i := 51) (zdec eX5_greatestOff 5 rfl) kF_X5_9 ⟨by decide, rfl⟩ rfl rfl rfl rfl rfl ?_
    refine zS_iload_n (zdec eX5_greatestOff 6 rfl) rfl ?_
    refine zS_baloadE (v := (b2i (f (20 - e)))) (zdec eX5_greatestOff 7 rfl) (Or.inr rfl) ⟨by decide, rfl⟩ (by omega) (by omega) (SN.2 _ (by omega) (by omega)).1 ?_
    refine zS_if_eq (tgt := 18) (zdec eX5_greatestOff 8 rfl) rfl (fun c1 => ?_) (fun c1 => ?_)
    · refine zS_iinc (zdec eX5_greatestOff 11 rfl) rfl rfl ⟨by omega, by omega⟩ ?_
      refine zS_goto (tgt := 3) (zdec eX5_greatestOff 12 rfl) rfl ?_
      rw [show 20 - e + -1 = 20 - (e + 1) by omega]
      exact ih (e + 1) (by omega) (by omega) (fsI_next a1 a3 (b2i_0.mp c1))
    · refine zS_iload_n (zdec eX5_greatestOff 9 rfl) rfl ?_
      have t := fsI_hit (f := fun j => f (20 - j)) a1 (show e < 21 by omega) a3 (b2i_n.mp c1)
      exact zlI (zdec eX5_greatestOff 10 rfl) rfl (by unfold laI; rw [t, if_neg (by omega)])
theorem c_greatestOff {d : Nat} {h : zH} {nb : Int} {f : Int → Bool} {g : Int → Int → Int} (SN : SnC h nb f g) : zPI d mX5_greatestOff [zA 79] h (laI f) := by
  refine zmet rfl rfl rfl ?_
  refine zS_bipush (zdec eX5_greatestOff 0 rfl) rfl rfl ?_
  refine zS_istore_n (zdec eX5_greatestOff 1 rfl) rfl ?_
  exact L_gOff SN 21 0 (by omega) (by omega) rfl
def moN (f : Int → Int) : Nat → Int
  | 0 => 0
  | n + 1 => max (moN f n) (f n)
def moI (f : Int → Int) (k : Int) : Int := moN f k.toNat
theorem moI_0 (f : Int → Int) : moI f 0 = 0 := rfl
theorem moI_s (f : Int → Int) {k : Int} (h : 0 ≤ k) : moI f (k + 1) = max (moI f k) (f k) := by
  unfold moI
  rw [show (k + 1).toNat = k.toNat + 1 by omega]
  show max (moN f k.toNat) (f (k.toNat : Int)) = _
  rw [Int.toNat_of_nonneg h]
def smI (f : Int → Bool) (g : Int → Int → Int) (c t : Int) : Int → Bool := fun n => f n && decide (g n c = t)
def woI (f : Int → Bool) (g : Int → Int → Int) (dy c : Int) : Int := moI (fun j => ctI (smI f g c (j - 1)) 21) (dy + 1)
theorem L_wor1 {d : Nat} {h : zH} {nb c y m t : Int} {Q : Option zV → zT → zH → Prop} {f : Int → Bool} {g : Int → Int → Int} (SN : SnC h nb f g) (c0 : 0 ≤ c) (c1 : c < nb) (nb5 : nb ≤ 5) (K : zS mX5_worst (zr d) 64 [zA 79, zI c, zI y, zI m, zI t, zI (ctI (smI f g c t) 21), zI 21] [] TT h Q) : ∀ (n : Nat) (e : Int), 0 ≤ e → e + n = 21 → zS mX5_worst (zr d) 17 [zA 79, zI c, zI y, zI m, zI t, zI (ctI (smI f g c t) e), zI e] [] TT h Q := by
  intro n
  induction n with
  | zero =>
    intro e a1 a2
    refine zS_iload (zdec eX5_worst 11 rfl) rfl ?_
    refine zS_bipush (zdec eX5_worst 12 rfl) rfl rfl ?_
    refine zS_icmp_ge (tgt := 64) (zdec eX5_worst 13 rfl) rfl (fun cz => ?_) (fun cz => absurd (by omega) cz)
    rw [show e = 21 by omega]
    exact K
  | succ n ih =>
    intro e a1 a2
    have ct := ctB (smI f g c t) a1
    refine zS_iload (zdec eX5_worst 11 rfl) rfl ?_
    refine zS_bipush (zdec eX5_worst 12 rfl) rfl rfl ?_
    refine zS_icmp_ge (tgt := 64) (zdec eX5_worst 13 rfl) rfl (fun cz => absurd cz (by omega)) (fun cz => ?_)
    refine zS_iload (zdec eX5_worst 14 rfl) rfl ?_
    refine zS_aload_n (zdec eX5_worst 15 rfl) rfl rfl ?_
    refine zS_getref (i := 51) (zdec eX5_worst 16 rfl) kF_X5_9 ⟨by decide, rfl⟩ rfl rfl rfl rfl rfl ?_
    refine zS_iload (zdec eX5_worst 17 rfl) rfl ?_
    refine zS_baloadE (v := (b2i (f e))) (zdec eX5_worst 18 rfl) (Or.inr rfl) ⟨by decide, rfl⟩ (by omega) (by omega) (SN.2 _ (by omega) (by omega)).1 ?_
    refine zS_if_eq (tgt := 54) (zdec eX5_worst 19 rfl) rfl (fun c1 => ?_) (fun c1 => ?_)
    · refine zS_iconst (zdec eX5_worst 30 rfl) rfl ?_
      refine zS_iadd (zdec eX5_worst 31 rfl) ⟨by omega, by omega⟩ ?_
      refine zS_istore (zdec eX5_worst 32 rfl) rfl ?_
      refine zS_iinc (zdec eX5_worst 33 rfl) rfl rfl ⟨by omega, by omega⟩ ?_
      refine zS_goto (tgt := 17) (zdec eX5_worst 34 rfl) rfl ?_
      have k := ih (e + 1) (by omega) (by omega)
      unfold ctI at k ⊢
      rw [sumI_s _ a1, show smI f g c t e = false by unfold smI; rw [show f e = false from b2i_0.mp c1]; rfl] at k
      exact k
    · refine zS_aload_n (zdec eX5_worst 20 rfl) rfl rfl ?_
      refine zS_getref (i := 52) (zdec eX5_worst 21 rfl) kF_X5_17 ⟨by decide, rfl⟩ rfl rfl rfl rfl rfl ?_
      refine zS_iload (zdec eX5_worst 22 rfl) rfl ?_
      refine zS_aaload1 (i := 7) (zdec eX5_worst 23 rfl) (Or.inr (Or.inl rfl)) ⟨by decide, rfl⟩ rfl rfl rfl (by omega) (by omega) ?_
      refine zS_iload_n (zdec eX5_worst 24 rfl) rfl ?_
      refine zS_ialoadE (v := (g e c)) (zdec eX5_worst 25 rfl) (zrow_82 (by omega) (by omega)) (by omega) (by omega) ((SN.2 _ (by omega) (by omega)).2 _ (by omega) (by omega)) ?_
      refine zS_iload (zdec eX5_worst 26 rfl) rfl ?_
      refine zS_icmp_ne (tgt := 54) (zdec eX5_worst 27 rfl) rfl (fun c2 => ?_) (fun c2 => ?_)
      · refine zS_iconst (zdec eX5_worst 30 rfl) rfl ?_
        refine zS_iadd (zdec eX5_worst 31 rfl) ⟨by omega, by omega⟩ ?_
        refine zS_istore (zdec eX5_worst 32 rfl) rfl ?_
        refine zS_iinc (zdec eX5_worst 33 rfl) rfl rfl ⟨by omega, by omega⟩ ?_
        refine zS_goto (tgt := 17) (zdec eX5_worst 34 rfl) rfl ?_
        have k := ih (e + 1) (by omega) (by omega)
        unfold ctI at k ⊢
        rw [sumI_s _ a1, show smI f g c t e = false by unfold smI; rw [decide_eq_false c2, Bool.and_false]] at k
        exact k
      · refine zS_iconst (zdec eX5_worst 28 rfl) rfl ?_
        refine zS_goto (tgt := 55) (zdec eX5_worst 29 rfl) rfl ?_
        refine zS_iadd (zdec eX5_worst 31 rfl) ⟨by omega, by omega⟩ ?_
        refine zS_istore (zdec eX5_worst 32 rfl) rfl ?_
        refine zS_iinc (zdec eX5_worst 33 rfl) rfl rfl ⟨by omega, by omega⟩ ?_
        refine zS_goto (tgt := 17) (zdec eX5_worst 34 rfl) rfl ?_
        have k := ih (e + 1) (by omega) (by omega)
        unfold ctI at k ⊢
        rw [sumI_s _ a1, show smI f g c t e = true by unfold smI; rw [show f e = true from b2i_n.mp c1, decide_eq_true (by omega)]; rfl] at k
        exact k
theorem L_wor {d : Nat} {h : zH} {nb c y : Int} {f : Int → Bool} {g : Int → Int → Int} (SN : SnC h nb f g) (hd : 1 ≤ d) (c0 : 0 ≤ c) (c1 : c < nb) (nb5 : nb ≤ 5) (y0 : 0 ≤ y) (y1 : y ≤ 7) : ∀ (n : Nat) (e : Int), 0 ≤ e → e + n = y + 1 → zS mX5_worst (zr d) 5 [zA 79, zI c, zI y, zI (moI (fun j => ctI (smI f g c (j - 1)) 21) e), zI (e - 1), zN, zN] [] TT h (zOne (woI f g y c) h) := by
  intro n
  induction n with
  | zero =>
    intro e a1 a2
    refine zS_iload (zdec eX5_worst 4 rfl) rfl ?_
    refine zS_iload_n (zdec eX5_worst 5 rfl) rfl ?_
    refine zS_icmp_ge (tgt := 77) (zdec eX5_worst 6 rfl) rfl (fun cz => ?_) (fun cz => absurd (by omega) cz)
    refine zS_iload_n (zdec eX5_worst 41 rfl) rfl ?_
    exact zlI (zdec eX5_worst 42 rfl) rfl (by unfold woI; rw [show e = y + 1 by omega])
  | succ n ih =>
    intro e a1 a2
    refine zS_iload (zdec eX5_worst 4 rfl) rfl ?_
    refine zS_iload_n (zdec eX5_worst 5 rfl) rfl ?_
    refine zS_icmp_ge (tgt := 77) (zdec eX5_worst 6 rfl) rfl (fun cz => absurd cz (by omega)) (fun cz => ?_)
    refine zS_iconst (zdec eX5_worst 7 rfl) rfl ?_
    refine zS_istore (zdec eX5_worst 8 rfl) rfl ?_
    refine zS_iconst (zdec eX5_worst 9 rfl) rfl ?_
    refine zS_istore (zdec eX5_worst 10 rfl) rfl ?_
    refine L_wor1 SN c0 c1 nb5 ?_ 21 0 (by omega) (by omega)
    refine zS_iload_n (zdec eX5_worst 35 rfl) rfl ?_
    refine zS_iload (zdec eX5_worst 36 rfl) rfl ?_
    refine zS_max (zdec eX5_worst 37 rfl) kM_X5_62 rfl (by omega) ?_
    refine zS_istore_n (zdec eX5_worst 38 rfl) rfl ?_
    refine zS_iinc (zdec eX5_worst 39 rfl) rfl rfl ⟨by omega, by omega⟩ ?_
    refine zS_goto (tgt := 5) (zdec eX5_worst 40 rfl) rfl ?_
    refine zS_forget (i := 5) ?_
    refine zS_forget (i := 6) ?_
    have k := ih (e + 1) (by omega) (by omega)
    rw [moI_s _ a1, show e + 1 - 1 = e - 1 + 1 by omega] at k
    exact k
theorem c_worst {d : Nat} {h : zH} {nb c y : Int} {f : Int → Bool} {g : Int → Int → Int} (SN : SnC h nb f g) (hd : 1 ≤ d) (c0 : 0 ≤ c) (c1 : c < nb) (nb5 : nb ≤ 5) (y0 : 0 ≤ y) (y1 : y ≤ 7) : zPI d mX5_worst [zA 79, zI c, zI y] h (woI f g y c) := by
  refine zmet rfl rfl rfl ?_
  refine zS_iconst (zdec eX5_worst 0 rfl) rfl ?_
  refine zS_istore_n (zdec eX5_worst 1 rfl) rfl ?_
  refine zS_iconst (zdec eX5_worst 2 rfl) rfl ?_
  refine zS_istore (zdec eX5_worst 3 rfl) rfl ?_
  exact L_wor SN hd c0 c1 nb5 y0 y1 (y + 1).toNat 0 (by omega) (by omega)
theorem L_ques {d : Nat} {h : zH} {nb y : Int} {f : Int → Bool} {g : Int → Int → Int} (SN : SnC h nb f g) (hd : 2 ≤ d) (nb0 : 0 ≤ nb) (nb5 : nb ≤ 5) (y0 : 0 ≤ y) (y1 : y ≤ 7) : ∀ (n : Nat) (e : Int), 0 ≤ e → e + n = nb → zS mX5_question (zr d) 11 [zA 79, zI nb, zI y, zI ((slI (fun _ => true) (woI f g y) (ctI f 21) e).1), zI ((slI (fun _ => true) (woI f g y) (ctI f 21) e).2), zI e, zN] [] TT h (zOne (slI (fun _ => true) (woI f g y) (ctI f 21) nb).1 h) := by
  intro n
  induction n with
  | zero =>
    intro e a1 a2
    refine zS_iload (zdec eX5_question 7 rfl) rfl ?_
    refine zS_iload_n (zdec eX5_question 8 rfl) rfl ?_
    refine zS_icmp_ge (tgt := 46) (zdec eX5_question 9 rfl) rfl (fun cz => ?_) (fun cz => absurd (by omega) cz)
    refine zS_iload_n (zdec eX5_question 24 rfl) rfl ?_
    exact zlI (zdec eX5_question 25 rfl) rfl (by rw [show e = nb by omega])
  | succ n ih =>
    intro e a1 a2
    refine zS_iload (zdec eX5_question 7 rfl) rfl ?_
    refine zS_iload_n (zdec eX5_question 8 rfl) rfl ?_
    refine zS_icmp_ge (tgt := 46) (zdec eX5_question 9 rfl) rfl (fun cz => absurd cz (by omega)) (fun cz => ?_)
    refine zS_aload_n (zdec eX5_question 10 rfl) rfl rfl ?_
    refine zS_iload (zdec eX5_question 11 rfl) rfl ?_
    refine zS_iload_n (zdec eX5_question 12 rfl) rfl ?_
    refine zvI (M' := mX5_worst) (As := [zI e, zI y]) (st := []) (zdec eX5_question 13 rfl) kM_X5_58 kV_X5_worst ⟨by decide, rfl⟩ rfl rfl rfl rfl rfl (by omega) (c_worst SN (by omega) a1 (by omega) nb5 y0 y1) ?_
    refine zS_istore (zdec eX5_question 14 rfl) rfl ?_
    refine zS_iload (zdec eX5_question 15 rfl) rfl ?_
    refine zS_iload (zdec eX5_question 16 rfl) rfl ?_
    refine zS_icmp_ge (tgt := 40) (zdec eX5_question 17 rfl) rfl (fun c1 => ?_) (fun c1 => ?_)
    · refine zS_iinc (zdec eX5_question 22 rfl) rfl rfl ⟨by omega, by omega⟩ ?_
      refine zS_goto (tgt := 11) (zdec eX5_question 23 rfl) rfl ?_
      refine zS_forget (i := 6) ?_
      have k := ih (e + 1) (by omega) (by omega)
      rw [slI_s _ _ _ a1] at k
      rw [if_neg (fun w => by have := w.2; omega)] at k
      exact k
    · refine zS_iload (zdec eX5_question 18 rfl) rfl ?_
      refine zS_istore (zdec eX5_question 19 rfl) rfl ?_
      refine zS_iload (zdec eX5_question 20 rfl) rfl ?_
      refine zS_istore_n (zdec eX5_question 21 rfl) rfl ?_
      refine zS_iinc (zdec eX5_question 22 rfl) rfl rfl ⟨by omega, by omega⟩ ?_
      refine zS_goto (tgt := 11) (zdec eX5_question 23 rfl) rfl ?_
      refine zS_forget (i := 6) ?_
      have k := ih (e + 1) (by omega) (by omega)
      rw [slI_s _ _ _ a1] at k
      rw [if_pos ⟨rfl, by omega⟩] at k
      exact k
theorem c_question {d : Nat} {h : zH} {nb y : Int} {f : Int → Bool} {g : Int → Int → Int} (SN : SnC h nb f g) (hd : 2 ≤ d) (nb0 : 0 ≤ nb) (nb5 : nb ≤ 5) (y0 : 0 ≤ y) (y1 : y ≤ 7) : zPI d mX5_question [zA 79, zI nb, zI y] h (slI (fun _ => true) (woI f g y) (ctI f 21) nb).1 := by
  refine zmet rfl rfl rfl ?_
  refine zS_iconst (zdec eX5_question 0 rfl) rfl ?_
  refine zS_istore_n (zdec eX5_question 1 rfl) rfl ?_
  refine zS_aload_n (zdec eX5_question 2 rfl) rfl rfl ?_
  refine zS_getfieldE (x := 2) (v := (ctI f 21)) (zdec eX5_question 3 rfl) kF_X5_20 ⟨by decide, rfl⟩ rfl rfl rfl SN.1 ?_
  refine zS_istore (zdec eX5_question 4 rfl) rfl ?_
  refine zS_iconst (zdec eX5_question 5 rfl) rfl ?_
  refine zS_istore (zdec eX5_question 6 rfl) rfl ?_
  exact L_ques SN hd nb0 nb5 y0 y1 nb.toNat 0 (by omega) (by omega)
theorem slI_v {c : Int → Bool} {f : Int → Int} {L : Int} : ∀ k : Int, 0 ≤ k → ((slI c f L k).1 = -1 ∧ (slI c f L k).2 = L) ∨ ((0 ≤ (slI c f L k).1 ∧ (slI c f L k).1 < k) ∧ (slI c f L k).2 = f (slI c f L k).1) := by
  refine up_ind (Or.inl ⟨rfl, rfl⟩) (fun j hj ih => ?_)
  rw [slI_s _ _ _ hj]
  split
  · exact Or.inr ⟨⟨hj, by show j < j + 1; omega⟩, rfl⟩
  · rcases ih with z | z
    · exact Or.inl z
    · exact Or.inr ⟨⟨z.1.1, by omega⟩, z.2⟩
noncomputable def a_fits (D : Dk) (W : Rw) (x y : Int) : Int := if rfS D W x y = 0 then ctI (ftP D W x y) 21 else rfS D W x y
theorem p_fits {d : Nat} {h : zH} {D : Dk} {W : Rw} {x y : Int} (hd : 20 ≤ d) (VD : DV D) (RD : DC h 15 D) (RW : RC h W) (VW : RV W) : zMI d mX9_fits [zA 0, zI x, zI y] h (fun r h' => r = a_fits D W x y ∧ Fr sQ h h') := by
  obtain ⟨p, hp⟩ : ∃ p, pb0 D = p := ⟨_, rfl⟩
  obtain ⟨q, hq⟩ : ∃ q, planP p = q := ⟨_, rfl⟩
  have pd : pDays p = D 0 1 := by rw [← hp]; rfl
  have pn : pNb p = D 0 8 := by rw [← hp]; rfl
  have dy := VD.days
  have nb := VD.nb
  have ns := VD.ns
  have nl := VD.nl
  have na := VD.na
  have vfl := VD.fl
  have vfe := VD.fee
  refine zmet rfl rfl rfl ?_
  refine zS_aload_n (zdec eX9_fits 0 rfl) rfl rfl ?_
  refine zS_iload_n (zdec eX9_fits 1 rfl) rfl ?_
  refine zS_iload_n (zdec eX9_fits 2 rfl) rfl ?_
  refine zvI (M' := mX9_refusedSeen) (As := [zI x, zI y]) (st := []) (zdec eX9_fits 3 rfl) kM_X9_284 kV_X9_refusedSeen ⟨by decide, rfl⟩ rfl rfl rfl rfl rfl (by omega) (c_refS (by omega) VD RD RW VW) ?_
  refine zS_istore_n (zdec eX9_fits 4 rfl) rfl ?_
  refine zS_iload_n (zdec eX9_fits 5 rfl) rfl ?_
  refine zS_if_eq (tgt := 13) (zdec eX9_fits 6 rfl) rfl (fun c1 => ?_) (fun c1 => ?_)
  · refine zS_aload_n (zdec eX9_fits 9 rfl) rfl rfl ?_
    refine zS_getref (i := 7) (zdec eX9_fits 10 rfl) kF_X9_56 ⟨by decide, rfl⟩ rfl rfl rfl rfl rfl ?_
    refine zS_aload_n (zdec eX9_fits 11 rfl) rfl rfl ?_
    refine zS_getref (i := 1) (zdec eX9_fits 12 rfl) kF_X9_19 ⟨by decide, rfl⟩ rfl rfl rfl rfl rfl ?_
    refine zS_aload_n (zdec eX9_fits 13 rfl) rfl rfl ?_
    refine zS_getref (i := 5) (zdec eX9_fits 14 rfl) kF_X9_42 ⟨by decide, rfl⟩ rfl rfl rfl rfl rfl ?_
    refine zS_iload_n (zdec eX9_fits 15 rfl) rfl ?_
    refine zS_iload_n (zdec eX9_fits 16 rfl) rfl ?_
    have r0 := rfS_0 VW c1
    have hd0 := VD.bill r0.1.2.1 r0.1.2.2
    refine zvMI (M' := mX5_fitting) (As := [zA 14, zA 67, zI x, zI y]) (st := []) (zdec eX9_fits 17 rfl) kM_X9_287 kV_X5_fitting ⟨by decide, rfl⟩ rfl rfl rfl rfl rfl (by omega) (c_fitting (by omega) VD hd0 RD RW VW r0.1.1.1 r0.1.1.2 r0.1.2.1 r0.1.2.2 r0.2) (fun x5 h5 ⟨hx5, SN, f5⟩ => ?_)
    have RD5 : DC h5 15 D := RD.fr f5 (fun k j z => by omega)
    exact zlMI (zdec eX9_fits 18 rfl) rfl ⟨by unfold a_fits; rw [if_pos c1]; exact hx5, f5⟩
  · refine zS_iload_n (zdec eX9_fits 7 rfl) rfl ?_
    exact zlMI (zdec eX9_fits 8 rfl) rfl ⟨by unfold a_fits; rw [if_neg c1], Fr.rf⟩
noncomputable def a_low (D : Dk) (W : Rw) (x y : Int) : Int := if rfS D W x y = 0 then fsI (ftP D W x y) 21 else rfS D W x y
theorem p_low {d : Nat} {h : zH} {D : Dk} {W : Rw} {x y : Int} (hd : 20 ≤ d) (VD : DV D) (RD : DC h 15 D) (RW : RC h W) (VW : RV W) : zMI d mX9_low [zA 0, zI x, zI y] h (fun r h' => r = a_low D W x y ∧ Fr sQ h h') := by
  obtain ⟨p, hp⟩ : ∃ p, pb0 D = p := ⟨_, rfl⟩
  obtain ⟨q, hq⟩ : ∃ q, planP p = q := ⟨_, rfl⟩
  have pd : pDays p = D 0 1 := by rw [← hp]; rfl
  have pn : pNb p = D 0 8 := by rw [← hp]; rfl
  have dy := VD.days
  have nb := VD.nb
  have ns := VD.ns
  have nl := VD.nl
  have na := VD.na
  have vfl := VD.fl
  have vfe := VD.fee
  refine zmet rfl rfl rfl ?_
  refine zS_aload_n (zdec eX9_low 0 rfl) rfl rfl ?_
  refine zS_iload_n (zdec eX9_low 1 rfl) rfl ?_
  refine zS_iload_n (zdec eX9_low 2 rfl) rfl ?_
  refine zvI (M' := mX9_refusedSeen) (As := [zI x, zI y]) (st := []) (zdec eX9_low 3 rfl) kM_X9_284 kV_X9_refusedSeen ⟨by decide, rfl⟩ rfl rfl rfl rfl rfl (by omega) (c_refS (by omega) VD RD RW VW) ?_
  refine zS_istore_n (zdec eX9_low 4 rfl) rfl ?_
  refine zS_iload_n (zdec eX9_low 5 rfl) rfl ?_
  refine zS_if_eq (tgt := 13) (zdec eX9_low 6 rfl) rfl (fun c1 => ?_) (fun c1 => ?_)
  · refine zS_aload_n (zdec eX9_low 9 rfl) rfl rfl ?_
    refine zS_getref (i := 7) (zdec eX9_low 10 rfl) kF_X9_56 ⟨by decide, rfl⟩ rfl rfl rfl rfl rfl ?_
    refine zS_aload_n (zdec eX9_low 11 rfl) rfl rfl ?_
    refine zS_getref (i := 1) (zdec eX9_low 12 rfl) kF_X9_19 ⟨by decide, rfl⟩ rfl rfl rfl rfl rfl ?_
    refine zS_aload_n (zdec eX9_low 13 rfl) rfl rfl ?_
    refine zS_getref (i := 5) (zdec eX9_low 14 rfl) kF_X9_42 ⟨by decide, rfl⟩ rfl rfl rfl rfl rfl ?_
    refine zS_iload_n (zdec eX9_low 15 rfl) rfl ?_
    refine zS_iload_n (zdec eX9_low 16 rfl) rfl ?_
    have r0 := rfS_0 VW c1
    have hd0 := VD.bill r0.1.2.1 r0.1.2.2
    refine zvMI (M' := mX5_fitting) (As := [zA 14, zA 67, zI x, zI y]) (st := []) (zdec eX9_low 17 rfl) kM_X9_287 kV_X5_fitting ⟨by decide, rfl⟩ rfl rfl rfl rfl rfl (by omega) (c_fitting (by omega) VD hd0 RD RW VW r0.1.1.1 r0.1.1.2 r0.1.2.1 r0.1.2.2 r0.2) (fun x5 h5 ⟨hx5, SN, f5⟩ => ?_)
    have RD5 : DC h5 15 D := RD.fr f5 (fun k j z => by omega)
    refine zS_pop (zdec eX9_low 18 rfl) (fun q => by cases q) ?_
    refine zS_aload_n (zdec eX9_low 19 rfl) rfl rfl ?_
    refine zS_getref (i := 7) (zdec eX9_low 20 rfl) kF_X9_56 ⟨by decide, rfl⟩ rfl rfl rfl rfl rfl ?_
    refine zvI (M' := mX5_leastOff) (As := []) (st := []) (zdec eX9_low 21 rfl) kM_X9_291 kV_X5_leastOff ⟨by decide, rfl⟩ rfl rfl rfl rfl rfl (by omega) (c_leastOff SN) ?_
    exact zlMI (zdec eX9_low 22 rfl) rfl ⟨by unfold a_low; rw [if_pos c1], f5⟩
  · refine zS_iload_n (zdec eX9_low 7 rfl) rfl ?_
    exact zlMI (zdec eX9_low 8 rfl) rfl ⟨by unfold a_low; rw [if_neg c1], Fr.rf⟩
noncomputable def a_high (D : Dk) (W : Rw) (x y : Int) : Int := if rfS D W x y = 0 then laI (ftP D W x y) else rfS D W x y
theorem p_high {d : Nat} {h : zH} {D : Dk} {W : Rw} {x y : Int} (hd : 20 ≤ d) (VD : DV D) (RD : DC h 15 D) (RW : RC h W) (VW : RV W) : zMI d mX9_high [zA 0, zI x, zI y] h (fun r h' => r = a_high D W x y ∧ Fr sQ h h') := by
  obtain ⟨p, hp⟩ : ∃ p, pb0 D = p := ⟨_, rfl⟩
  obtain ⟨q, hq⟩ : ∃ q, planP p = q := ⟨_, rfl⟩
  have pd : pDays p = D 0 1 := by rw [← hp]; rfl
  have pn : pNb p = D 0 8 := by rw [← hp]; rfl
  have dy := VD.days
  have nb := VD.nb
  have ns := VD.ns
  have nl := VD.nl
  have na := VD.na
  have vfl := VD.fl
  have vfe := VD.fee
  refine zmet rfl rfl rfl ?_
  refine zS_aload_n (zdec eX9_high 0 rfl) rfl rfl ?_
  refine zS_iload_n (zdec eX9_high 1 rfl) rfl ?_
  refine zS_iload_n (zdec eX9_high 2 rfl) rfl ?_
  refine zvI (M' := mX9_refusedSeen) (As := [zI x, zI y]) (st := []) (zdec eX9_high 3 rfl) kM_X9_284 kV_X9_refusedSeen ⟨by decide, rfl⟩ rfl rfl rfl rfl rfl (by omega) (c_refS (by omega) VD RD RW VW) ?_
  refine zS_istore_n (zdec eX9_high 4 rfl) rfl ?_
  refine zS_iload_n (zdec eX9_high 5 rfl) rfl ?_
  refine zS_if_eq (tgt := 13) (zdec eX9_high 6 rfl) rfl (fun c1 => ?_) (fun c1 => ?_)
  · refine zS_aload_n (zdec eX9_high 9 rfl) rfl rfl ?_
    refine zS_getref (i := 7) (zdec eX9_high 10 rfl) kF_X9_56 ⟨by decide, rfl⟩ rfl rfl rfl rfl rfl ?_
    refine zS_aload_n (zdec eX9_high 11 rfl) rfl rfl ?_
    refine zS_getref (i := 1) (zdec eX9_high 12 rfl) kF_X9_19 ⟨by decide, rfl⟩ rfl rfl rfl rfl rfl ?_
    refine zS_aload_n (zdec eX9_high 13 rfl) rfl rfl ?_
    refine zS_getref (i := 5) (zdec eX9_high 14 rfl) kF_X9_42 ⟨by decide, rfl⟩ rfl rfl rfl rfl rfl ?_
    refine zS_iload_n (zdec eX9_high 15 rfl) rfl ?_
    refine zS_iload_n (zdec eX9_high 16 rfl) rfl ?_
    have r0 := rfS_0 VW c1
    have hd0 := VD.bill r0.1.2.1 r0.1.2.2
    refine zvMI (M' := mX5_fitting) (As := [zA 14, zA 67, zI x, zI y]) (st := []) (zdec eX9_high 17 rfl) kM_X9_287 kV_X5_fitting ⟨by decide, rfl⟩ rfl rfl rfl rfl rfl (by omega) (c_fitting (by omega) VD hd0 RD RW VW r0.1.1.1 r0.1.1.2 r0.1.2.1 r0.1.2.2 r0.2) (fun x5 h5 ⟨hx5, SN, f5⟩ => ?_)
    have RD5 : DC h5 15 D := RD.fr f5 (fun k j z => by omega)
    refine zS_pop (zdec eX9_high 18 rfl) (fun q => by cases q) ?_
    refine zS_aload_n (zdec eX9_high 19 rfl) rfl rfl ?_
    refine zS_getref (i := 7) (zdec eX9_high 20 rfl) kF_X9_56 ⟨by decide, rfl⟩ rfl rfl rfl rfl rfl ?_
    refine zvI (M' := mX5_greatestOff) (As := []) (st := []) (zdec eX9_high 21 rfl) kM_X9_294 kV_X5_greatestOff ⟨by decide, rfl⟩ rfl rfl rfl rfl rfl (by omega) (c_greatestOff SN) ?_
    exact zlMI (zdec eX9_high 22 rfl) rfl ⟨by unfold a_high; rw [if_pos c1], f5⟩
  · refine zS_iload_n (zdec eX9_high 7 rfl) rfl ?_
    exact zlMI (zdec eX9_high 8 rfl) rfl ⟨by unfold a_high; rw [if_neg c1], Fr.rf⟩
noncomputable def a_ask (D : Dk) (W : Rw) (x y : Int) : Int := if rfS D W x y = 0 then (slI (fun _ => true) (woI (ftP D W x y) (dyP D y) (D 0 1)) (ctI (ftP D W x y) 21) (D 0 8)).1 else rfS D W x y
theorem p_ask {d : Nat} {h : zH} {D : Dk} {W : Rw} {x y : Int} (hd : 20 ≤ d) (VD : DV D) (RD : DC h 15 D) (RW : RC h W) (VW : RV W) : zMI d mX9_ask [zA 0, zI x, zI y] h (fun r h' => r = a_ask D W x y ∧ Fr sQ h h') := by
  obtain ⟨p, hp⟩ : ∃ p, pb0 D = p := ⟨_, rfl⟩
  obtain ⟨q, hq⟩ : ∃ q, planP p = q := ⟨_, rfl⟩
  have pd : pDays p = D 0 1 := by rw [← hp]; rfl
  have pn : pNb p = D 0 8 := by rw [← hp]; rfl
  have dy := VD.days
  have nb := VD.nb
  have ns := VD.ns
  have nl := VD.nl
  have na := VD.na
  have vfl := VD.fl
  have vfe := VD.fee
  refine zmet rfl rfl rfl ?_
  refine zS_aload_n (zdec eX9_ask 0 rfl) rfl rfl ?_
  refine zS_iload_n (zdec eX9_ask 1 rfl) rfl ?_
  refine zS_iload_n (zdec eX9_ask 2 rfl) rfl ?_
  refine zvI (M' := mX9_refusedSeen) (As := [zI x, zI y]) (st := []) (zdec eX9_ask 3 rfl) kM_X9_284 kV_X9_refusedSeen ⟨by decide, rfl⟩ rfl rfl rfl rfl rfl (by omega) (c_refS (by omega) VD RD RW VW) ?_
  refine zS_istore_n (zdec eX9_ask 4 rfl) rfl ?_
  refine zS_iload_n (zdec eX9_ask 5 rfl) rfl ?_
  refine zS_if_eq (tgt := 13) (zdec eX9_ask 6 rfl) rfl (fun c1 => ?_) (fun c1 => ?_)
  · refine zS_aload_n (zdec eX9_ask 9 rfl) rfl rfl ?_
    refine zS_getref (i := 7) (zdec eX9_ask 10 rfl) kF_X9_56 ⟨by decide, rfl⟩ rfl rfl rfl rfl rfl ?_
    refine zS_aload_n (zdec eX9_ask 11 rfl) rfl rfl ?_
    refine zS_getref (i := 1) (zdec eX9_ask 12 rfl) kF_X9_19 ⟨by decide, rfl⟩ rfl rfl rfl rfl rfl ?_
    refine zS_aload_n (zdec eX9_ask 13 rfl) rfl rfl ?_
    refine zS_getref (i := 5) (zdec eX9_ask 14 rfl) kF_X9_42 ⟨by decide, rfl⟩ rfl rfl rfl rfl rfl ?_
    refine zS_iload_n (zdec eX9_ask 15 rfl) rfl ?_
    refine zS_iload_n (zdec eX9_ask 16 rfl) rfl ?_
    have r0 := rfS_0 VW c1
    have hd0 := VD.bill r0.1.2.1 r0.1.2.2
    refine zvMI (M' := mX5_fitting) (As := [zA 14, zA 67, zI x, zI y]) (st := []) (zdec eX9_ask 17 rfl) kM_X9_287 kV_X5_fitting ⟨by decide, rfl⟩ rfl rfl rfl rfl rfl (by omega) (c_fitting (by omega) VD hd0 RD RW VW r0.1.1.1 r0.1.1.2 r0.1.2.1 r0.1.2.2 r0.2) (fun x5 h5 ⟨hx5, SN, f5⟩ => ?_)
    have RD5 : DC h5 15 D := RD.fr f5 (fun k j z => by omega)
    refine zS_pop (zdec eX9_ask 18 rfl) (fun q => by cases q) ?_
    refine zS_aload_n (zdec eX9_ask 19 rfl) rfl rfl ?_
    refine zS_getref (i := 7) (zdec eX9_ask 20 rfl) kF_X9_56 ⟨by decide, rfl⟩ rfl rfl rfl rfl rfl ?_
    refine zS_aload_n (zdec eX9_ask 21 rfl) rfl rfl ?_
    refine zS_getref (i := 2) (zdec eX9_ask 22 rfl) kF_X9_27 ⟨by decide, rfl⟩ rfl rfl rfl rfl rfl ?_
    refine zS_getfieldE (x := 8) (v := (D 0 8)) (zdec eX9_ask 23 rfl) kF_X9_202 ⟨by decide, rfl⟩ rfl rfl rfl (RD5.s (by decide) (by decide)) ?_
    refine zS_aload_n (zdec eX9_ask 24 rfl) rfl rfl ?_
    refine zS_getref (i := 2) (zdec eX9_ask 25 rfl) kF_X9_27 ⟨by decide, rfl⟩ rfl rfl rfl rfl rfl ?_
    refine zS_getfieldE (x := 1) (v := (D 0 1)) (zdec eX9_ask 26 rfl) kF_X9_127 ⟨by decide, rfl⟩ rfl rfl rfl (RD5.s (by decide) (by decide)) ?_
    refine zvI (M' := mX5_question) (As := [zI (D 0 8), zI (D 0 1)]) (st := []) (zdec eX9_ask 27 rfl) kM_X9_297 kV_X5_question ⟨by decide, rfl⟩ rfl rfl rfl rfl rfl (by omega) (c_question SN (by omega) (by omega) (by omega) (by omega) (by omega)) ?_
    exact zlMI (zdec eX9_ask 28 rfl) rfl ⟨by unfold a_ask; rw [if_pos c1], f5⟩
  · refine zS_iload_n (zdec eX9_ask 7 rfl) rfl ?_
    exact zlMI (zdec eX9_ask 8 rfl) rfl ⟨by unfold a_ask; rw [if_neg c1], Fr.rf⟩
noncomputable def a_leaves (D : Dk) (W : Rw) (x y : Int) : Int := if rfS D W x y = 0 then (slI (fun _ => true) (woI (ftP D W x y) (dyP D y) (D 0 1)) (ctI (ftP D W x y) 21) (D 0 8)).2 else rfS D W x y
theorem p_leaves {d : Nat} {h : zH} {D : Dk} {W : Rw} {x y : Int} (hd : 20 ≤ d) (VD : DV D) (RD : DC h 15 D) (RW : RC h W) (VW : RV W) : zMI d mX9_leaves [zA 0, zI x, zI y] h (fun r h' => r = a_leaves D W x y ∧ Fr sQ h h') := by
  obtain ⟨p, hp⟩ : ∃ p, pb0 D = p := ⟨_, rfl⟩
  obtain ⟨q, hq⟩ : ∃ q, planP p = q := ⟨_, rfl⟩
  have pd : pDays p = D 0 1 := by rw [← hp]; rfl
  have pn : pNb p = D 0 8 := by rw [← hp]; rfl
  have dy := VD.days
  have nb := VD.nb
  have ns := VD.ns
  have nl := VD.nl
  have na := VD.na
  have vfl := VD.fl
  have vfe := VD.fee
  refine zmet rfl rfl rfl ?_
  refine zS_aload_n (zdec eX9_leaves 0 rfl) rfl rfl ?_
  refine zS_iload_n (zdec eX9_leaves 1 rfl) rfl ?_
  refine zS_iload_n (zdec eX9_leaves 2 rfl) rfl ?_
  refine zvI (M' := mX9_refusedSeen) (As := [zI x, zI y]) (st := []) (zdec eX9_leaves 3 rfl) kM_X9_284 kV_X9_refusedSeen ⟨by decide, rfl⟩ rfl rfl rfl rfl rfl (by omega) (c_refS (by omega) VD RD RW VW) ?_
  refine zS_istore_n (zdec eX9_leaves 4 rfl) rfl ?_
  refine zS_iload_n (zdec eX9_leaves 5 rfl) rfl ?_
  refine zS_if_eq (tgt := 13) (zdec eX9_leaves 6 rfl) rfl (fun c1 => ?_) (fun c1 => ?_)
  · refine zS_aload_n (zdec eX9_leaves 9 rfl) rfl rfl ?_
    refine zS_getref (i := 7) (zdec eX9_leaves 10 rfl) kF_X9_56 ⟨by decide, rfl⟩ rfl rfl rfl rfl rfl ?_
    refine zS_aload_n (zdec eX9_leaves 11 rfl) rfl rfl ?_
    refine zS_getref (i := 1) (zdec eX9_leaves 12 rfl) kF_X9_19 ⟨by decide, rfl⟩ rfl rfl rfl rfl rfl ?_
    refine zS_aload_n (zdec eX9_leaves 13 rfl) rfl rfl ?_
    refine zS_getref (i := 5) (zdec eX9_leaves 14 rfl) kF_X9_42 ⟨by decide, rfl⟩ rfl rfl rfl rfl rfl ?_
    refine zS_iload_n (zdec eX9_leaves 15 rfl) rfl ?_
    refine zS_iload_n (zdec eX9_leaves 16 rfl) rfl ?_
    have r0 := rfS_0 VW c1
    have hd0 := VD.bill r0.1.2.1 r0.1.2.2
    refine zvMI (M' := mX5_fitting) (As := [zA 14, zA 67, zI x, zI y]) (st := []) (zdec eX9_leaves 17 rfl) kM_X9_287 kV_X5_fitting ⟨by decide, rfl⟩ rfl rfl rfl rfl rfl (by omega) (c_fitting (by omega) VD hd0 RD RW VW r0.1.1.1 r0.1.1.2 r0.1.2.1 r0.1.2.2 r0.2) (fun x5 h5 ⟨hx5, SN, f5⟩ => ?_)
    have RD5 : DC h5 15 D := RD.fr f5 (fun k j z => by omega)
    refine zS_istore (zdec eX9_leaves 18 rfl) rfl ?_
    refine zS_aload_n (zdec eX9_leaves 19 rfl) rfl rfl ?_
    refine zS_getref (i := 7) (zdec eX9_leaves 20 rfl) kF_X9_56 ⟨by decide, rfl⟩ rfl rfl rfl rfl rfl ?_
    refine zS_aload_n (zdec eX9_leaves 21 rfl) rfl rfl ?_
    refine zS_getref (i := 2) (zdec eX9_leaves 22 rfl) kF_X9_27 ⟨by decide, rfl⟩ rfl rfl rfl rfl rfl ?_
    refine zS_getfieldE (x := 8) (v := (D 0 8)) (zdec eX9_leaves 23 rfl) kF_X9_202 ⟨by decide, rfl⟩ rfl rfl rfl (RD5.s (by decide) (by decide)) ?_
    refine zS_aload_n (zdec eX9_leaves 24 rfl) rfl rfl ?_
    refine zS_getref (i := 2) (zdec eX9_leaves 25 rfl) kF_X9_27 ⟨by decide, rfl⟩ rfl rfl rfl rfl rfl ?_
    refine zS_getfieldE (x := 1) (v := (D 0 1)) (zdec eX9_leaves 26 rfl) kF_X9_127 ⟨by decide, rfl⟩ rfl rfl rfl (RD5.s (by decide) (by decide)) ?_
    refine zvI (M' := mX5_question) (As := [zI (D 0 8), zI (D 0 1)]) (st := []) (zdec eX9_leaves 27 rfl) kM_X9_297 kV_X5_question ⟨by decide, rfl⟩ rfl rfl rfl rfl rfl (by omega) (c_question SN (by omega) (by omega) (by omega) (by omega) (by omega)) ?_
    refine zS_istore (zdec eX9_leaves 28 rfl) rfl ?_
    refine zS_iload (zdec eX9_leaves 29 rfl) rfl ?_
    refine zS_iconst (zdec eX9_leaves 30 rfl) rfl ?_
    refine zS_icmp_ne (tgt := 66) (zdec eX9_leaves 31 rfl) rfl (fun c2 => ?_) (fun c2 => ?_)
    · have sv := (slI_v (c := fun _ => true) (f := woI (ftP D W x y) (dyP D y) (D 0 1)) (L := ctI (ftP D W x y) 21) (D 0 8) (by omega)).resolve_left (fun w => c2 w.1)
      refine zS_aload_n (zdec eX9_leaves 34 rfl) rfl rfl ?_
      refine zS_getref (i := 7) (zdec eX9_leaves 35 rfl) kF_X9_56 ⟨by decide, rfl⟩ rfl rfl rfl rfl rfl ?_
      refine zS_iload (zdec eX9_leaves 36 rfl) rfl ?_
      refine zS_aload_n (zdec eX9_leaves 37 rfl) rfl rfl ?_
      refine zS_getref (i := 2) (zdec eX9_leaves 38 rfl) kF_X9_27 ⟨by decide, rfl⟩ rfl rfl rfl rfl rfl ?_
      refine zS_getfieldE (x := 1) (v := (D 0 1)) (zdec eX9_leaves 39 rfl) kF_X9_127 ⟨by decide, rfl⟩ rfl rfl rfl (RD5.s (by decide) (by decide)) ?_
      refine zvI (M' := mX5_worst) (As := [zI ((slI (fun _ => true) (woI (ftP D W x y) (dyP D y) (D 0 1)) (ctI (ftP D W x y) 21) (D 0 8)).1), zI (D 0 1)]) (st := []) (zdec eX9_leaves 40 rfl) kM_X9_300 kV_X5_worst ⟨by decide, rfl⟩ rfl rfl rfl rfl rfl (by omega) (c_worst (c := (slI (fun _ => true) (woI (ftP D W x y) (dyP D y) (D 0 1)) (ctI (ftP D W x y) 21) (D 0 8)).1) SN (by omega) sv.1.1 sv.1.2 (by omega) (by omega) (by omega)) ?_
      exact zlMI (zdec eX9_leaves 41 rfl) rfl ⟨by unfold a_leaves; rw [if_pos c1, sv.2], f5⟩
    · have sv : (slI (fun _ => true) (woI (ftP D W x y) (dyP D y) (D 0 1)) (ctI (ftP D W x y) 21) (D 0 8)).1 = -1 ∧ (slI (fun _ => true) (woI (ftP D W x y) (dyP D y) (D 0 1)) (ctI (ftP D W x y) 21) (D 0 8)).2 = ctI (ftP D W x y) 21 := (slI_v _ (by omega)).resolve_right (fun w => by have := w.1.1; omega)
      refine zS_iload (zdec eX9_leaves 32 rfl) rfl ?_
      refine zS_goto (tgt := 82) (zdec eX9_leaves 33 rfl) rfl ?_
      exact zlMI (zdec eX9_leaves 41 rfl) rfl ⟨by unfold a_leaves; rw [if_pos c1, sv.2, hx5], f5⟩
  · refine zS_iload_n (zdec eX9_leaves 7 rfl) rfl ?_
    exact zlMI (zdec eX9_leaves 8 rfl) rfl ⟨by unfold a_leaves; rw [if_neg c1], Fr.rf⟩

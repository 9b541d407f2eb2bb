theorem bw_le {p : Pb} (V : PV p) : ∀ n : Nat, n ≤ 5 → bwN p n ≤ 8 ^ n := by
  have dy := V.days
  intro n
  induction n with
  | zero => intro _; show (1 : Int) ≤ 1; omega
  | succ n ih =>
    intro h
    have i := ih (by omega)
    have b0 := bw_pos V n
    show bwN p n * (pDays p + 1) ≤ 8 ^ (n + 1)
    have m : bwN p n * (pDays p + 1) ≤ bwN p n * 8 := Int.mul_le_mul_of_nonneg_left (by omega) (by omega)
    have e : (8 : Int) ^ (n + 1) = 8 ^ n * 8 := Int.pow_succ 8 n
    omega
theorem bwB {p : Pb} (V : PV p) {k : Int} (k0 : 0 ≤ k) (k1 : k ≤ pNb p) : 1 ≤ bwN p k.toNat ∧ bwN p k.toNat ≤ 32768 := by
  have nb := V.nb
  have h := bw_le V k.toNat (by omega)
  have h0 := bw_pos V k.toNat
  have hp : (8 : Int) ^ k.toNat ≤ 32768 := by
    have : (8 : Nat) ^ k.toNat ≤ 8 ^ 5 := Nat.pow_le_pow_right (by decide) (by omega)
    have t : ((8 ^ k.toNat : Nat) : Int) ≤ ((8 ^ 5 : Nat) : Int) := by exact_mod_cast this
    rw [Int.natCast_pow] at t
    exact t
  omega
/-- the least by another limit -/
theorem st_lim {p : Pb} (V : PV p) {fb fd L L' : Int} (hL : 20000 < L) (hL' : 20000 < L') : ∀ k : Int, 0 ≤ k → (stI p fb fd L k).2 = (stI p fb fd L' k).2 ∧ ((stI p fb fd L k).2 = -1 → (stI p fb fd L k).1 = L ∧ (stI p fb fd L' k).1 = L') ∧ ((stI p fb fd L k).2 ≠ -1 → (stI p fb fd L k).1 = (stI p fb fd L' k).1 ∧ (stI p fb fd L k).1 ≤ 20000) := by
  refine up_ind ⟨rfl, fun _ => ⟨rfl, rfl⟩, fun z => absurd rfl z⟩ (fun j hj ih => ?_)
  obtain ⟨i1, i2, i3⟩ := ih
  have tb := totB V (q := preP p (pNb p) j) (preP_rng V _ _)
  have tn : totN p j = totalP p (preP p (pNb p) j) := rfl
  rw [stI_s hj, stI_s hj]
  have e : decide (totN p j < (stI p fb fd L j).1) = decide (totN p j < (stI p fb fd L' j).1) := by
    by_cases c : (stI p fb fd L j).2 = -1
    · have := i2 c
      rw [this.1, this.2, decide_eq_true (by omega), decide_eq_true (by omega)]
    · rw [(i3 c).1]
  rw [e]
  split
  · exact ⟨rfl, fun z => by have : j = -1 := z; omega, fun _ => ⟨rfl, by show totN p j ≤ 20000; omega⟩⟩
  · exact ⟨i1, i2, i3⟩
theorem stA_lim {p : Pb} (V : PV p) {fb fd L L' : Int} (hL : 20000 < L) (hL' : 20000 < L') : (stA p fb fd L).2 = (stA p fb fd L').2 ∧ ((stA p fb fd L).2 = -1 → (stA p fb fd L).1 = L ∧ (stA p fb fd L').1 = L') ∧ ((stA p fb fd L).2 ≠ -1 → (stA p fb fd L).1 = (stA p fb fd L').1 ∧ (stA p fb fd L).1 ≤ 20000) := st_lim V hL hL' _ (by have := bw_pos V (pNb p).toNat; omega)
theorem st_le {p : Pb} {fb fd L : Int} : ∀ k : Int, 0 ≤ k → ∀ n, 0 ≤ n → n < k → okN p fb fd n = true → (stI p fb fd L k).1 ≤ totN p n := by
  refine up_ind (fun n a b => by omega) (fun j hj ih n n0 n1 ok => ?_)
  rw [stI_s hj]
  by_cases e : n = j
  · subst e
    rw [ok, Bool.true_and]
    split
    · exact Int.le_refl _
    · rename_i z
      have := of_decide_eq_false (Bool.eq_false_iff.mpr z)
      omega
  · have := ih n n0 (by omega) ok
    split
    · rename_i z
      rw [Bool.and_eq_true, decide_eq_true_eq] at z
      show totN p j ≤ totN p n
      omega
    · exact this
theorem st_at {p : Pb} {fb fd L : Int} : ∀ k : Int, 0 ≤ k → (stI p fb fd L k).1 = L ∨ ∃ n, 0 ≤ n ∧ n < k ∧ okN p fb fd n = true ∧ (stI p fb fd L k).1 = totN p n := by
  refine up_ind (Or.inl rfl) (fun j hj ih => ?_)
  rw [stI_s hj]
  split
  · rename_i z
    rw [Bool.and_eq_true] at z
    exact Or.inr ⟨j, hj, by omega, z.1, rfl⟩
  · rcases ih with z | ⟨n, n0, n1, n2, n3⟩
    · exact Or.inl z
    · exact Or.inr ⟨n, n0, by omega, n2, n3⟩
theorem st_lt {p : Pb} {fb fd L : Int} : ∀ k : Int, 0 ≤ k → (stI p fb fd L k).1 ≤ L := by
  refine up_ind (Int.le_refl _) (fun j hj ih => ?_)
  rw [stI_s hj]
  split
  · rename_i z
    rw [Bool.and_eq_true, decide_eq_true_eq] at z
    show totN p j ≤ L
    omega
  · exact ih
theorem ok_any {p : Pb} {fb fd n : Int} (h : okN p fb fd n = true) : okN p (-1) (-1) n = true := by
  unfold okN at h ⊢
  rw [Bool.and_eq_true] at h
  rw [h.2]
  rfl
theorem may_eq {p : Pb} (V : PV p) {x y m L : Int} (hL : 20000 < L) (hm : m = (stA p (-1) (-1) L).1) : ((stA p x y (m + 1)).1 = m ↔ (stA p x y L).1 = m) := by
  have bp := bw_pos V (pNb p).toNat
  have fo := stA_found V hL
  have mn : ∀ n, 0 ≤ n → n < bwN p (pNb p).toNat → okN p x y n = true → m ≤ totN p n := fun n n0 n1 ok => by rw [hm]; exact st_le _ (by omega) n n0 n1 (ok_any ok)
  have ml : m ≤ 20000 := by rw [hm]; exact fo.2
  constructor
  · intro h
    rcases st_at (p := p) (fb := x) (fd := y) (L := m + 1) (bwN p (pNb p).toNat) (by omega) with z | ⟨n, n0, n1, n2, n3⟩
    · have : (stA p x y (m + 1)).1 = m + 1 := z
      omega
    · have e : totN p n = m := by have : (stA p x y (m + 1)).1 = totN p n := n3; omega
      have l1 : (stA p x y L).1 ≤ totN p n := st_le _ (by omega) n n0 n1 n2
      rcases st_at (p := p) (fb := x) (fd := y) (L := L) (bwN p (pNb p).toNat) (by omega) with z | ⟨k, k0, k1, k2, k3⟩
      · have : (stA p x y L).1 = L := z
        omega
      · have := mn k k0 k1 k2
        have : (stA p x y L).1 = totN p k := k3
        omega
  · intro h
    rcases st_at (p := p) (fb := x) (fd := y) (L := L) (bwN p (pNb p).toNat) (by omega) with z | ⟨k, k0, k1, k2, k3⟩
    · have : (stA p x y L).1 = L := z
      omega
    · have e : totN p k = m := by have : (stA p x y L).1 = totN p k := k3; omega
      have l1 : (stA p x y (m + 1)).1 ≤ totN p k := st_le _ (by omega) k k0 k1 k2
      rcases st_at (p := p) (fb := x) (fd := y) (L := m + 1) (bwN p (pNb p).toNat) (by omega) with z | ⟨n, n0, n1, n2, n3⟩
      · have : (stA p x y (m + 1)).1 = m + 1 := z
        omega
      · have := mn n n0 n1 n2
        have : (stA p x y (m + 1)).1 = totN p n := n3
        omega
theorem L_rall {d : Nat} {h : zH} {p : Pb} (hd : 2 ≤ d) (V : PV p) (R : WR h p) : ∀ (n : Nat) (e : Int), 0 ≤ e → e + n = pNb p → zS mX10_allPlans (zr d) 4 [zA 108, zI (bwN p e.toNat), zI e] [] TT h (zOne (bwN p (pNb p).toNat) h) := by
  intro n
  induction n with
  | zero =>
    intro e a1 a2
    refine zS_iload_n (zdec eX10_allPlans 4 rfl) rfl ?_
    refine zS_aload_n (zdec eX10_allPlans 5 rfl) rfl rfl ?_
    refine zvI (M' := mX10_bills) (As := []) (st := [zI e]) (zdec eX10_allPlans 6 rfl) kM_X10_236 kV_X10_bills ⟨by decide, rfl⟩ rfl rfl rfl rfl rfl (by omega) (r_bills R) ?_
    refine zS_icmp_ge (tgt := 27) (zdec eX10_allPlans 7 rfl) rfl (fun cz => ?_) (fun cz => absurd (by omega) cz)
    refine zS_iload_n (zdec eX10_allPlans 17 rfl) rfl ?_
    exact zlI (zdec eX10_allPlans 18 rfl) rfl (by rw [show e = pNb p by omega])
  | succ n ih =>
    intro e a1 a2
    have nb := V.nb
    have dy := V.days
    have bb := bwB V a1 (show e ≤ pNb p by omega)
    have mm := mulB (a := bwN p e.toNat) (b := pDays p + 1) (A := 32768) (B := 8) (by omega) bb.2 (by omega) (by omega)
    refine zS_iload_n (zdec eX10_allPlans 4 rfl) rfl ?_
    refine zS_aload_n (zdec eX10_allPlans 5 rfl) rfl rfl ?_
    refine zvI (M' := mX10_bills) (As := []) (st := [zI e]) (zdec eX10_allPlans 6 rfl) kM_X10_236 kV_X10_bills ⟨by decide, rfl⟩ rfl rfl rfl rfl rfl (by omega) (r_bills R) ?_
    refine zS_icmp_ge (tgt := 27) (zdec eX10_allPlans 7 rfl) rfl (fun cz => absurd cz (by omega)) (fun cz => ?_)
    refine zS_iload_n (zdec eX10_allPlans 8 rfl) rfl ?_
    refine zS_aload_n (zdec eX10_allPlans 9 rfl) rfl rfl ?_
    refine zvI (M' := mX10_days) (As := []) (st := [zI (bwN p e.toNat)]) (zdec eX10_allPlans 10 rfl) kM_X10_240 kV_X10_days ⟨by decide, rfl⟩ rfl rfl rfl rfl rfl (by omega) (r_days R) ?_
    refine zS_iconst (zdec eX10_allPlans 11 rfl) rfl ?_
    refine zS_iadd (zdec eX10_allPlans 12 rfl) ⟨by omega, by omega⟩ ?_
    refine zS_imul (zdec eX10_allPlans 13 rfl) ⟨by omega, by omega⟩ ?_
    refine zS_istore_n (zdec eX10_allPlans 14 rfl) rfl ?_
    refine zS_iinc (zdec eX10_allPlans 15 rfl) rfl rfl ⟨by omega, by omega⟩ ?_
    refine zS_goto (tgt := 4) (zdec eX10_allPlans 16 rfl) rfl ?_
    have k := ih (e + 1) (by omega) (by omega)
    rw [show (e + 1).toNat = e.toNat + 1 by omega] at k
    exact k
theorem r_allPlans {d : Nat} {h : zH} {p : Pb} (hd : 2 ≤ d) (V : PV p) (R : WR h p) : zPI d mX10_allPlans [zA 108] h (bwN p (pNb p).toNat) := by
  have nb := V.nb
  refine zmet rfl rfl rfl ?_
  refine zS_iconst (zdec eX10_allPlans 0 rfl) rfl ?_
  refine zS_istore_n (zdec eX10_allPlans 1 rfl) rfl ?_
  refine zS_iconst (zdec eX10_allPlans 2 rfl) rfl ?_
  refine zS_istore_n (zdec eX10_allPlans 3 rfl) rfl ?_
  exact L_rall hd V R (pNb p).toNat 0 (by omega) (by omega)
theorem L_rnth {d : Nat} {h : zH} {p : Pb} {x : Int} (hd : 2 ≤ d) (V : PV p) (R : WR h p) : ∀ (n : Nat) (e m : Int) (h1 : zH), -1 ≤ e → e + 1 = n → e < pNb p → 0 ≤ m → m ≤ 32768 → Fr (fun k _ => k = 123) h h1 → (∀ c, 0 ≤ c → c ≤ e → preP p (e + 1) m c = preP p (pNb p) x c) → (∀ c, e < c → c < pNb p → h1 123 c = preP p (pNb p) x c) → zS mX10_laysNth (zr d) 9 [zA 108, zI x, zI m, zI e] [] TT h1 (zAnV (fun h' => PlR h' p (preP p (pNb p) x) ∧ Fr (fun k _ => k = 123) h h')) := by
  intro n
  induction n with
  | zero =>
    intro e m h1 a1 a2 eb m0 m1 i1 i3 i2
    have R0 := R
    have R : WR h1 p := R.fr i1 (fun k j z => by unfold wrP; omega)
    have nb := V.nb
    have dy := V.days
    refine zS_iload_n (zdec eX10_laysNth 7 rfl) rfl ?_
    refine zS_if_lt (tgt := 42) (zdec eX10_laysNth 8 rfl) rfl (fun cz => ?_) (fun cz => absurd (by omega) cz)
    exact zlMV (zdec eX10_laysNth 28 rfl) rfl ⟨fun b b0 b1 => i2 b (by omega) b1, i1⟩
  | succ n ih =>
    intro e m h1 a1 a2 eb m0 m1 i1 i3 i2
    have R0 := R
    have R : WR h1 p := R.fr i1 (fun k j z => by unfold wrP; omega)
    have nb := V.nb
    have dy := V.days
    refine zS_iload_n (zdec eX10_laysNth 7 rfl) rfl ?_
    refine zS_if_lt (tgt := 42) (zdec eX10_laysNth 8 rfl) rfl (fun cz => absurd cz (by omega)) (fun cz => ?_)
    refine zS_aload_n (zdec eX10_laysNth 9 rfl) rfl rfl ?_
    refine zS_getref (i := 69) (zdec eX10_laysNth 10 rfl) kF_X10_59 ⟨by decide, rfl⟩ rfl rfl rfl rfl rfl ?_
    refine zS_iload_n (zdec eX10_laysNth 11 rfl) rfl ?_
    refine zS_iload_n (zdec eX10_laysNth 12 rfl) rfl ?_
    refine zS_aload_n (zdec eX10_laysNth 13 rfl) rfl rfl ?_
    refine zvI (M' := mX10_days) (As := []) (st := [zI m, zI e, zA 123]) (zdec eX10_laysNth 14 rfl) kM_X10_240 kV_X10_days ⟨by decide, rfl⟩ rfl rfl rfl rfl rfl (by omega) (r_days R) ?_
    refine zS_iconst (zdec eX10_laysNth 15 rfl) rfl ?_
    refine zS_iadd (zdec eX10_laysNth 16 rfl) ⟨by omega, by omega⟩ ?_
    refine zS_irem (zdec eX10_laysNth 17 rfl) (by omega) (fun q => by omega) ?_
    refine zS_iastore (zdec eX10_laysNth 18 rfl) ⟨by decide, rfl⟩ (by omega) (by omega) ?_
    refine zS_iload_n (zdec eX10_laysNth 19 rfl) rfl ?_
    refine zS_aload_n (zdec eX10_laysNth 20 rfl) rfl rfl ?_
    refine zvI (M' := mX10_days) (As := []) (st := [zI m]) (zdec eX10_laysNth 21 rfl) kM_X10_240 kV_X10_days ⟨by decide, rfl⟩ rfl rfl rfl rfl rfl (by omega) (r_days R) ?_
    refine zS_iconst (zdec eX10_laysNth 22 rfl) rfl ?_
    refine zS_iadd (zdec eX10_laysNth 23 rfl) ⟨by omega, by omega⟩ ?_
    refine zS_idiv (zdec eX10_laysNth 24 rfl) (by omega) (fun q => by omega) ?_
    refine zS_istore_n (zdec eX10_laysNth 25 rfl) rfl ?_
    refine zS_iinc (zdec eX10_laysNth 26 rfl) rfl rfl ⟨by omega, by omega⟩ ?_
    refine zS_goto (tgt := 9) (zdec eX10_laysNth 27 rfl) rfl ?_
    have t1 : m.tmod (pDays p + 1) = m % (pDays p + 1) := Int.tmod_eq_emod_of_nonneg m0
    have t2 : m.tdiv (pDays p + 1) = m / (pDays p + 1) := Int.tdiv_eq_ediv_of_nonneg m0
    rw [t1, t2, show e + -1 = e - 1 by omega]
    have pe : ∀ c, preP p (e + 1) m c = updI (preP p e (m / (pDays p + 1))) e (m % (pDays p + 1)) c := fun c => by rw [preP_p (by omega)]
    have dl : m / (pDays p + 1) ≤ m := Int.ediv_le_self _ m0
    refine ih (e - 1) _ _ (by omega) (by omega) (by omega) (Int.ediv_nonneg m0 (by omega)) (by omega) (i1.set (by omega)) (fun c c0 c1 => ?_) (fun c c0 c1 => ?_)
    · rw [show e - 1 + 1 = e by omega, ← i3 c c0 (by omega), pe c, updI_n (by omega)]
    · by_cases w : c = e
      · rw [w, zset_s, ← i3 e (by omega) (by omega), pe e, updI_s]
      · rw [zset_j w]; exact i2 c (by omega) c1
theorem r_laysNth {d : Nat} {h : zH} {p : Pb} {x : Int} (hd : 2 ≤ d) (V : PV p) (R : WR h p) (x0 : 0 ≤ x) (x1 : x ≤ 32768) : zMV d mX10_laysNth [zA 108, zI x] h (fun h' => PlR h' p (preP p (pNb p) x) ∧ Fr (fun k _ => k = 123) h h') := by
  have nb := V.nb
  refine zmet rfl rfl rfl ?_
  refine zS_iload_n (zdec eX10_laysNth 0 rfl) rfl ?_
  refine zS_istore_n (zdec eX10_laysNth 1 rfl) rfl ?_
  refine zS_aload_n (zdec eX10_laysNth 2 rfl) rfl rfl ?_
  refine zvI (M' := mX10_bills) (As := []) (st := []) (zdec eX10_laysNth 3 rfl) kM_X10_236 kV_X10_bills ⟨by decide, rfl⟩ rfl rfl rfl rfl rfl (by omega) (r_bills R) ?_
  refine zS_iconst (zdec eX10_laysNth 4 rfl) rfl ?_
  refine zS_isub (zdec eX10_laysNth 5 rfl) ⟨by omega, by omega⟩ ?_
  refine zS_istore_n (zdec eX10_laysNth 6 rfl) rfl ?_
  exact L_rnth hd V R (pNb p).toNat (pNb p - 1) x h (by omega) (by omega) (by omega) x0 x1 Fr.rf (fun c c0 c1 => by rw [show pNb p - 1 + 1 = pNb p by omega]) (fun c c0 c1 => by omega)
theorem L_rbest {d : Nat} {h : zH} {p : Pb} {x y : Int} (hd : 12 ≤ d) (V : PV p) (hin : ∀ b, 0 ≤ b → b < pNb p → pIn p b = true) (hx : x = -1 ∨ (0 ≤ x ∧ x < pNb p)) : ∀ (n : Nat) (e : Int) (h1 : zH), 0 ≤ e → e + n = bwN p (pNb p).toNat → WR h1 p → h1 108 35 = (stI p x y 100000000 e).1 → h1 108 36 = (stI p x y 100000000 e).2 → Fr (fun k j => (k = 108 ∧ ((23 ≤ j ∧ j ≤ 28) ∨ j = 35 ∨ j = 36)) ∨ (121 ≤ k ∧ k ≤ 124)) h h1 → zS mX10_laysBest (zr d) 24 [zA 108, zI x, zI y, zI (bwN p (pNb p).toNat), zI e, zN] [] TT h1 (zAnV (fun h' => WR h' p ∧ h' 108 35 = (stA p x y 100000000).1 ∧ h' 108 36 = (stA p x y 100000000).2 ∧ Fr (fun k j => (k = 108 ∧ ((23 ≤ j ∧ j ≤ 28) ∨ j = 35 ∨ j = 36)) ∨ (121 ≤ k ∧ k ≤ 124)) h h')) := by
  intro n
  induction n with
  | zero =>
    intro e h1 a1 a2 R b35 b36 i1
    refine zS_iload (zdec eX10_laysBest 13 rfl) rfl ?_
    refine zS_iload_n (zdec eX10_laysBest 14 rfl) rfl ?_
    refine zS_icmp_ge (tgt := 97) (zdec eX10_laysBest 15 rfl) rfl (fun cz => ?_) (fun cz => absurd (by omega) cz)
    exact zlMV (zdec eX10_laysBest 48 rfl) rfl ⟨R, by rw [b35, show e = bwN p (pNb p).toNat by omega]; rfl, by rw [b36, show e = bwN p (pNb p).toNat by omega]; rfl, i1⟩
  | succ n ih =>
    intro e h1 a1 a2 R b35 b36 i1
    have nb := V.nb
    have bb := bwB V (k := pNb p) nb.1 (Int.le_refl _)
    refine zS_iload (zdec eX10_laysBest 13 rfl) rfl ?_
    refine zS_iload_n (zdec eX10_laysBest 14 rfl) rfl ?_
    refine zS_icmp_ge (tgt := 97) (zdec eX10_laysBest 15 rfl) rfl (fun cz => absurd cz (by omega)) (fun cz => ?_)
    refine zS_aload_n (zdec eX10_laysBest 16 rfl) rfl rfl ?_
    refine zS_iload (zdec eX10_laysBest 17 rfl) rfl ?_
    refine zvMV (M' := mX10_laysNth) (As := [zI e]) (st := []) (zdec eX10_laysBest 18 rfl) kM_X10_388 kV_X10_laysNth ⟨by decide, rfl⟩ rfl rfl rfl rfl rfl (by omega) (r_laysNth (by omega) V R a1 (by omega)) (fun h3 ⟨S3, g3⟩ => ?_)
    have R3 : WR h3 p := R.fr g3 (fun k j z => by unfold wrP; omega)
    have f3 : Fr (fun k j => (k = 108 ∧ ((23 ≤ j ∧ j ≤ 28) ∨ j = 35 ∨ j = 36)) ∨ (121 ≤ k ∧ k ≤ 124)) h h3 := i1.tr g3 (fun k j z => z) (fun k j z => by omega)
    have q0 : ∀ b, 0 ≤ preP p (pNb p) e b := fun b => (preP_rng V _ _ b).1
    have q1 : ∀ b, preP p (pNb p) e b ≤ pDays p := fun b => (preP_rng V _ _ b).2
    refine zS_iload_n (zdec eX10_laysBest 19 rfl) rfl ?_
    refine zS_iconst (zdec eX10_laysBest 20 rfl) rfl ?_
    refine zS_icmp_eq (tgt := 54) (zdec eX10_laysBest 21 rfl) rfl (fun c1 => ?_) (fun c1 => ?_)
    · refine zS_aload_n (zdec eX10_laysBest 29 rfl) rfl rfl ?_
      refine zvI (M' := mX10_totalNow) (As := []) (st := []) (zdec eX10_laysBest 30 rfl) kM_X10_358 kV_X10_totalNow ⟨by decide, rfl⟩ rfl rfl rfl rfl rfl (by omega) (show zPI (d - 1) mX10_totalNow [zA 108] h3 (totN p e) from r_totalNow (by omega) V R3 S3 q0 q1) ?_
      refine zS_istore (zdec eX10_laysBest 31 rfl) rfl ?_
      refine zS_iload (zdec eX10_laysBest 32 rfl) rfl ?_
      refine zS_aload_n (zdec eX10_laysBest 33 rfl) rfl rfl ?_
      refine zS_getfieldE (x := 35) (v := ((stI p x y 100000000 e).1)) (zdec eX10_laysBest 34 rfl) kF_X10_379 ⟨by decide, rfl⟩ rfl rfl rfl ((g3 _ _ (by omega)).trans b35) ?_
      refine zS_icmp_ge (tgt := 91) (zdec eX10_laysBest 35 rfl) rfl (fun c2 => ?_) (fun c2 => ?_)
      · refine zS_iinc (zdec eX10_laysBest 46 rfl) rfl rfl ⟨by omega, by omega⟩ ?_
        refine zS_goto (tgt := 24) (zdec eX10_laysBest 47 rfl) rfl ?_
        refine zS_forget (i := 5) ?_
        have okx : (x == -1 || preP p (pNb p) e x == y) = true := by rw [(show (x == -1) = true by simpa using c1)]; rfl
        have no : stI p x y 100000000 (e + 1) = (stI p x y 100000000 e) := by rw [stI_s a1, decide_eq_false (by omega), Bool.and_false, if_neg (by decide)]
        exact ih (e + 1) h3 (by omega) (by omega) R3 (by rw [no, g3 _ _ (by omega)]; exact b35) (by rw [no, g3 _ _ (by omega)]; exact b36) f3
      · refine zS_aload_n (zdec eX10_laysBest 36 rfl) rfl rfl ?_
        refine zvMI (M' := mX10_isLawful) (As := []) (st := []) (zdec eX10_laysBest 37 rfl) kM_X10_376 kV_X10_isLawful ⟨by decide, rfl⟩ rfl rfl rfl rfl rfl (by omega) (r_isLawful (by omega) V R3 S3 hin q0 q1) (fun x5 h5 ⟨e5, g5⟩ => ?_)
        have R5 : WR h5 p := R3.fr g5 (fun k j z => by unfold wrP; omega)
        have f5 : Fr (fun k j => (k = 108 ∧ ((23 ≤ j ∧ j ≤ 28) ∨ j = 35 ∨ j = 36)) ∨ (121 ≤ k ∧ k ≤ 124)) h h5 := f3.tr g5 (fun k j z => z) (fun k j z => by omega)
        refine zS_if_ne (tgt := 79) (zdec eX10_laysBest 38 rfl) rfl (fun c3 => ?_) (fun c3 => ?_)
        · refine zS_aload_n (zdec eX10_laysBest 40 rfl) rfl rfl ?_
          refine zS_iload (zdec eX10_laysBest 41 rfl) rfl ?_
          refine zS_putfield (x := 35) (zdec eX10_laysBest 42 rfl) kF_X10_379 (Or.inl kf10_35) ⟨by decide, rfl⟩ rfl rfl rfl (Or.inl (fun q => by cases q)) ?_
          refine zS_aload_n (zdec eX10_laysBest 43 rfl) rfl rfl ?_
          refine zS_iload (zdec eX10_laysBest 44 rfl) rfl ?_
          refine zS_putfield (x := 36) (zdec eX10_laysBest 45 rfl) kF_X10_382 (Or.inl kf10_36) ⟨by decide, rfl⟩ rfl rfl rfl (Or.inl (fun q => by cases q)) ?_
          refine zS_iinc (zdec eX10_laysBest 46 rfl) rfl rfl ⟨by omega, by omega⟩ ?_
          refine zS_goto (tgt := 24) (zdec eX10_laysBest 47 rfl) rfl ?_
          refine zS_forget (i := 5) ?_
          have okx : (x == -1 || preP p (pNb p) e x == y) = true := by rw [(show (x == -1) = true by simpa using c1)]; rfl
          have ye : stI p x y 100000000 (e + 1) = (totN p e, e) := by rw [stI_s a1, show okN p x y e = true by unfold okN; rw [okx, show lawP p (preP p (pNb p) e) = true from b2i_n.mp (by omega)]; rfl, Bool.true_and, if_pos (decide_eq_true (by omega))]
          exact ih (e + 1) _ (by omega) (by omega) ((R5.set (by unfold wrP; omega)).set (by unfold wrP; omega)) (by rw [ye, zset_n (by omega), zset_s]) (by rw [ye, zset_s]) ((f5.set (by omega)).set (by omega))
        · refine zS_goto (tgt := 91) (zdec eX10_laysBest 39 rfl) rfl ?_
          refine zS_iinc (zdec eX10_laysBest 46 rfl) rfl rfl ⟨by omega, by omega⟩ ?_
          refine zS_goto (tgt := 24) (zdec eX10_laysBest 47 rfl) rfl ?_
          refine zS_forget (i := 5) ?_
          have okx : (x == -1 || preP p (pNb p) e x == y) = true := by rw [(show (x == -1) = true by simpa using c1)]; rfl
          have no : stI p x y 100000000 (e + 1) = (stI p x y 100000000 e) := by rw [stI_s a1, show okN p x y e = false by unfold okN; rw [show lawP p (preP p (pNb p) e) = false from b2i_0.mp (by omega), Bool.and_false], Bool.false_and, if_neg (by decide)]
          exact ih (e + 1) h5 (by omega) (by omega) R5 (by rw [no, g5 _ _ (by omega), g3 _ _ (by omega)]; exact b35) (by rw [no, g5 _ _ (by omega), g3 _ _ (by omega)]; exact b36) f5
    · refine zS_aload_n (zdec eX10_laysBest 22 rfl) rfl rfl ?_
      refine zS_getref (i := 69) (zdec eX10_laysBest 23 rfl) kF_X10_59 ⟨by decide, rfl⟩ rfl rfl rfl rfl rfl ?_
      refine zS_iload_n (zdec eX10_laysBest 24 rfl) rfl ?_
      refine zS_ialoadE (v := (preP p (pNb p) e x)) (zdec eX10_laysBest 25 rfl) ⟨by decide, rfl⟩ (by omega) (by omega) (S3 _ (by omega) (by omega)) ?_
      refine zS_iload_n (zdec eX10_laysBest 26 rfl) rfl ?_
      refine zS_icmp_eq (tgt := 54) (zdec eX10_laysBest 27 rfl) rfl (fun c2 => ?_) (fun c2 => ?_)
      · refine zS_aload_n (zdec eX10_laysBest 29 rfl) rfl rfl ?_
        refine zvI (M' := mX10_totalNow) (As := []) (st := []) (zdec eX10_laysBest 30 rfl) kM_X10_358 kV_X10_totalNow ⟨by decide, rfl⟩ rfl rfl rfl rfl rfl (by omega) (show zPI (d - 1) mX10_totalNow [zA 108] h3 (totN p e) from r_totalNow (by omega) V R3 S3 q0 q1) ?_
        refine zS_istore (zdec eX10_laysBest 31 rfl) rfl ?_
        refine zS_iload (zdec eX10_laysBest 32 rfl) rfl ?_
        refine zS_aload_n (zdec eX10_laysBest 33 rfl) rfl rfl ?_
        refine zS_getfieldE (x := 35) (v := ((stI p x y 100000000 e).1)) (zdec eX10_laysBest 34 rfl) kF_X10_379 ⟨by decide, rfl⟩ rfl rfl rfl ((g3 _ _ (by omega)).trans b35) ?_
        refine zS_icmp_ge (tgt := 91) (zdec eX10_laysBest 35 rfl) rfl (fun c3 => ?_) (fun c3 => ?_)
        · refine zS_iinc (zdec eX10_laysBest 46 rfl) rfl rfl ⟨by omega, by omega⟩ ?_
          refine zS_goto (tgt := 24) (zdec eX10_laysBest 47 rfl) rfl ?_
          refine zS_forget (i := 5) ?_
          have okx : (x == -1 || preP p (pNb p) e x == y) = true := by rw [show (preP p (pNb p) e x == y) = true by simpa using c2, Bool.or_true]
          have no : stI p x y 100000000 (e + 1) = (stI p x y 100000000 e) := by rw [stI_s a1, decide_eq_false (by omega), Bool.and_false, if_neg (by decide)]
          exact ih (e + 1) h3 (by omega) (by omega) R3 (by rw [no, g3 _ _ (by omega)]; exact b35) (by rw [no, g3 _ _ (by omega)]; exact b36) f3
        · refine zS_aload_n (zdec eX10_laysBest 36 rfl) rfl rfl ?_
          refine zvMI (M' := mX10_isLawful) (As := []) (st := []) (zdec eX10_laysBest 37 rfl) kM_X10_376 kV_X10_isLawful ⟨by decide, rfl⟩ rfl rfl rfl rfl rfl (by omega) (r_isLawful (by omega) V R3 S3 hin q0 q1) (fun x5 h5 ⟨e5, g5⟩ => ?_)
          have R5 : WR h5 p := R3.fr g5 (fun k j z => by unfold wrP; omega)
          have f5 : Fr (fun k j => (k = 108 ∧ ((23 ≤ j ∧ j ≤ 28) ∨ j = 35 ∨ j = 36)) ∨ (121 ≤ k ∧ k ≤ 124)) h h5 := f3.tr g5 (fun k j z => z) (fun k j z => by omega)
          refine zS_if_ne (tgt := 79) (zdec eX10_laysBest 38 rfl) rfl (fun c4 => ?_) (fun c4 => ?_)
          · refine zS_aload_n (zdec eX10_laysBest 40 rfl) rfl rfl ?_
            refine zS_iload (zdec eX10_laysBest 41 rfl) rfl ?_
            refine zS_putfield (x := 35) (zdec eX10_laysBest 42 rfl) kF_X10_379 (Or.inl kf10_35) ⟨by decide, rfl⟩ rfl rfl rfl (Or.inl (fun q => by cases q)) ?_
            refine zS_aload_n (zdec eX10_laysBest 43 rfl) rfl rfl ?_
            refine zS_iload (zdec eX10_laysBest 44 rfl) rfl ?_
            refine zS_putfield (x := 36) (zdec eX10_laysBest 45 rfl) kF_X10_382 (Or.inl kf10_36) ⟨by decide, rfl⟩ rfl rfl rfl (Or.inl (fun q => by cases q)) ?_
            refine zS_iinc (zdec eX10_laysBest 46 rfl) rfl rfl ⟨by omega, by omega⟩ ?_
            refine zS_goto (tgt := 24) (zdec eX10_laysBest 47 rfl) rfl ?_
            refine zS_forget (i := 5) ?_
            have okx : (x == -1 || preP p (pNb p) e x == y) = true := by rw [show (preP p (pNb p) e x == y) = true by simpa using c2, Bool.or_true]
            have ye : stI p x y 100000000 (e + 1) = (totN p e, e) := by rw [stI_s a1, show okN p x y e = true by unfold okN; rw [okx, show lawP p (preP p (pNb p) e) = true from b2i_n.mp (by omega)]; rfl, Bool.true_and, if_pos (decide_eq_true (by omega))]
            exact ih (e + 1) _ (by omega) (by omega) ((R5.set (by unfold wrP; omega)).set (by unfold wrP; omega)) (by rw [ye, zset_n (by omega), zset_s]) (by rw [ye, zset_s]) ((f5.set (by omega)).set (by omega))
          · refine zS_goto (tgt := 91) (zdec eX10_laysBest 39 rfl) rfl ?_
            refine zS_iinc (zdec eX10_laysBest 46 rfl) rfl rfl ⟨by omega, by omega⟩ ?_
            refine zS_goto (tgt := 24) (zdec eX10_laysBest 47 rfl) rfl ?_
            refine zS_forget (i := 5) ?_
            have okx : (x == -1 || preP p (pNb p) e x == y) = true := by rw [show (preP p (pNb p) e x == y) = true by simpa using c2, Bool.or_true]
            have no : stI p x y 100000000 (e + 1) = (stI p x y 100000000 e) := by rw [stI_s a1, show okN p x y e = false by unfold okN; rw [show lawP p (preP p (pNb p) e) = false from b2i_0.mp (by omega), Bool.and_false], Bool.false_and, if_neg (by decide)]
            exact ih (e + 1) h5 (by omega) (by omega) R5 (by rw [no, g5 _ _ (by omega), g3 _ _ (by omega)]; exact b35) (by rw [no, g5 _ _ (by omega), g3 _ _ (by omega)]; exact b36) f5
      · refine zS_goto (tgt := 91) (zdec eX10_laysBest 28 rfl) rfl ?_
        refine zS_iinc (zdec eX10_laysBest 46 rfl) rfl rfl ⟨by omega, by omega⟩ ?_
        refine zS_goto (tgt := 24) (zdec eX10_laysBest 47 rfl) rfl ?_
        have no : stI p x y 100000000 (e + 1) = (stI p x y 100000000 e) := by rw [stI_s a1, show okN p x y e = false by unfold okN; rw [show (x == -1) = false by simpa using c1, show (preP p (pNb p) e x == y) = false by simpa using c2]; rfl, Bool.false_and, if_neg (by decide)]
        exact ih (e + 1) h3 (by omega) (by omega) R3 (by rw [no, g3 _ _ (by omega)]; exact b35) (by rw [no, g3 _ _ (by omega)]; exact b36) f3
theorem r_laysBest {d : Nat} {h : zH} {D : Dk} {p : Pb} {x y : Int} (hd : 12 ≤ d) (V : PV p) (hin : ∀ b, 0 ≤ b → b < pNb p → pIn p b = true) (hx : x = -1 ∨ (0 ≤ x ∧ x < pNb p)) (hp : pb0 D = p) (VD : DV D) (hd0 : 0 < D 0 0) (RD : DR h 0 D) : zMV d mX10_laysBest [zA 108, zI x, zI y] h (fun h' => WR h' p ∧ h' 108 35 = (stA p x y 100000000).1 ∧ h' 108 36 = (stA p x y 100000000).2 ∧ Fr (fun k j => (k = 108 ∧ ((23 ≤ j ∧ j ≤ 28) ∨ j = 35 ∨ j = 36)) ∨ (121 ≤ k ∧ k ≤ 124)) h h') := by
  have bp := bw_pos V (pNb p).toNat
  refine zmet rfl rfl rfl ?_
  refine zS_aload_n (zdec eX10_laysBest 0 rfl) rfl rfl ?_
  refine zvMV (M' := mX10_lays) (As := []) (st := []) (zdec eX10_laysBest 1 rfl) kM_X10_314 kV_X10_lays ⟨by decide, rfl⟩ rfl rfl rfl rfl rfl (by omega) (r_lays (by omega) VD hd0 RD) (fun h2 ⟨R, cl2, g2⟩ => ?_)
  rw [hp] at R
  refine zS_aload_n (zdec eX10_laysBest 2 rfl) rfl rfl ?_
  refine zS_ldc_w (zdec eX10_laysBest 3 rfl) kc_X10_310 rfl ?_
  refine zS_putfield (x := 35) (zdec eX10_laysBest 4 rfl) kF_X10_379 (Or.inl kf10_35) ⟨by decide, rfl⟩ rfl rfl rfl (Or.inl (fun q => by cases q)) ?_
  refine zS_aload_n (zdec eX10_laysBest 5 rfl) rfl rfl ?_
  refine zS_iconst (zdec eX10_laysBest 6 rfl) rfl ?_
  refine zS_putfield (x := 36) (zdec eX10_laysBest 7 rfl) kF_X10_382 (Or.inl kf10_36) ⟨by decide, rfl⟩ rfl rfl rfl (Or.inl (fun q => by cases q)) ?_
  refine zS_aload_n (zdec eX10_laysBest 8 rfl) rfl rfl ?_
  refine zvI (M' := mX10_allPlans) (As := []) (st := []) (zdec eX10_laysBest 9 rfl) kM_X10_385 kV_X10_allPlans ⟨by decide, rfl⟩ rfl rfl rfl rfl rfl (by omega) (r_allPlans (by omega) V ((R.set (by unfold wrP; omega)).set (by unfold wrP; omega))) ?_
  refine zS_istore_n (zdec eX10_laysBest 10 rfl) rfl ?_
  refine zS_iconst (zdec eX10_laysBest 11 rfl) rfl ?_
  refine zS_istore (zdec eX10_laysBest 12 rfl) rfl ?_
  exact L_rbest hd V hin hx (bwN p (pNb p).toNat).toNat 0 _ (by omega) (by omega) ((R.set (by unfold wrP; omega)).set (by unfold wrP; omega)) (by rw [zset_n (by omega), zset_s]; rfl) (by rw [zset_s]; rfl) (((g2.mono (fun k j z => by omega)).set (by omega)).set (by omega))
theorem q_best {d : Nat} {h : zH} {D : Dk} (hd : 200 ≤ d) (VD : DV D) (RD : DR h 0 D) : zMI d mX10_best [zA 108] h (fun r h' => r = a_best D ∧ Fr sQR h h') := by
  obtain ⟨p, hp⟩ : ∃ p, pb0 D = p := ⟨_, rfl⟩
  obtain ⟨q, hq⟩ : ∃ q, planP p = q := ⟨_, rfl⟩
  have pd : pDays p = D 0 1 := by rw [← hp]; rfl
  have pn : pNb p = D 0 8 := by rw [← hp]; rfl
  have dy := VD.days
  have nb := VD.nb
  have ns := VD.ns
  have nl := VD.nl
  have na := VD.na
  have vfl := VD.fl
  have vfe := VD.fee
  have hin : ∀ b, 0 ≤ b → b < pNb p → pIn p b = true := fun b _ _ => by rw [← hp]; rfl
  refine zmet rfl rfl rfl ?_
  refine zS_aload_n (zdec eX10_best 0 rfl) rfl rfl ?_
  refine zS_iconst (zdec eX10_best 1 rfl) rfl ?_
  refine zS_putfield (x := 0) (zdec eX10_best 2 rfl) kF_X10_71 (Or.inl kf10_0) ⟨by decide, rfl⟩ rfl rfl rfl (Or.inl (fun q => by cases q)) ?_
  obtain ⟨h0, E0⟩ : ∃ x, x = zset h 108 0 0 := ⟨_, rfl⟩
  rw [show zset h 108 0 (0 : Int) = h0 from E0.symm]
  have f0 : Fr sQR h h0 := by rw [E0]; exact Fr.rf.set (by omega)
  have RD0 : DR h0 0 D := RD.fr f0 (fun k j z => by omega)
  refine zS_aload_n (zdec eX10_best 3 rfl) rfl rfl ?_
  refine zvI (M' := mX10_isDesk) (As := []) (st := []) (zdec eX10_best 4 rfl) kM_X10_332 kV_X10_isDesk ⟨by decide, rfl⟩ rfl rfl rfl rfl rfl (by omega) (d_isDesk VD RD0) ?_
  refine zS_if_ne (tgt := 15) (zdec eX10_best 5 rfl) rfl (fun c1 => ?_) (fun c1 => ?_)
  · have z1 := d2i_n.mp c1
    refine zS_aload_n (zdec eX10_best 8 rfl) rfl rfl ?_
    refine zS_iconst (zdec eX10_best 9 rfl) rfl ?_
    refine zS_iconst (zdec eX10_best 10 rfl) rfl ?_
    have hd0 : 0 < D 0 0 := by first | omega
    have V : PV p := by rw [← hp]; exact pb0_V VD hd0
    have sl := stA_lim V (fb := -1) (fd := -1) (L := 2147483647) (L' := 100000000) (by omega) (by omega)
    have fo := stA_found V (L := 2147483647) (by omega)
    have s1 : (stA p (-1) (-1) 2147483647).2 ≠ -1 := by omega
    refine zvMV (M' := mX10_laysBest) (As := [zI (-1), zI (-1)]) (st := []) (zdec eX10_best 11 rfl) kM_X10_391 kV_X10_laysBest ⟨by decide, rfl⟩ rfl rfl rfl rfl rfl (by omega) (r_laysBest (x := -1) (y := -1) (by omega) V hin (by omega) hp VD hd0 RD0) (fun h3 ⟨R3, b35, b36, g3⟩ => ?_)
    have f3 : Fr sQR h h3 := f0.tr g3 (fun k j z => z) (fun k j z => by omega)
    have RD3 : DR h3 0 D := RD.fr f3 (fun k j z => by omega)
    refine zS_aload_n (zdec eX10_best 12 rfl) rfl rfl ?_
    refine zS_getfieldE (x := 35) (v := ((stA p (-1) (-1) 100000000).1)) (zdec eX10_best 13 rfl) kF_X10_379 ⟨by decide, rfl⟩ rfl rfl rfl b35 ?_
    exact zlMI (zdec eX10_best 14 rfl) rfl ⟨by unfold a_best; rw [hp, if_pos (by omega), (sl.2.2 s1).1], f3⟩
  · have z1 := d2i_0.mp c1
    refine zS_bipush (zdec eX10_best 6 rfl) rfl rfl ?_
    exact zlMI (zdec eX10_best 7 rfl) rfl ⟨by unfold a_best; rw [if_neg (by omega)], f0⟩
theorem q_choice {d : Nat} {h : zH} {D : Dk} {x : Int} (hd : 200 ≤ d) (VD : DV D) (RD : DR h 0 D) : zMI d mX10_choice [zA 108, zI x] h (fun r h' => r = a_choice D x ∧ Fr sQR h h') := by
  obtain ⟨p, hp⟩ : ∃ p, pb0 D = p := ⟨_, rfl⟩
  obtain ⟨q, hq⟩ : ∃ q, planP p = q := ⟨_, rfl⟩
  have pd : pDays p = D 0 1 := by rw [← hp]; rfl
  have pn : pNb p = D 0 8 := by rw [← hp]; rfl
  have dy := VD.days
  have nb := VD.nb
  have ns := VD.ns
  have nl := VD.nl
  have na := VD.na
  have vfl := VD.fl
  have vfe := VD.fee
  have hin : ∀ b, 0 ≤ b → b < pNb p → pIn p b = true := fun b _ _ => by rw [← hp]; rfl
  refine zmet rfl rfl rfl ?_
  refine zS_aload_n (zdec eX10_choice 0 rfl) rfl rfl ?_
  refine zS_iconst (zdec eX10_choice 1 rfl) rfl ?_
  refine zS_putfield (x := 0) (zdec eX10_choice 2 rfl) kF_X10_71 (Or.inl kf10_0) ⟨by decide, rfl⟩ rfl rfl rfl (Or.inl (fun q => by cases q)) ?_
  obtain ⟨h0, E0⟩ : ∃ x, x = zset h 108 0 0 := ⟨_, rfl⟩
  rw [show zset h 108 0 (0 : Int) = h0 from E0.symm]
  have f0 : Fr sQR h h0 := by rw [E0]; exact Fr.rf.set (by omega)
  have RD0 : DR h0 0 D := RD.fr f0 (fun k j z => by omega)
  refine zS_aload_n (zdec eX10_choice 3 rfl) rfl rfl ?_
  refine zS_iload_n (zdec eX10_choice 4 rfl) rfl ?_
  refine zS_i2l (zdec eX10_choice 5 rfl) ?_
  refine zvI (M' := mX10_isBill) (As := [zJ x]) (st := []) (zdec eX10_choice 6 rfl) kM_X10_324 kV_X10_isBill ⟨by decide, rfl⟩ rfl rfl rfl rfl rfl (by omega) (d_isBill (by omega) VD RD0) ?_
  refine zS_if_ne (tgt := 17) (zdec eX10_choice 7 rfl) rfl (fun c1 => ?_) (fun c1 => ?_)
  · have z1 := d2i_n.mp c1
    refine zS_aload_n (zdec eX10_choice 10 rfl) rfl rfl ?_
    refine zS_iconst (zdec eX10_choice 11 rfl) rfl ?_
    refine zS_iconst (zdec eX10_choice 12 rfl) rfl ?_
    have hd0 : 0 < D 0 0 := by first | omega | exact VD.bill (show 0 ≤ x by omega) (show x < D 0 8 by omega) | exact VD.day (show 0 ≤ x by omega) (show x < D 0 1 by omega) | exact VD.sup (show 0 ≤ x by omega) (show x < D 0 7 by omega)
    have V : PV p := by rw [← hp]; exact pb0_V VD hd0
    have sl := stA_lim V (fb := -1) (fd := -1) (L := 2147483647) (L' := 100000000) (by omega) (by omega)
    have fo := stA_found V (L := 2147483647) (by omega)
    have s1 : (stA p (-1) (-1) 2147483647).2 ≠ -1 := by omega
    refine zvMV (M' := mX10_laysBest) (As := [zI (-1), zI (-1)]) (st := []) (zdec eX10_choice 13 rfl) kM_X10_391 kV_X10_laysBest ⟨by decide, rfl⟩ rfl rfl rfl rfl rfl (by omega) (r_laysBest (x := -1) (y := -1) (by omega) V hin (by omega) hp VD hd0 RD0) (fun h3 ⟨R3, b35, b36, g3⟩ => ?_)
    have f3 : Fr sQR h h3 := f0.tr g3 (fun k j z => z) (fun k j z => by omega)
    have RD3 : DR h3 0 D := RD.fr f3 (fun k j z => by omega)
    refine zS_aload_n (zdec eX10_choice 14 rfl) rfl rfl ?_
    refine zS_aload_n (zdec eX10_choice 15 rfl) rfl rfl ?_
    refine zS_getfieldE (x := 36) (v := ((stA p (-1) (-1) 100000000).2)) (zdec eX10_choice 16 rfl) kF_X10_382 ⟨by decide, rfl⟩ rfl rfl rfl b36 ?_
    have sr : (stA p (-1) (-1) 2147483647).2 < bwN p (pNb p).toNat := by have bp := bw_pos V (pNb p).toNat; rcases (stI_rng V (fb := -1) (fd := -1) (L := 2147483647) (by omega) (bwN p (pNb p).toNat) (by omega)).2 with z | z; exact absurd z s1; exact z.2.1
    have bb := bwB V (k := pNb p) V.nb.1 (Int.le_refl _)
    refine zvMV (M' := mX10_laysNth) (As := [zI ((stA p (-1) (-1) 100000000).2)]) (st := []) (zdec eX10_choice 17 rfl) kM_X10_388 kV_X10_laysNth ⟨by decide, rfl⟩ rfl rfl rfl rfl rfl (by omega) (r_laysNth (by omega) V R3 (by omega) (by omega)) (fun h5 ⟨S5, g5⟩ => ?_)
    have f5 : Fr sQR h h5 := f3.tr g5 (fun k j z => z) (fun k j z => by omega)
    have R5 : WR h5 p := R3.fr g5 (fun k j z => by unfold wrP; omega)
    refine zS_aload_n (zdec eX10_choice 18 rfl) rfl rfl ?_
    refine zS_iload_n (zdec eX10_choice 19 rfl) rfl ?_
    refine zvI (M' := mX10_dayOf) (As := [zI x]) (st := []) (zdec eX10_choice 20 rfl) kM_X10_345 kV_X10_dayOf ⟨by decide, rfl⟩ rfl rfl rfl rfl rfl (by omega) (r_dayOf (by omega) V R5 S5 (by omega) (by omega) ((preP_rng V _ _ _).2)) ?_
    exact zlMI (zdec eX10_choice 21 rfl) rfl ⟨by unfold a_choice; rw [hp, if_pos (by omega), sl.1], f5⟩
  · have z1 := d2i_0.mp c1
    refine zS_bipush (zdec eX10_choice 8 rfl) rfl rfl ?_
    exact zlMI (zdec eX10_choice 9 rfl) rfl ⟨by unfold a_choice; rw [if_neg (by omega)], f0⟩
theorem q_waste {d : Nat} {h : zH} {D : Dk} (hd : 200 ≤ d) (VD : DV D) (RD : DR h 0 D) : zMI d mX10_waste [zA 108] h (fun r h' => r = a_waste D ∧ Fr sQR h h') := by
  obtain ⟨p, hp⟩ : ∃ p, pb0 D = p := ⟨_, rfl⟩
  obtain ⟨q, hq⟩ : ∃ q, planP p = q := ⟨_, rfl⟩
  have pd : pDays p = D 0 1 := by rw [← hp]; rfl
  have pn : pNb p = D 0 8 := by rw [← hp]; rfl
  have dy := VD.days
  have nb := VD.nb
  have ns := VD.ns
  have nl := VD.nl
  have na := VD.na
  have vfl := VD.fl
  have vfe := VD.fee
  have hin : ∀ b, 0 ≤ b → b < pNb p → pIn p b = true := fun b _ _ => by rw [← hp]; rfl
  refine zmet rfl rfl rfl ?_
  refine zS_aload_n (zdec eX10_waste 0 rfl) rfl rfl ?_
  refine zS_iconst (zdec eX10_waste 1 rfl) rfl ?_
  refine zS_putfield (x := 0) (zdec eX10_waste 2 rfl) kF_X10_71 (Or.inl kf10_0) ⟨by decide, rfl⟩ rfl rfl rfl (Or.inl (fun q => by cases q)) ?_
  obtain ⟨h0, E0⟩ : ∃ x, x = zset h 108 0 0 := ⟨_, rfl⟩
  rw [show zset h 108 0 (0 : Int) = h0 from E0.symm]
  have f0 : Fr sQR h h0 := by rw [E0]; exact Fr.rf.set (by omega)
  have RD0 : DR h0 0 D := RD.fr f0 (fun k j z => by omega)
  refine zS_aload_n (zdec eX10_waste 3 rfl) rfl rfl ?_
  refine zvI (M' := mX10_isDesk) (As := []) (st := []) (zdec eX10_waste 4 rfl) kM_X10_332 kV_X10_isDesk ⟨by decide, rfl⟩ rfl rfl rfl rfl rfl (by omega) (d_isDesk VD RD0) ?_
  refine zS_if_ne (tgt := 15) (zdec eX10_waste 5 rfl) rfl (fun c1 => ?_) (fun c1 => ?_)
  · have z1 := d2i_n.mp c1
    refine zS_aload_n (zdec eX10_waste 8 rfl) rfl rfl ?_
    have hd0 : 0 < D 0 0 := by first | omega
    refine zvMV (M' := mX10_laysNow) (As := []) (st := []) (zdec eX10_waste 9 rfl) kM_X10_342 kV_X10_laysNow ⟨by decide, rfl⟩ rfl rfl rfl rfl rfl (by omega) (r_laysNow hp hq (by omega) VD hd0 RD0) (fun h2 ⟨⟨V, R, S, O, CA⟩, ⟨q0, q1⟩, g2, RD2⟩ => ?_)
    have f2 : Fr sQR h h2 := f0.tr g2 (fun k j z => z) (fun k j z => z)
    refine zS_aload_n (zdec eX10_waste 10 rfl) rfl rfl ?_
    refine zvI (M' := mX10_totalNow) (As := []) (st := []) (zdec eX10_waste 11 rfl) kM_X10_358 kV_X10_totalNow ⟨by decide, rfl⟩ rfl rfl rfl rfl rfl (by omega) (r_totalNow (by omega) V R S q0 q1) ?_
    refine zS_istore_n (zdec eX10_waste 12 rfl) rfl ?_
    refine zS_aload_n (zdec eX10_waste 13 rfl) rfl rfl ?_
    refine zS_iconst (zdec eX10_waste 14 rfl) rfl ?_
    refine zS_iconst (zdec eX10_waste 15 rfl) rfl ?_
    have sl := stA_lim V (fb := -1) (fd := -1) (L := 2147483647) (L' := 100000000) (by omega) (by omega)
    have fo := stA_found V (L := 2147483647) (by omega)
    have s1 : (stA p (-1) (-1) 2147483647).2 ≠ -1 := by omega
    have tb := totB V (q := q) (fun c => ⟨q0 c, q1 c⟩)
    have sr := stA_rng V (fb := -1) (fd := -1) (L := 2147483647) (by omega)
    refine zvMV (M' := mX10_laysBest) (As := [zI (-1), zI (-1)]) (st := []) (zdec eX10_waste 16 rfl) kM_X10_391 kV_X10_laysBest ⟨by decide, rfl⟩ rfl rfl rfl rfl rfl (by omega) (r_laysBest (x := -1) (y := -1) (by omega) V hin (by omega) hp VD hd0 RD2) (fun h3 ⟨R3, b35, b36, g3⟩ => ?_)
    have f3 : Fr sQR h h3 := f2.tr g3 (fun k j z => z) (fun k j z => by omega)
    have RD3 : DR h3 0 D := RD.fr f3 (fun k j z => by omega)
    refine zS_iload_n (zdec eX10_waste 17 rfl) rfl ?_
    refine zS_aload_n (zdec eX10_waste 18 rfl) rfl rfl ?_
    refine zS_getfieldE (x := 35) (v := ((stA p (-1) (-1) 100000000).1)) (zdec eX10_waste 19 rfl) kF_X10_379 ⟨by decide, rfl⟩ rfl rfl rfl b35 ?_
    refine zS_isub (zdec eX10_waste 20 rfl) ⟨by have := (sl.2.2 s1).1; omega, by have := (sl.2.2 s1).1; omega⟩ ?_
    exact zlMI (zdec eX10_waste 21 rfl) rfl ⟨by unfold a_waste; rw [hp, hq, if_pos (by omega), (sl.2.2 s1).1], f3⟩
  · have z1 := d2i_0.mp c1
    refine zS_bipush (zdec eX10_waste 6 rfl) rfl rfl ?_
    exact zlMI (zdec eX10_waste 7 rfl) rfl ⟨by unfold a_waste; rw [if_neg (by omega)], f0⟩
theorem q_with {d : Nat} {h : zH} {D : Dk} {x y : Int} (hd : 200 ≤ d) (VD : DV D) (RD : DR h 0 D) : zMI d mX10_with [zA 108, zI x, zI y] h (fun r h' => r = a_with D x y ∧ Fr sQR h h') := by
  obtain ⟨p, hp⟩ : ∃ p, pb0 D = p := ⟨_, rfl⟩
  obtain ⟨q, hq⟩ : ∃ q, planP p = q := ⟨_, rfl⟩
  have pd : pDays p = D 0 1 := by rw [← hp]; rfl
  have pn : pNb p = D 0 8 := by rw [← hp]; rfl
  have dy := VD.days
  have nb := VD.nb
  have ns := VD.ns
  have nl := VD.nl
  have na := VD.na
  have vfl := VD.fl
  have vfe := VD.fee
  have hin : ∀ b, 0 ≤ b → b < pNb p → pIn p b = true := fun b _ _ => by rw [← hp]; rfl
  refine zmet rfl rfl rfl ?_
  refine zS_aload_n (zdec eX10_with 0 rfl) rfl rfl ?_
  refine zS_iconst (zdec eX10_with 1 rfl) rfl ?_
  refine zS_putfield (x := 0) (zdec eX10_with 2 rfl) kF_X10_71 (Or.inl kf10_0) ⟨by decide, rfl⟩ rfl rfl rfl (Or.inl (fun q => by cases q)) ?_
  obtain ⟨h0, E0⟩ : ∃ x, x = zset h 108 0 0 := ⟨_, rfl⟩
  rw [show zset h 108 0 (0 : Int) = h0 from E0.symm]
  have f0 : Fr sQR h h0 := by rw [E0]; exact Fr.rf.set (by omega)
  have RD0 : DR h0 0 D := RD.fr f0 (fun k j z => by omega)
  refine zS_aload_n (zdec eX10_with 3 rfl) rfl rfl ?_
  refine zS_iload_n (zdec eX10_with 4 rfl) rfl ?_
  refine zS_i2l (zdec eX10_with 5 rfl) ?_
  refine zvI (M' := mX10_isBill) (As := [zJ x]) (st := []) (zdec eX10_with 6 rfl) kM_X10_324 kV_X10_isBill ⟨by decide, rfl⟩ rfl rfl rfl rfl rfl (by omega) (d_isBill (by omega) VD RD0) ?_
  refine zS_if_eq (tgt := 22) (zdec eX10_with 7 rfl) rfl (fun c1 => ?_) (fun c1 => ?_)
  · have z1 := d2i_0.mp c1
    refine zS_bipush (zdec eX10_with 12 rfl) rfl rfl ?_
    exact zlMI (zdec eX10_with 13 rfl) rfl ⟨by unfold a_with; rw [if_neg (by omega)], f0⟩
  · have z1 := d2i_n.mp c1
    refine zS_aload_n (zdec eX10_with 8 rfl) rfl rfl ?_
    refine zS_iload_n (zdec eX10_with 9 rfl) rfl ?_
    refine zvI (M' := mX10_isDay) (As := [zI y]) (st := []) (zdec eX10_with 10 rfl) kM_X10_329 kV_X10_isDay ⟨by decide, rfl⟩ rfl rfl rfl rfl rfl (by omega) (d_isDay (by omega) VD RD0) ?_
    refine zS_if_ne (tgt := 25) (zdec eX10_with 11 rfl) rfl (fun c2 => ?_) (fun c2 => ?_)
    · have z2 := d2i_n.mp c2
      refine zS_aload_n (zdec eX10_with 14 rfl) rfl rfl ?_
      refine zS_iload_n (zdec eX10_with 15 rfl) rfl ?_
      refine zS_iload_n (zdec eX10_with 16 rfl) rfl ?_
      have hd0 : 0 < D 0 0 := by first | omega | exact VD.bill (show 0 ≤ x by omega) (show x < D 0 8 by omega) | exact VD.day (show 0 ≤ x by omega) (show x < D 0 1 by omega) | exact VD.sup (show 0 ≤ x by omega) (show x < D 0 7 by omega)
      have V : PV p := by rw [← hp]; exact pb0_V VD hd0
      have sl := stA_lim V (fb := x) (fd := y) (L := 2147483647) (L' := 100000000) (by omega) (by omega)
      refine zvMV (M' := mX10_laysBest) (As := [zI x, zI y]) (st := []) (zdec eX10_with 17 rfl) kM_X10_391 kV_X10_laysBest ⟨by decide, rfl⟩ rfl rfl rfl rfl rfl (by omega) (r_laysBest (x := x) (y := y) (by omega) V hin (by omega) hp VD hd0 RD0) (fun h3 ⟨R3, b35, b36, g3⟩ => ?_)
      have f3 : Fr sQR h h3 := f0.tr g3 (fun k j z => z) (fun k j z => by omega)
      have RD3 : DR h3 0 D := RD.fr f3 (fun k j z => by omega)
      refine zS_aload_n (zdec eX10_with 18 rfl) rfl rfl ?_
      refine zS_getfieldE (x := 36) (v := ((stA p x y 100000000).2)) (zdec eX10_with 19 rfl) kF_X10_382 ⟨by decide, rfl⟩ rfl rfl rfl b36 ?_
      refine zS_iconst (zdec eX10_with 20 rfl) rfl ?_
      refine zS_icmp_ne (tgt := 43) (zdec eX10_with 21 rfl) rfl (fun c3 => ?_) (fun c3 => ?_)
      · refine zS_aload_n (zdec eX10_with 24 rfl) rfl rfl ?_
        refine zS_getfieldE (x := 35) (v := ((stA p x y 100000000).1)) (zdec eX10_with 25 rfl) kF_X10_379 ⟨by decide, rfl⟩ rfl rfl rfl b35 ?_
        exact zlMI (zdec eX10_with 26 rfl) rfl ⟨by unfold a_with; rw [hp, if_pos (by omega), if_pos (by have := (sl.2.2 (by omega)); omega), (sl.2.2 (by omega)).1], f3⟩
      · refine zS_iconst (zdec eX10_with 22 rfl) rfl ?_
        refine zS_goto (tgt := 47) (zdec eX10_with 23 rfl) rfl ?_
        exact zlMI (zdec eX10_with 26 rfl) rfl ⟨by unfold a_with; rw [hp, if_pos (by omega), if_neg (by have := (sl.2.1 (by omega)).1; omega)], f3⟩
    · have z2 := d2i_0.mp c2
      refine zS_bipush (zdec eX10_with 12 rfl) rfl rfl ?_
      exact zlMI (zdec eX10_with 13 rfl) rfl ⟨by unfold a_with; rw [if_neg (by omega)], f0⟩
theorem K_may {d : Nat} {h : zH} {D : Dk} {p : Pb} {x m : Int} (hd : 150 ≤ d) (VD : DV D) (hp : pb0 D = p) (hd0 : 0 < D 0 0) (V : PV p) (hin : ∀ b, 0 ≤ b → b < pNb p → pIn p b = true) (x0 : 0 ≤ x) (x1 : x < pNb p) (hm : m = (stA p (-1) (-1) 100000000).1) (RD : DR h 0 D) : ∀ (n : Nat) (e : Int) (h1 : zH), 0 ≤ e → e + n = D 0 1 + 1 → Fr sQR h h1 → zS mX10_may (zr d) 33 [zA 108, zI x, zI m, zI (bitsI (fun y => decide ((stA p x y (m + 1)).1 = m)) e), zI e] [] TT h1 (zAnI (fun r h' => r = bitsI (fun y => decide ((stA p x y (m + 1)).1 = m)) (D 0 1 + 1) ∧ Fr sQR h h')) := by
  intro n
  induction n with
  | zero =>
    intro e h1 a1 a2 i1
    have RD1 : DR h1 0 D := RD.fr i1 (fun k j z => by omega)
    have pd : pDays p = D 0 1 := by rw [← hp]; rfl
    have dy := VD.days
    refine zS_iload (zdec eX10_may 21 rfl) rfl ?_
    refine zS_aload_n (zdec eX10_may 22 rfl) rfl rfl ?_
    refine zvI (M' := mX10_days) (As := []) (st := [zI e]) (zdec eX10_may 23 rfl) kM_X10_240 kV_X10_days ⟨by decide, rfl⟩ rfl rfl rfl rfl rfl (by omega) (d_days RD1) ?_
    refine zS_icmp_gt (tgt := 74) (zdec eX10_may 24 rfl) rfl (fun cz => ?_) (fun cz => absurd (by omega) cz)
    refine zS_iload_n (zdec eX10_may 43 rfl) rfl ?_
    exact zlMI (zdec eX10_may 44 rfl) rfl ⟨by rw [show e = D 0 1 + 1 by omega], i1⟩
  | succ n ih =>
    intro e h1 a1 a2 i1
    have RD1 : DR h1 0 D := RD.fr i1 (fun k j z => by omega)
    have pd : pDays p = D 0 1 := by rw [← hp]; rfl
    have dy := VD.days
    refine zS_iload (zdec eX10_may 21 rfl) rfl ?_
    refine zS_aload_n (zdec eX10_may 22 rfl) rfl rfl ?_
    refine zvI (M' := mX10_days) (As := []) (st := [zI e]) (zdec eX10_may 23 rfl) kM_X10_240 kV_X10_days ⟨by decide, rfl⟩ rfl rfl rfl rfl rfl (by omega) (d_days RD1) ?_
    refine zS_icmp_gt (tgt := 74) (zdec eX10_may 24 rfl) rfl (fun cz => absurd cz (by omega)) (fun cz => ?_)
    refine zS_aload_n (zdec eX10_may 25 rfl) rfl rfl ?_
    refine zS_iload_n (zdec eX10_may 26 rfl) rfl ?_
    refine zS_iload (zdec eX10_may 27 rfl) rfl ?_
    refine zvMV (M' := mX10_laysBest) (As := [zI x, zI e]) (st := []) (zdec eX10_may 28 rfl) kM_X10_391 kV_X10_laysBest ⟨by decide, rfl⟩ rfl rfl rfl rfl rfl (by omega) (r_laysBest (x := x) (y := e) (by omega) V hin (by omega) hp VD hd0 RD1) (fun h3 ⟨R3, b35, b36, g3⟩ => ?_)
    have f3 : Fr sQR h h3 := i1.tr g3 (fun k j z => z) (fun k j z => by omega)
    have me := may_eq V (x := x) (y := e) (L := 100000000) (by omega) hm
    refine zS_iload_n (zdec eX10_may 29 rfl) rfl ?_
    refine zS_aload_n (zdec eX10_may 30 rfl) rfl rfl ?_
    refine zS_getfieldE (x := 35) (v := ((stA p x e 100000000).1)) (zdec eX10_may 31 rfl) kF_X10_379 ⟨by decide, rfl⟩ rfl rfl rfl b35 ?_
    refine zS_iload_n (zdec eX10_may 32 rfl) rfl ?_
    refine zS_icmp_ne (tgt := 65) (zdec eX10_may 33 rfl) rfl (fun c1 => ?_) (fun c1 => ?_)
    · refine zS_iconst (zdec eX10_may 38 rfl) rfl ?_
      refine zS_ior (zdec eX10_may 39 rfl) ?_
      refine zS_istore_n (zdec eX10_may 40 rfl) rfl ?_
      refine zS_iinc (zdec eX10_may 41 rfl) rfl rfl ⟨by omega, by omega⟩ ?_
      refine zS_goto (tgt := 33) (zdec eX10_may 42 rfl) rfl ?_
      have k := ih (e + 1) h3 (by omega) (by omega) f3
      rw [bitsI_s _ a1] at k
      rw [if_neg (by rw [decide_eq_false (fun w => c1 (me.mp w))]; decide)] at k
      rw [bits_or0 a1 (by omega)]
      exact k
    · refine zS_iconst (zdec eX10_may 34 rfl) rfl ?_
      refine zS_iload (zdec eX10_may 35 rfl) rfl ?_
      refine zS_ishl (zdec eX10_may 36 rfl) ?_
      refine zS_goto (tgt := 66) (zdec eX10_may 37 rfl) rfl ?_
      refine zS_ior (zdec eX10_may 39 rfl) ?_
      refine zS_istore_n (zdec eX10_may 40 rfl) rfl ?_
      refine zS_iinc (zdec eX10_may 41 rfl) rfl rfl ⟨by omega, by omega⟩ ?_
      refine zS_goto (tgt := 33) (zdec eX10_may 42 rfl) rfl ?_
      have k := ih (e + 1) h3 (by omega) (by omega) f3
      rw [bitsI_s _ a1] at k
      rw [if_pos (decide_eq_true (me.mpr c1))] at k
      exact k
theorem q_may {d : Nat} {h : zH} {D : Dk} {x : Int} (hd : 200 ≤ d) (VD : DV D) (RD : DR h 0 D) : zMI d mX10_may [zA 108, zI x] h (fun r h' => r = a_may D x ∧ Fr sQR h h') := by
  obtain ⟨p, hp⟩ : ∃ p, pb0 D = p := ⟨_, rfl⟩
  obtain ⟨q, hq⟩ : ∃ q, planP p = q := ⟨_, rfl⟩
  have pd : pDays p = D 0 1 := by rw [← hp]; rfl
  have pn : pNb p = D 0 8 := by rw [← hp]; rfl
  have dy := VD.days
  have nb := VD.nb
  have ns := VD.ns
  have nl := VD.nl
  have na := VD.na
  have vfl := VD.fl
  have vfe := VD.fee
  have hin : ∀ b, 0 ≤ b → b < pNb p → pIn p b = true := fun b _ _ => by rw [← hp]; rfl
  refine zmet rfl rfl rfl ?_
  refine zS_aload_n (zdec eX10_may 0 rfl) rfl rfl ?_
  refine zS_iconst (zdec eX10_may 1 rfl) rfl ?_
  refine zS_putfield (x := 0) (zdec eX10_may 2 rfl) kF_X10_71 (Or.inl kf10_0) ⟨by decide, rfl⟩ rfl rfl rfl (Or.inl (fun q => by cases q)) ?_
  obtain ⟨h0, E0⟩ : ∃ x, x = zset h 108 0 0 := ⟨_, rfl⟩
  rw [show zset h 108 0 (0 : Int) = h0 from E0.symm]
  have f0 : Fr sQR h h0 := by rw [E0]; exact Fr.rf.set (by omega)
  have RD0 : DR h0 0 D := RD.fr f0 (fun k j z => by omega)
  refine zS_aload_n (zdec eX10_may 3 rfl) rfl rfl ?_
  refine zS_iload_n (zdec eX10_may 4 rfl) rfl ?_
  refine zS_i2l (zdec eX10_may 5 rfl) ?_
  refine zvI (M' := mX10_isBill) (As := [zJ x]) (st := []) (zdec eX10_may 6 rfl) kM_X10_324 kV_X10_isBill ⟨by decide, rfl⟩ rfl rfl rfl rfl rfl (by omega) (d_isBill (by omega) VD RD0) ?_
  refine zS_if_ne (tgt := 17) (zdec eX10_may 7 rfl) rfl (fun c1 => ?_) (fun c1 => ?_)
  · have z1 := d2i_n.mp c1
    refine zS_aload_n (zdec eX10_may 10 rfl) rfl rfl ?_
    refine zS_iconst (zdec eX10_may 11 rfl) rfl ?_
    refine zS_iconst (zdec eX10_may 12 rfl) rfl ?_
    have hd0 : 0 < D 0 0 := by first | omega | exact VD.bill (show 0 ≤ x by omega) (show x < D 0 8 by omega) | exact VD.day (show 0 ≤ x by omega) (show x < D 0 1 by omega) | exact VD.sup (show 0 ≤ x by omega) (show x < D 0 7 by omega)
    have V : PV p := by rw [← hp]; exact pb0_V VD hd0
    have sl := stA_lim V (fb := -1) (fd := -1) (L := 2147483647) (L' := 100000000) (by omega) (by omega)
    have fo := stA_found V (L := 2147483647) (by omega)
    have s1 : (stA p (-1) (-1) 2147483647).2 ≠ -1 := by omega
    refine zvMV (M' := mX10_laysBest) (As := [zI (-1), zI (-1)]) (st := []) (zdec eX10_may 13 rfl) kM_X10_391 kV_X10_laysBest ⟨by decide, rfl⟩ rfl rfl rfl rfl rfl (by omega) (r_laysBest (x := -1) (y := -1) (by omega) V hin (by omega) hp VD hd0 RD0) (fun h3 ⟨R3, b35, b36, g3⟩ => ?_)
    have f3 : Fr sQR h h3 := f0.tr g3 (fun k j z => z) (fun k j z => by omega)
    have RD3 : DR h3 0 D := RD.fr f3 (fun k j z => by omega)
    refine zS_aload_n (zdec eX10_may 14 rfl) rfl rfl ?_
    refine zS_getfieldE (x := 35) (v := ((stA p (-1) (-1) 100000000).1)) (zdec eX10_may 15 rfl) kF_X10_379 ⟨by decide, rfl⟩ rfl rfl rfl b35 ?_
    refine zS_istore_n (zdec eX10_may 16 rfl) rfl ?_
    refine zS_iconst (zdec eX10_may 17 rfl) rfl ?_
    refine zS_istore_n (zdec eX10_may 18 rfl) rfl ?_
    refine zS_iconst (zdec eX10_may 19 rfl) rfl ?_
    refine zS_istore (zdec eX10_may 20 rfl) rfl ?_
    unfold a_may
    rw [hp, if_pos (by omega), (sl.2.2 s1).1]
    exact K_may (by omega) VD hp hd0 V hin (by omega) (by omega) rfl RD (D 0 1 + 1).toNat 0 h3 (by omega) (by omega) f3
  · have z1 := d2i_0.mp c1
    refine zS_bipush (zdec eX10_may 8 rfl) rfl rfl ?_
    exact zlMI (zdec eX10_may 9 rfl) rfl ⟨by unfold a_may; rw [if_neg (by omega)], f0⟩

/-! THE READ DESK IS IN RANGE -/
theorem rf_no {P : Tp} {c : Int} (c0 : 1 ≤ c) (h : rfu P c 3 = 0) : False := by
  by_cases w : P 3 = 0
  · rw [rfu_3 w] at h; omega
  · rw [rfu_f w] at h; exact w h
theorem DV.dk {B : Int → Int} {L : Int} {P : Tp} {D : Dk} (V : DV D) (z : D 0 0 = 0) (h : dk6 B L P 3 = 0) : DV (zset (dkD B L P D) 0 0 (D 0 0 + 1)) := by
  have k6 := tf_ok (P := dk5 B L P) h
  have k5 := tf_ok (P := dk4 B L P) k6.1
  have k4 := tf_ok (P := dk3 B L P) k5.1
  have k3 := tf_ok (P := dk2 B L P) k4.1
  have k2 := tf_ok (P := dk1 B L P) k3.1
  have k1 := tf_ok (P := dk0 B L P) k2.1
  obtain ⟨-, -, -, -, -, -, -, -, -, -, -, -, v0, -⟩ := V
  have z7 := v0 z 7 (by omega) (by omega)
  have z8 := v0 z 8 (by omega) (by omega)
  have z9 := v0 z 9 (by omega) (by omega)
  have z10 := v0 z 10 (by omega) (by omega)
  have e : ∀ k j, ¬ (k = 0 ∧ 0 ≤ j ∧ j ≤ 6) → zset (dkD B L P D) 0 0 (D 0 0 + 1) k j = D k j := fun k j q => by rw [zset_n (by omega), dkD_e (by omega)]
  have e0 : zset (dkD B L P D) 0 0 (D 0 0 + 1) 0 0 = 1 := by rw [zset_s]; omega
  have e1 : zset (dkD B L P D) 0 0 (D 0 0 + 1) 0 1 = tfV B L (dk0 B L P) 1 1 7 := by
    rw [zset_n (by omega)]; unfold dkD
    rw [zset_n (by omega), zset_n (by omega), zset_n (by omega), zset_n (by omega), zset_n (by omega), zset_s]
  have e2 : zset (dkD B L P D) 0 0 (D 0 0 + 1) 0 2 = tfV B L (dk1 B L P) 2 0 3 := by
    rw [zset_n (by omega)]; unfold dkD
    rw [zset_n (by omega), zset_n (by omega), zset_n (by omega), zset_n (by omega), zset_s]
  have e3 : zset (dkD B L P D) 0 0 (D 0 0 + 1) 0 3 = tfV B L (dk2 B L P) 3 0 10 := by
    rw [zset_n (by omega)]; unfold dkD
    rw [zset_n (by omega), zset_n (by omega), zset_n (by omega), zset_s]
  have e4 : zset (dkD B L P D) 0 0 (D 0 0 + 1) 0 4 = tfV B L (dk3 B L P) 4 0 9999 := by
    rw [zset_n (by omega)]; unfold dkD
    rw [zset_n (by omega), zset_n (by omega), zset_s]
  have e5 : zset (dkD B L P D) 0 0 (D 0 0 + 1) 0 5 = tfV B L (dk4 B L P) 5 0 5000 := by
    rw [zset_n (by omega)]; unfold dkD
    rw [zset_n (by omega), zset_s]
  have e6 : zset (dkD B L P D) 0 0 (D 0 0 + 1) 0 6 = tfV B L (dk5 B L P) 6 0 200 := by
    rw [zset_n (by omega)]; unfold dkD
    rw [zset_s]
  have e7 := e 0 7 (by omega)
  have e8 := e 0 8 (by omega)
  have e9 := e 0 9 (by omega)
  have e10 := e 0 10 (by omega)
  generalize zset (dkD B L P D) 0 0 (D 0 0 + 1) = E at *
  refine ⟨by omega, by omega, by omega, by omega, by omega, by omega, by omega, by omega, by omega, by omega, by omega, by omega, fun q => by omega, fun s s0 s1 => by omega, fun b b0 b1 => by omega, fun i i0 i1 => by omega, fun i i0 i1 => by omega⟩
theorem DV.sp {D : Dk} {v : Int} (V : DV D) (z : D 0 0 ≠ 0) (n : D 0 0 ≤ 999) (c : D 0 7 < 4) (v0 : 0 ≤ v) (v1 : v ≤ 9) : DV (zset (spD D v) 0 0 (D 0 0 + 1)) := by
  obtain ⟨r0, r1, r2, r3, r4, r5, r6, r7, r8, r9, r10, w1, w0, sv, bv, iv, av⟩ := V
  have e : ∀ k j, ¬ (k = 0 ∧ (j = 0 ∨ j = 7)) → ¬ (k = 1 ∧ j = D 0 7) → zset (spD D v) 0 0 (D 0 0 + 1) k j = D k j := fun k j q u => by rw [zset_n (by omega), spD_e (by omega) (by omega)]
  have e0 : zset (spD D v) 0 0 (D 0 0 + 1) 0 0 = D 0 0 + 1 := zset_s _ _ _ _
  have e7 : zset (spD D v) 0 0 (D 0 0 + 1) 0 7 = D 0 7 + 1 := by rw [zset_n (by omega)]; unfold spD; rw [if_neg (by omega), if_pos (by omega)]
  have es : zset (spD D v) 0 0 (D 0 0 + 1) 1 (D 0 7) = v := by rw [zset_n (by omega)]; unfold spD; rw [if_pos ⟨rfl, rfl⟩]
  have e1 := e 0 1 (by omega) (by omega)
  have e2 := e 0 2 (by omega) (by omega)
  have e3 := e 0 3 (by omega) (by omega)
  have e4 := e 0 4 (by omega) (by omega)
  have e5 := e 0 5 (by omega) (by omega)
  have e6 := e 0 6 (by omega) (by omega)
  have e8 := e 0 8 (by omega) (by omega)
  have e9 := e 0 9 (by omega) (by omega)
  have e10 := e 0 10 (by omega) (by omega)
  generalize zset (spD D v) 0 0 (D 0 0 + 1) = E at *
  refine ⟨by omega, by omega, by omega, by omega, by omega, by omega, by omega, by omega, by omega, by omega, by omega, by omega, fun q => by omega, fun s s0 s1 => ?_, fun b b0 b1 => ?_, fun i i0 i1 => ?_, fun i i0 i1 => ?_⟩
  · by_cases q : s = D 0 7
    · rw [q, es]; omega
    · rw [e 1 s (by omega) (by omega)]; exact sv s s0 (by omega)
  · have t := bv b b0 (by omega)
    rw [e (3 + b) 0 (by omega) (by omega), e (3 + b) 1 (by omega) (by omega), e (3 + b) 2 (by omega) (by omega), e (3 + b) 3 (by omega) (by omega), e (3 + b) 4 (by omega) (by omega), e (3 + b) 5 (by omega) (by omega), e (3 + b) 6 (by omega) (by omega)]
    omega
  · have t := iv i i0 (by omega)
    rw [e 8 i (by omega) (by omega), e 9 i (by omega) (by omega)]
    exact t
  · have t := av i i0 (by omega)
    rw [e 10 i (by omega) (by omega)]
    omega
theorem DV.bl {D : Dk} {f : Int → Int} (V : DV D) (z : D 0 0 ≠ 0) (n : D 0 0 ≤ 999) (c : D 0 8 < 5) (f0 : 0 ≤ f 0 ∧ f 0 < D 0 7) (f1 : 1 ≤ f 1 ∧ f 1 ≤ 3000) (f2 : 0 ≤ f 2 ∧ f 2 ≤ 20) (f3 : 0 ≤ f 3 ∧ f 3 ≤ 6) (f4 : 0 ≤ f 4 ∧ f 4 ≤ 6) (f5 : 0 ≤ f 5 ∧ f 5 ≤ 99) (f6 : 0 ≤ f 6 ∧ f 6 ≤ f 1) : DV (zset (blD D f) 0 0 (D 0 0 + 1)) := by
  obtain ⟨r0, r1, r2, r3, r4, r5, r6, r7, r8, r9, r10, w1, w0, sv, bv, iv, av⟩ := V
  have e : ∀ k j, ¬ (k = 0 ∧ (j = 0 ∨ j = 8)) → k ≠ 3 + D 0 8 → zset (blD D f) 0 0 (D 0 0 + 1) k j = D k j := fun k j q u => by rw [zset_n (by omega), blD_e (by omega) (by omega)]
  have e0 : zset (blD D f) 0 0 (D 0 0 + 1) 0 0 = D 0 0 + 1 := zset_s _ _ _ _
  have e8 : zset (blD D f) 0 0 (D 0 0 + 1) 0 8 = D 0 8 + 1 := by rw [zset_n (by omega)]; unfold blD; rw [if_neg (by omega), if_pos (by omega)]
  have es : ∀ j, zset (blD D f) 0 0 (D 0 0 + 1) (3 + D 0 8) j = f j := fun j => by rw [zset_n (by omega)]; unfold blD; rw [if_pos rfl]
  have e1 := e 0 1 (by omega) (by omega)
  have e2 := e 0 2 (by omega) (by omega)
  have e3 := e 0 3 (by omega) (by omega)
  have e4 := e 0 4 (by omega) (by omega)
  have e5 := e 0 5 (by omega) (by omega)
  have e6 := e 0 6 (by omega) (by omega)
  have e7 := e 0 7 (by omega) (by omega)
  have e9 := e 0 9 (by omega) (by omega)
  have e10 := e 0 10 (by omega) (by omega)
  generalize zset (blD D f) 0 0 (D 0 0 + 1) = E at *
  refine ⟨by omega, by omega, by omega, by omega, by omega, by omega, by omega, by omega, by omega, by omega, by omega, by omega, fun q => by omega, fun s s0 s1 => ?_, fun b b0 b1 => ?_, fun i i0 i1 => ?_, fun i i0 i1 => ?_⟩
  · rw [e 1 s (by omega) (by omega)]; exact sv s s0 (by omega)
  · by_cases q : b = D 0 8
    · rw [q, es 0, es 1, es 2, es 3, es 4, es 5, es 6]; omega
    · have t := bv b b0 (by omega)
      rw [e (3 + b) 0 (by omega) (by omega), e (3 + b) 1 (by omega) (by omega), e (3 + b) 2 (by omega) (by omega), e (3 + b) 3 (by omega) (by omega), e (3 + b) 4 (by omega) (by omega), e (3 + b) 5 (by omega) (by omega), e (3 + b) 6 (by omega) (by omega)]
      omega
  · have t := iv i i0 (by omega)
    rw [e 8 i (by omega) (by omega), e 9 i (by omega) (by omega)]
    exact t
  · have t := av i i0 (by omega)
    rw [e 10 i (by omega) (by omega)]
    omega
theorem DV.lni {D : Dk} {a o : Int} (V : DV D) (z : D 0 0 ≠ 0) (n : D 0 0 ≤ 999) (c : D 0 9 < 6) (f0 : 1 ≤ a ∧ a ≤ 3000) (f1 : 0 ≤ o ∧ o ≤ 6) : DV (zset (lnD D a o) 0 0 (D 0 0 + 1)) := by
  obtain ⟨r0, r1, r2, r3, r4, r5, r6, r7, r8, r9, r10, w1, w0, sv, bv, iv, av⟩ := V
  have e : ∀ k j, ¬ (k = 0 ∧ (j = 0 ∨ j = 9)) → ¬ ((k = 8 ∨ k = 9) ∧ j = D 0 9) → zset (lnD D a o) 0 0 (D 0 0 + 1) k j = D k j := fun k j q u => by rw [zset_n (by omega), lnD_e (by omega) (by omega) (by omega)]
  have e0 : zset (lnD D a o) 0 0 (D 0 0 + 1) 0 0 = D 0 0 + 1 := zset_s _ _ _ _
  have e9 : zset (lnD D a o) 0 0 (D 0 0 + 1) 0 9 = D 0 9 + 1 := by rw [zset_n (by omega)]; unfold lnD; rw [if_neg (by omega), if_neg (by omega), if_pos (by omega)]
  have es : zset (lnD D a o) 0 0 (D 0 0 + 1) 8 (D 0 9) = a := by rw [zset_n (by omega)]; unfold lnD; rw [if_pos ⟨rfl, rfl⟩]
  have eo : zset (lnD D a o) 0 0 (D 0 0 + 1) 9 (D 0 9) = o := by rw [zset_n (by omega)]; unfold lnD; rw [if_neg (by omega), if_pos ⟨rfl, rfl⟩]
  have e1 := e 0 1 (by omega) (by omega)
  have e2 := e 0 2 (by omega) (by omega)
  have e3 := e 0 3 (by omega) (by omega)
  have e4 := e 0 4 (by omega) (by omega)
  have e5 := e 0 5 (by omega) (by omega)
  have e6 := e 0 6 (by omega) (by omega)
  have e7 := e 0 7 (by omega) (by omega)
  have e8 := e 0 8 (by omega) (by omega)
  have e10 := e 0 10 (by omega) (by omega)
  generalize zset (lnD D a o) 0 0 (D 0 0 + 1) = E at *
  refine ⟨by omega, by omega, by omega, by omega, by omega, by omega, by omega, by omega, by omega, by omega, by omega, by omega, fun q => by omega, fun s s0 s1 => ?_, fun b b0 b1 => ?_, fun i i0 i1 => ?_, fun i i0 i1 => ?_⟩
  · rw [e 1 s (by omega) (by omega)]; exact sv s s0 (by omega)
  · have t := bv b b0 (by omega)
    rw [e (3 + b) 0 (by omega) (by omega), e (3 + b) 1 (by omega) (by omega), e (3 + b) 2 (by omega) (by omega), e (3 + b) 3 (by omega) (by omega), e (3 + b) 4 (by omega) (by omega), e (3 + b) 5 (by omega) (by omega), e (3 + b) 6 (by omega) (by omega)]
    omega
  · by_cases q : i = D 0 9
    · rw [q, es, eo]; exact ⟨f0, f1⟩
    · have t := iv i i0 (by omega)
      rw [e 8 i (by omega) (by omega), e 9 i (by omega) (by omega)]
      exact t
  · have t := av i i0 (by omega)
    rw [e 10 i (by omega) (by omega)]
    omega
theorem DV.s {B : Int → Int} {L : Int} {P : Tp} {D : Dk} (V : DV D) (n : D 0 0 ≤ 999) (h : (lnS B L P D).1 3 = 0) : DV (lnS B L P D).2 := by
  have q : (lnQ B L P D).1 3 = 0 := ts_ok h
  show DV (zset (lnQ B L P D).2 0 0 (D 0 0 + 1))
  unfold lnQ at q ⊢
  by_cases c0 : D 0 0 = 0
  · rw [if_pos c0] at q ⊢
    exact V.dk c0 q
  · rw [if_neg c0] at q ⊢
    by_cases c1 : isW B P 7 = true
    · rw [if_pos c1] at q ⊢
      by_cases c : 4 ≤ D 0 7
      · rw [if_pos c] at q
        exact (rf_no (by omega) q).elim
      · rw [if_neg c] at q
        show DV (zset (if 4 ≤ D 0 7 then D else spD D (spV B L P)) 0 0 (D 0 0 + 1))
        rw [if_neg c]
        have k := tf_ok q
        exact V.sp c0 n (by omega) k.2.2.1 k.2.2.2
    · rw [if_neg c1] at q ⊢
      by_cases c2 : isW B P 9 = true
      · rw [if_pos c2] at q ⊢
        by_cases c : 5 ≤ D 0 8
        · rw [if_pos c] at q
          exact (rf_no (by omega) q).elim
        · rw [if_neg c] at q
          show DV (zset (if 5 ≤ D 0 8 then D else blD D (bvF B L P D)) 0 0 (D 0 0 + 1))
          rw [if_neg c]
          have kk := (bl_ok q).2
          have k5 := tf_ok (P := bl5 B L P D) kk
          have k4 := tf_ok (P := bl4 B L P D) k5.1
          have k3 := tf_ok (P := bl3 B L P D) k4.1
          have k2 := tf_ok (P := bl2 B L P D) k3.1
          have k1 := tf_ok (P := bl1 B L P D) k2.1
          have k0 := tf_ok (P := bl0 B L P D) k1.1
          have b0 : 0 ≤ bv0 B L P D ∧ bv0 B L P D ≤ D 0 7 - 1 := k0.2.2
          have b1 : 1 ≤ bv1 B L P D ∧ bv1 B L P D ≤ 3000 := k1.2.2
          have b6 : 0 ≤ bv6 B L P D ∧ bv6 B L P D ≤ bv1 B L P D := by
            have q' : blP B L P D 3 = 0 := q
            unfold blP at q'
            unfold bv6
            by_cases w : isW B (bl6 B L P D) 16 = true
            · rw [if_pos w] at q' ⊢
              exact (tf_ok q').2.2
            · rw [if_neg w]; omega
          exact V.bl c0 n (by omega) (show 0 ≤ bv0 B L P D ∧ bv0 B L P D < D 0 7 by omega) b1 k2.2.2 k3.2.2 k4.2.2 k5.2.2 b6
      · rw [if_neg c2] at q ⊢
        by_cases c3 : isW B P 4 = true
        · rw [if_pos c3] at q ⊢
          by_cases c : 6 ≤ D 0 9
          · rw [if_pos c] at q
            exact (rf_no (by omega) q).elim
          · rw [if_neg c] at q
            show DV (zset (if 6 ≤ D 0 9 then D else lnD D (lnA B L P) (lnO B L P)) 0 0 (D 0 0 + 1))
            rw [if_neg c]
            have k := tf_ok q
            exact V.lni c0 n (by omega) (tn_ok k.1).2.2 k.2.2
        · rw [if_neg c3] at q
          exact (rf_no (by omega) q).elim
theorem DV.lp (B : Int → Int) (L : Int) : ∀ (n : Nat) (P : Tp) (D : Dk), (P 3 = 0 → DV D) → (P 3 = 0 → D 0 0 + n ≤ 1000) → (lpN B L n P D).1 3 = 0 → DV (lpN B L n P D).2 := by
  intro n
  induction n with
  | zero => intro P D V _ h; exact V h
  | succ n ih =>
    intro P D V m h
    unfold lpN at h ⊢
    by_cases c : P 3 = 0 ∧ P 7 ≠ 0
    · rw [if_pos c] at h ⊢
      have Vd := V c.1
      have md := m c.1
      have e : (lnS B L P D).2 0 0 = D 0 0 + 1 := by
        show zset (lnQ B L P D).2 0 0 (D 0 0 + 1) 0 0 = D 0 0 + 1
        exact zset_s _ _ _ _
      exact ih _ _ (fun q => Vd.s (by omega) q) (fun _ => by omega) h
    · rw [if_neg c] at h ⊢
      exact V h
theorem zeD_V : DV zeD := by
  have e : ∀ k j, zeD k j = 0 := fun _ _ => rfl
  refine ⟨by rw [e]; omega, by rw [e]; omega, by rw [e]; omega, by rw [e]; omega, by rw [e]; omega, by rw [e]; omega, by rw [e]; omega, by rw [e]; omega, by rw [e]; omega, by rw [e]; omega, by rw [e]; omega, fun q => by rw [e] at q; omega, fun _ j _ _ => e 0 j, fun s s0 s1 => by rw [e] at s1; omega, fun s s0 s1 => by rw [e] at s1; omega, fun s s0 s1 => by rw [e] at s1; omega, fun s s0 s1 => by rw [e] at s1; omega⟩
theorem n_desk_V {D : Dk} (V : DV D) (B : Int → Int) (L : Int) : DV (n_desk B L D) := by
  unfold n_desk
  by_cases c : (rdT B L).1 3 = 0
  · rw [if_pos c]
    exact DV.lp B L 700 _ _ (fun _ => zeD_V) (fun _ => by show (0 : Int) + (700 : Nat) ≤ 1000; omega) c
  · rw [if_neg c]; exact V

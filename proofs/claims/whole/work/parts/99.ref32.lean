theorem tkR_gt {B : Int → Int} {L s : Int} (h : s < L) : s + 1 ≤ (tkR B L s).1 := by
  have k : tkK B L s = kdB (B s) := by unfold tkK; rw [if_pos h]
  have dg := dgB_rng (B s)
  have t : s + 1 ≤ tkE L s (kdB (B s)) := by unfold tkE; split <;> omega
  unfold tkR rnI
  rw [k, show (tkE L s (kdB (B s)) - s).toNat = (tkE L s (kdB (B s)) - s - 1).toNat + 1 by omega]
  unfold rnN
  rw [if_pos ⟨by omega, rfl⟩]
  exact (rnN_rng B _ _ _ (s + 1) _ (by omega) (by omega)).1.1
theorem nx_gt {B : Int → Int} {L : Int} {P : Tp} (V : TV L P) (p3 : P 3 = 0) (h : nxP B L P 7 ≠ 0) : P 5 + 1 ≤ nxP B L P 5 := by
  have e : nxP B L P = tkP B L P (skI B L (P 5)) := by unfold nxP; rw [if_pos p3]
  rw [e] at h ⊢
  have s := skI_rng B V.2.1.2.2
  have h' : tkK B L (skI B L (P 5)) ≠ 0 := h
  have l : skI B L (P 5) < L := by
    by_cases q : skI B L (P 5) < L
    · exact q
    · exact absurd (by unfold tkK; rw [if_neg q]) h'
  have g := tkR_gt (B := B) l
  show P 5 + 1 ≤ (tkR B L (skI B L (P 5))).1
  omega
theorem ln_gt {B : Int → Int} {L : Int} {P : Tp} {D : Dk} (V : TV L P) (h3 : (lnS B L P D).1 3 = 0) (h7 : (lnS B L P D).1 7 ≠ 0) : P 5 + 1 ≤ (lnS B L P D).1 5 := by
  have VQ := V.q B D
  have q := lnQ_le (B := B) (D := D) V
  have h3' : tsP B L (lnQ B L P D).1 3 = 0 := h3
  have h7' : tsP B L (lnQ B L P D).1 7 ≠ 0 := h7
  show P 5 + 1 ≤ tsP B L (lnQ B L P D).1 5
  by_cases c : (lnQ B L P D).1 7 = 3
  · rw [tsP_y c] at h3' h7' ⊢
    have g := nx_gt VQ ((nxP_3 B L _).symm.trans h3') h7'
    omega
  · rw [tsP_n c] at h3'
    by_cases w : (lnQ B L P D).1 3 = 0
    · rw [rfu_3 w] at h3'; omega
    · rw [rfu_f w] at h3'; exact absurd h3' w
/-- no fault: its place is -1 -/
def Fp (P : Tp) : Prop := P 3 = 0 → P 4 = -1
theorem Fp.nx {P : Tp} (F : Fp P) (B : Int → Int) (L : Int) : Fp (nxP B L P) := fun h => (nxP_4 B L P).trans (F ((nxP_3 B L P).symm.trans h))
theorem Fp.rf {P : Tp} (F : Fp P) {c : Int} (c0 : 1 ≤ c) : Fp (rfu P c) := fun h => by
  by_cases w : P 3 = 0
  · rw [rfu_3 w] at h; omega
  · rw [rfu_f w] at h; exact absurd h w
theorem Fp.tw {P : Tp} (F : Fp P) (B : Int → Int) (L i : Int) : Fp (twP B L P i) := by
  unfold twP
  split
  · exact F.nx B L
  · exact (F.rf (by omega)).nx B L
theorem Fp.tn {P : Tp} (F : Fp P) (B : Int → Int) (L lo hi : Int) : Fp (tnP B L P lo hi) := by
  unfold tnP tnQ
  split
  · exact (F.rf (by omega)).nx B L
  · split
    · exact (F.rf (by omega)).nx B L
    · exact F.nx B L
theorem Fp.tf {P : Tp} (F : Fp P) (B : Int → Int) (L i lo hi : Int) : Fp (tfP B L P i lo hi) := (F.tw B L i).tn B L lo hi
theorem Fp.ts {P : Tp} (F : Fp P) (B : Int → Int) (L : Int) : Fp (tsP B L P) := by
  unfold tsP
  split
  · exact F.nx B L
  · exact (F.rf (by omega)).nx B L
theorem Fp.bl {P : Tp} (F : Fp P) (B : Int → Int) (L : Int) (D : Dk) : Fp (blP B L P D) := by
  have k6 : Fp (bl6 B L P D) := ((((((F.nx B L).tf B L 10 0 (D 0 7 - 1)).tf B L 11 1 3000).tf B L 12 0 20).tf B L 13 0 6).tf B L 14 0 6).tf B L 15 0 99
  unfold blP
  split
  · exact k6.tf B L 16 0 _
  · exact k6
theorem Fp.q {P : Tp} (F : Fp P) (B : Int → Int) (L : Int) (D : Dk) : Fp (lnQ B L P D).1 := by
  unfold lnQ
  split
  · exact ((((((F.tw B L 0).tf B L 1 1 7).tf B L 2 0 3).tf B L 3 0 10).tf B L 4 0 9999).tf B L 5 0 5000).tf B L 6 0 200
  · split
    · show Fp (if _ then _ else _)
      split
      · exact F.rf (by omega)
      · exact (F.nx B L).tf B L 8 0 9
    · split
      · show Fp (if _ then _ else _)
        split
        · exact F.rf (by omega)
        · exact F.bl B L D
      · split
        · show Fp (if _ then _ else _)
          split
          · exact F.rf (by omega)
          · exact ((F.nx B L).tn B L 1 3000).tf B L 17 0 6
        · exact F.rf (by omega)
theorem Fp.s {P : Tp} (F : Fp P) (B : Int → Int) (L : Int) (D : Dk) : Fp (lnS B L P D).1 := (F.q B L D).ts B L
theorem Fp.lp (B : Int → Int) (L : Int) : ∀ (n : Nat) (P : Tp) (D : Dk), Fp P → Fp (lpN B L n P D).1 := by
  intro n
  induction n with
  | zero => intro P D F; exact F
  | succ n ih =>
    intro P D F
    unfold lpN
    split
    · exact ih _ _ (F.s B L D)
    · exact F
theorem rd_fp (B : Int → Int) (L : Int) : Fp (rdT B L).1 := Fp.lp B L 700 _ _ (Fp.nx (fun _ => rfl) B L)
/-- once the values are right -/
theorem dk_ok {B : Int → Int} {L : Int} {P : Tp} (h : dk6 B L P 3 = 0) : nvR (twP B L (dk0 B L P) 1) 1 7 = tfV B L (dk0 B L P) 1 1 7 ∧ nvR (twP B L (dk1 B L P) 2) 0 3 = tfV B L (dk1 B L P) 2 0 3 ∧ nvR (twP B L (dk2 B L P) 3) 0 10 = tfV B L (dk2 B L P) 3 0 10 ∧ nvR (twP B L (dk3 B L P) 4) 0 9999 = tfV B L (dk3 B L P) 4 0 9999 ∧ nvR (twP B L (dk4 B L P) 5) 0 5000 = tfV B L (dk4 B L P) 5 0 5000 ∧ nvR (twP B L (dk5 B L P) 6) 0 200 = tfV B L (dk5 B L P) 6 0 200 := by
  have k5 := tf_ok (P := dk5 B L P) h
  have k4 := tf_ok (P := dk4 B L P) k5.1
  have k3 := tf_ok (P := dk3 B L P) k4.1
  have k2 := tf_ok (P := dk2 B L P) k3.1
  have k1 := tf_ok (P := dk1 B L P) k2.1
  have k0 := tf_ok (P := dk0 B L P) k1.1
  exact ⟨k0.2.1, k1.2.1, k2.2.1, k3.2.1, k4.2.1, k5.2.1⟩

theorem ls0 {B : Int → Int} {L : Int} {P : Tp} {D : Dk} : (lnS B L P D).2 0 0 = D 0 0 + 1 := zset_s (lnQ B L P D).2 0 0 (D 0 0 + 1)
theorem lsn {B : Int → Int} {L : Int} {P : Tp} {D : Dk} {j : Int} (h : j ≠ 0) : (lnS B L P D).2 0 j = (lnQ B L P D).2 0 j := zset_n (by omega)
theorem CT.ls {B : Int → Int} {L : Int} {P : Tp} {D : Dk} (c : CT D) (h : D 0 0 < 1000) : CT (lnS B L P D).2 := by
  have q := c.q (B := B) (L := L) (P := P)
  have c0 := c.2.2.2
  unfold CT at q ⊢
  rw [ls0, lsn (by decide), lsn (by decide), lsn (by decide)]
  omega
theorem L_desk {d : Nat} {h : zH} {B : Int → Int} {L : Int} (hd : 12 ≤ d) : ∀ (n : Nat) (h1 : zH) (P : Tp) (D : Dk), D 0 0 + (n : Int) = 700 → 0 ≤ D 0 0 → TV L P → CT D → PR h1 B L P → (P 3 = 0 → DR h1 4 D) → (P 3 = 0 → P 7 ≠ 0 → D 0 0 + 1 ≤ P 5) → Fr sX h h1 → zS mX10_desk (zr d) 13 [zA 108] [] TT h1 (zAnI (QD (lpN B L n P D).1 (lpN B L n P D).2 h)) := by
  intro n
  induction n with
  | zero =>
    intro h1 P D a2 a1 V c R RD G i9
    refine zS_aload_n (zdec eX10_desk 7 rfl) rfl rfl ?_
    refine zvI (M' := mX10_isGood) (As := []) (st := []) (zdec eX10_desk 8 rfl) kM_X10_204 kV_X10_isGood ⟨by decide, rfl⟩ rfl rfl rfl rfl rfl (by omega) (r_isGood R) ?_
    refine zS_if_eq (tgt := 166) (zdec eX10_desk 9 rfl) rfl (fun c1 => ?_) (fun c1 => ?_)
    · have z1 := d2i_0.mp c1
      have el : lpN B L 0 P D = (P, D) := rfl
      rw [el]
      exact M_dend (by omega) R RD i9
    · have z1 := d2i_n.mp c1
      refine zS_aload_n (zdec eX10_desk 10 rfl) rfl rfl ?_
      refine zS_getfieldE (x := 8) (v := (P 7)) (zdec eX10_desk 11 rfl) kF_X10_112 ⟨by decide, rfl⟩ rfl rfl rfl (R.2.2.2 z1).2.1 ?_
      refine zS_if_eq (tgt := 166) (zdec eX10_desk 12 rfl) rfl (fun c2 => ?_) (fun c2 => ?_)
      · have el : lpN B L 0 P D = (P, D) := rfl
        rw [el]
        exact M_dend (by omega) R RD i9
      · have g := G z1 c2
        have v1 := V.1
        have v2 := V.2.1
        exfalso; omega
  | succ n ih =>
    intro h1 P D a2 a1 V c R RD G i9
    refine zS_aload_n (zdec eX10_desk 7 rfl) rfl rfl ?_
    refine zvI (M' := mX10_isGood) (As := []) (st := []) (zdec eX10_desk 8 rfl) kM_X10_204 kV_X10_isGood ⟨by decide, rfl⟩ rfl rfl rfl rfl rfl (by omega) (r_isGood R) ?_
    refine zS_if_eq (tgt := 166) (zdec eX10_desk 9 rfl) rfl (fun c1 => ?_) (fun c1 => ?_)
    · have z1 := d2i_0.mp c1
      have el : lpN B L (n + 1) P D = (P, D) := by unfold lpN; rw [if_neg (fun w => z1 w.1)]
      rw [el]
      exact M_dend (by omega) R RD i9
    · have z1 := d2i_n.mp c1
      refine zS_aload_n (zdec eX10_desk 10 rfl) rfl rfl ?_
      refine zS_getfieldE (x := 8) (v := (P 7)) (zdec eX10_desk 11 rfl) kF_X10_112 ⟨by decide, rfl⟩ rfl rfl rfl (R.2.2.2 z1).2.1 ?_
      refine zS_if_eq (tgt := 166) (zdec eX10_desk 12 rfl) rfl (fun c2 => ?_) (fun c2 => ?_)
      · have el : lpN B L (n + 1) P D = (P, D) := by unfold lpN; rw [if_neg (fun w => w.2 c2)]
        rw [el]
        exact M_dend (by omega) R RD i9
      · have el : lpN B L (n + 1) P D = lpN B L n (lnS B L P D).1 (lnS B L P D).2 := if_pos ⟨z1, c2⟩
        rw [el]
        have T : ∀ h2, PR h2 B L (lnQ B L P D).1 → ((lnQ B L P D).1 3 = 0 → DR h2 4 (lnQ B L P D).2) → h2 114 4 = D 0 0 → Fr sX h h2 → zS mX10_desk (zr d) 142 [zA 108] [] TT h2 (zAnI (QD (lpN B L n (lnS B L P D).1 (lnS B L P D).2).1 (lpN B L n (lnS B L P D).1 (lnS B L P D).2).2 h)) := fun h2 R2 D2 n2 F2 => M_dtail (by omega) (by omega) (by omega) (V.q B D) R2 D2 n2 F2 (fun h3 R3 D3 F3 => ih h3 (lnS B L P D).1 (lnS B L P D).2 (by rw [ls0]; omega) (by rw [ls0]; omega) ((V.q B D).ts B) (c.ls (by omega)) R3 D3 (fun a b => by have g := G z1 c2; have k := ln_gt V a b; rw [ls0]; omega) F3)
        refine zS_aload_n (zdec eX10_desk 13 rfl) rfl rfl ?_
        refine zS_getref (i := 60) (zdec eX10_desk 14 rfl) kF_X10_31 ⟨by decide, rfl⟩ rfl rfl rfl rfl rfl ?_
        refine zS_iconst (zdec eX10_desk 15 rfl) rfl ?_
        refine zS_ialoadE (v := (D 0 0)) (zdec eX10_desk 16 rfl) ⟨by decide, rfl⟩ (by decide) (by decide) (RD z1).1 ?_
        refine zS_if_ne (tgt := 138) (zdec eX10_desk 17 rfl) rfl (fun c3 => ?_) (fun c3 => ?_)
        · refine zS_aload_n (zdec eX10_desk 70 rfl) rfl rfl ?_
          refine zvMV (M' := mX10_lineHere) (As := []) (st := []) (zdec eX10_desk 71 rfl) kM_X10_220 kV_X10_lineHere ⟨by decide, rfl⟩ rfl rfl rfl rfl rfl (by omega) (r_lineHere (by omega) V z1 R (RD z1) c c3) (fun h2 ⟨R2, D2, f2⟩ => ?_)
          exact T h2 R2 D2 ((f2 _ _ (by omega)).trans (RD z1).1) (i9.tr f2 (fun k j z => z) (fun k j z => z.elim (fun q => Or.inl (by omega)) (fun q => Or.inr q.2)))
        · have d0 : D 0 0 = 0 := by omega
          have eq : lnQ B L P D = (dk6 B L P, dkD B L P D) := by unfold lnQ; rw [if_pos d0]
          rw [eq] at T
          exact M_dfirst (by omega) V R (RD z1) i9 (fun h2 R2 D2 n2 F2 => T h2 R2 D2 (n2.trans (RD z1).1) F2)
theorem r_desk {d : Nat} {h : zH} {B : Int → Int} {L F Q : Int} (hd : 200 ≤ d) (l0 : 0 ≤ L ∧ L ≤ 700) (R : TR h B L F Q) : zMI d mX10_desk [zA 108] h (QD (rdT B L).1 (rdT B L).2 h) := by
  refine zmet rfl rfl rfl ?_
  refine zS_aload_n (zdec eX10_desk 0 rfl) rfl rfl ?_
  refine zS_iconst (zdec eX10_desk 1 rfl) rfl ?_
  refine zS_putfield (x := 0) (zdec eX10_desk 2 rfl) kF_X10_71 (Or.inl kf10_0) ⟨by decide, rfl⟩ rfl rfl rfl (Or.inl (fun q => by cases q)) ?_
  obtain ⟨h0, E0⟩ : ∃ x, x = zset h 108 0 0 := ⟨_, rfl⟩
  rw [show zset h 108 0 (0 : Int) = h0 from E0.symm]
  have f0 : Fr (fun k j => k = 108 ∧ j = 0) h h0 := by rw [E0]; exact Fr.rf.set ⟨rfl, rfl⟩
  refine zS_aload_n (zdec eX10_desk 3 rfl) rfl rfl ?_
  refine zvMV (M' := mX10_clears) (As := []) (st := []) (zdec eX10_desk 4 rfl) kM_X10_198 kV_X10_clears ⟨by decide, rfl⟩ rfl rfl rfl rfl rfl (by omega) (r_clears0 (by omega)) (fun h1 ⟨x1, x2, g1⟩ => ?_)
  have F1 : Fr sX h h1 := (f0.mono (S' := sX) (fun k j z => Or.inl (by omega))).tr g1 (fun k j z => z) (fun k j z => Or.inr (by unfold blk; omega))
  have B1 : BR h1 B L := ⟨(g1 _ _ (by omega)).trans ((f0 _ _ (by omega)).trans R.1), fun i i0 i1 => (g1 _ _ (by omega)).trans ((f0 _ _ (by omega)).trans (R.2.1 i i0 i1))⟩
  refine zS_aload_n (zdec eX10_desk 5 rfl) rfl rfl ?_
  refine zvMV (M' := mX10_begins) (As := []) (st := []) (zdec eX10_desk 6 rfl) kM_X10_201 kV_X10_begins ⟨by decide, rfl⟩ rfl rfl rfl rfl rfl (by omega) (r_begins (by omega) l0 B1) (fun h2 ⟨R2, g2⟩ => ?_)
  have V2 : TV L (nxP B L ini) := TV.nx ⟨l0, by show 0 ≤ (0 : Int) ∧ (0 : Int) ≤ 0 ∧ (0 : Int) ≤ L; omega, by show 0 ≤ (0 : Int) ∧ (0 : Int) ≤ 100000; omega, by show 0 ≤ (0 : Int) ∧ (0 : Int) ≤ 3; omega⟩ B
  exact L_desk (by omega) 700 h2 (nxP B L ini) zeD (show (0 : Int) + 700 = 700 by omega) (show (0 : Int) ≤ 0 by omega) V2 ⟨by show 0 ≤ (0 : Int) ∧ (0 : Int) ≤ 4; omega, by show 0 ≤ (0 : Int) ∧ (0 : Int) ≤ 5; omega, by show 0 ≤ (0 : Int) ∧ (0 : Int) ≤ 6; omega, by show 0 ≤ (0 : Int) ∧ (0 : Int) ≤ 1000; omega⟩ R2 (fun _ => (DR.ze x1 x2).fr g2 (fun k j z => by omega)) (fun a b => nx_gt (P := ini) ⟨l0, by show 0 ≤ (0 : Int) ∧ (0 : Int) ≤ 0 ∧ (0 : Int) ≤ L; omega, by show 0 ≤ (0 : Int) ∧ (0 : Int) ≤ 100000; omega, by show 0 ≤ (0 : Int) ∧ (0 : Int) ≤ 3; omega⟩ rfl b) (F1.tr g2 (fun k j z => z) (fun k j z => Or.inl (by omega)))

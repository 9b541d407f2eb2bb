def lnQ (B : Int → Int) (L : Int) (P : Tp) (D : Dk) : Tp × Dk := if D 0 0 = 0 then (dk6 B L P, dkD B L P D) else if isW B P 7 then (if 4 ≤ D 0 7 then rfu P 3 else spP B L P, if 4 ≤ D 0 7 then D else spD D (spV B L P)) else if isW B P 9 then (if 5 ≤ D 0 8 then rfu P 3 else blP B L P D, if 5 ≤ D 0 8 then D else blD D (bvF B L P D)) else if isW B P 4 then (if 6 ≤ D 0 9 then rfu P 3 else lnP B L P, if 6 ≤ D 0 9 then D else lnD D (lnA B L P) (lnO B L P)) else (rfu P 1, D)
def lnS (B : Int → Int) (L : Int) (P : Tp) (D : Dk) : Tp × Dk := (tsP B L (lnQ B L P D).1, zset (lnQ B L P D).2 0 0 (D 0 0 + 1))
def lpN (B : Int → Int) (L : Int) : Nat → Tp → Dk → Tp × Dk
  | 0, P, D => (P, D)
  | n + 1, P, D => if P 3 = 0 ∧ P 7 ≠ 0 then lpN B L n (lnS B L P D).1 (lnS B L P D).2 else (P, D)
def ini : Tp := fun j => if j = 4 then -1 else 0
def zeD : Dk := fun _ _ => 0
def rdT (B : Int → Int) (L : Int) : Tp × Dk := lpN B L 700 (nxP B L ini) zeD
theorem spD_e {D : Dk} {v k j : Int} (h1 : ¬ (k = 1 ∧ j = D 0 7)) (h2 : ¬ (k = 0 ∧ j = 7)) : spD D v k j = D k j := by unfold spD; rw [if_neg h1, if_neg h2]
theorem blD_e {D : Dk} {v : Int → Int} {k j : Int} (h1 : k ≠ 3 + D 0 8) (h2 : ¬ (k = 0 ∧ j = 8)) : blD D v k j = D k j := by unfold blD; rw [if_neg h1, if_neg h2]
theorem lnD_e {D : Dk} {a o k j : Int} (h1 : ¬ (k = 8 ∧ j = D 0 9)) (h2 : ¬ (k = 9 ∧ j = D 0 9)) (h3 : ¬ (k = 0 ∧ j = 9)) : lnD D a o k j = D k j := by unfold lnD; rw [if_neg h1, if_neg h2, if_neg h3]
theorem dkD_e {B : Int → Int} {L : Int} {P : Tp} {D : Dk} {k j : Int} (h : ¬ (k = 0 ∧ 1 ≤ j ∧ j ≤ 6)) : dkD B L P D k j = D k j := by
  unfold dkD
  rw [zset_n (by omega), zset_n (by omega), zset_n (by omega), zset_n (by omega), zset_n (by omega), zset_n (by omega)]
theorem lnQ_0 {B : Int → Int} {L : Int} {P : Tp} {D : Dk} (c : CT D) : (lnQ B L P D).2 0 0 = D 0 0 := by
  have c8 := c.2.1
  unfold lnQ
  split
  · show dkD B L P D 0 0 = D 0 0
    exact dkD_e (by omega)
  · split
    · show (if _ then _ else _ : Dk) 0 0 = _
      split
      · rfl
      · exact spD_e (by omega) (by omega)
    · split
      · show (if _ then _ else _ : Dk) 0 0 = _
        split
        · rfl
        · exact blD_e (by omega) (by omega)
      · split
        · show (if _ then _ else _ : Dk) 0 0 = _
          split
          · rfl
          · exact lnD_e (by omega) (by omega) (by omega)
        · rfl
theorem CT.q {B : Int → Int} {L : Int} {P : Tp} {D : Dk} (c : CT D) : CT (lnQ B L P D).2 := by
  have c7 := c.1
  have c8 := c.2.1
  have c9 := c.2.2.1
  have c0 := c.2.2.2
  unfold lnQ
  split
  · refine ⟨?_, ?_, ?_, ?_⟩
    · show 0 ≤ dkD B L P D 0 7 ∧ dkD B L P D 0 7 ≤ 4; rw [dkD_e (by omega)]; exact c7
    · show 0 ≤ dkD B L P D 0 8 ∧ dkD B L P D 0 8 ≤ 5; rw [dkD_e (by omega)]; exact c8
    · show 0 ≤ dkD B L P D 0 9 ∧ dkD B L P D 0 9 ≤ 6; rw [dkD_e (by omega)]; exact c9
    · show 0 ≤ dkD B L P D 0 0 ∧ dkD B L P D 0 0 ≤ 1000; rw [dkD_e (by omega)]; exact c0
  · split
    · show CT (if _ then _ else _)
      split
      · exact c
      · have e7 : spD D (spV B L P) 0 7 = D 0 7 + 1 := by unfold spD; rw [if_neg (by omega), if_pos (by omega)]
        exact ⟨by rw [e7]; omega, by rw [spD_e (by omega) (by omega)]; exact c8, by rw [spD_e (by omega) (by omega)]; exact c9, by rw [spD_e (by omega) (by omega)]; exact c0⟩
    · split
      · show CT (if _ then _ else _)
        split
        · exact c
        · have e8 : blD D (bvF B L P D) 0 8 = D 0 8 + 1 := by unfold blD; rw [if_neg (by omega), if_pos (by omega)]
          exact ⟨by rw [blD_e (by omega) (by omega)]; exact c7, by rw [e8]; omega, by rw [blD_e (by omega) (by omega)]; exact c9, by rw [blD_e (by omega) (by omega)]; exact c0⟩
      · split
        · show CT (if _ then _ else _)
          split
          · exact c
          · have e9 : lnD D (lnA B L P) (lnO B L P) 0 9 = D 0 9 + 1 := by unfold lnD; rw [if_neg (by omega), if_neg (by omega), if_pos (by omega)]
            exact ⟨by rw [lnD_e (by omega) (by omega) (by omega)]; exact c7, by rw [lnD_e (by omega) (by omega) (by omega)]; exact c8, by rw [e9]; omega, by rw [lnD_e (by omega) (by omega) (by omega)]; exact c0⟩
        · exact c
theorem TV.lb {L : Int} {P : Tp} (V : TV L P) (B : Int → Int) (D : Dk) : TV L (blP B L P D) := by
  unfold blP
  split
  · exact (V.bl B D).2.2.2.2.2.2.tf B 16 0 _
  · exact (V.bl B D).2.2.2.2.2.2
theorem TV.q {L : Int} {P : Tp} (V : TV L P) (B : Int → Int) (D : Dk) : TV L (lnQ B L P D).1 := by
  unfold lnQ
  split
  · exact (V.dk B).2.2.2.2.2.2
  · split
    · show TV L (if _ then _ else _)
      split
      · exact V.rf (by decide) (by decide)
      · exact (V.nx B).tf B 8 0 9
    · split
      · show TV L (if _ then _ else _)
        split
        · exact V.rf (by decide) (by decide)
        · exact V.lb B D
      · split
        · show TV L (if _ then _ else _)
          split
          · exact V.rf (by decide) (by decide)
          · exact ((V.nx B).tn B 1 3000).tf B 17 0 6
        · exact V.rf (by decide) (by decide)
theorem L_read {d : Nat} {h : zH} {B : Int → Int} {L : Int} (hd : 10 ≤ d) : ∀ (n : Nat) (e : Int) (h1 : zH) (P : Tp) (D : Dk), 0 ≤ e → e + n = 700 → D 0 0 = e → TV L P → CT D → TC h1 B L P → DC h1 3 D → Fr sT h h1 → zS mX7_read (zr d) 28 [zA 1, zI e] [] TT h1 (zAnV (fun h' => h' 1 2 = 0 ∧ h' 1 3 = (lpN B L n P D).1 3 ∧ h' 1 4 = (lpN B L n P D).1 4 ∧ DC h' 3 (lpN B L n P D).2 ∧ Fr sT h h')) := by
  intro n
  induction n with
  | zero =>
    intro e h1 P D a1 a2 l0 V c RT RD i1
    refine zS_iload_n (zdec eX7_read 16 rfl) rfl ?_
    refine zS_sipush (zdec eX7_read 17 rfl) rfl rfl ?_
    refine zS_icmp_ge (tgt := 142) (zdec eX7_read 18 rfl) rfl (fun cz => ?_) (fun cz => absurd (by omega) cz)
    refine zS_aload_n (zdec eX7_read 67 rfl) rfl rfl ?_
    refine zS_iconst (zdec eX7_read 68 rfl) rfl ?_
    refine zS_putfield (x := 2) (zdec eX7_read 69 rfl) kF_X7_26 (Or.inl kf7_2) ⟨by decide, rfl⟩ rfl rfl rfl (Or.inl (fun q => by cases q)) ?_
    exact zlMV (zdec eX7_read 70 rfl) rfl ⟨zset_s _ _ _ _, by rw [zset_j (by decide)]; exact RT.2.2 3 (by omega) (by omega), by rw [zset_j (by decide)]; exact RT.2.2 4 (by omega) (by omega), by exact RD.at (fun k j a b => congrFun (zset_k (by omega)) _), i1.set (by omega)⟩
  | succ n ih =>
    intro e h1 P D a1 a2 l0 V c RT RD i1
    have c0 := c.2.2.2
    refine zS_iload_n (zdec eX7_read 16 rfl) rfl ?_
    refine zS_sipush (zdec eX7_read 17 rfl) rfl rfl ?_
    refine zS_icmp_ge (tgt := 142) (zdec eX7_read 18 rfl) rfl (fun cz => absurd cz (by omega)) (fun cz => ?_)
    refine zS_aload_n (zdec eX7_read 19 rfl) rfl rfl ?_
    refine zS_getfieldE (x := 3) (v := (P 3)) (zdec eX7_read 20 rfl) kF_X7_32 ⟨by decide, rfl⟩ rfl rfl rfl (RT.2.2 3 (by omega) (by omega)) ?_
    refine zS_if_ne (tgt := 142) (zdec eX7_read 21 rfl) rfl (fun c1 => ?_) (fun c1 => ?_)
    · refine zS_aload_n (zdec eX7_read 67 rfl) rfl rfl ?_
      refine zS_iconst (zdec eX7_read 68 rfl) rfl ?_
      refine zS_putfield (x := 2) (zdec eX7_read 69 rfl) kF_X7_26 (Or.inl kf7_2) ⟨by decide, rfl⟩ rfl rfl rfl (Or.inl (fun q => by cases q)) ?_
      have el : lpN B L (n + 1) P D = (P, D) := by unfold lpN; rw [if_neg (fun w => c1 w.1)]
      exact zlMV (zdec eX7_read 70 rfl) rfl ⟨zset_s _ _ _ _, by rw [el]; rw [zset_j (by decide)]; exact RT.2.2 3 (by omega) (by omega), by rw [el]; rw [zset_j (by decide)]; exact RT.2.2 4 (by omega) (by omega), by rw [el]; exact RD.at (fun k j a b => congrFun (zset_k (by omega)) _), i1.set (by omega)⟩
    · refine zS_aload_n (zdec eX7_read 22 rfl) rfl rfl ?_
      refine zS_getfieldE (x := 7) (v := (P 7)) (zdec eX7_read 23 rfl) kF_X7_41 ⟨by decide, rfl⟩ rfl rfl rfl (RT.2.2 7 (by omega) (by omega)) ?_
      refine zS_if_eq (tgt := 142) (zdec eX7_read 24 rfl) rfl (fun c2 => ?_) (fun c2 => ?_)
      · refine zS_aload_n (zdec eX7_read 67 rfl) rfl rfl ?_
        refine zS_iconst (zdec eX7_read 68 rfl) rfl ?_
        refine zS_putfield (x := 2) (zdec eX7_read 69 rfl) kF_X7_26 (Or.inl kf7_2) ⟨by decide, rfl⟩ rfl rfl rfl (Or.inl (fun q => by cases q)) ?_
        have el : lpN B L (n + 1) P D = (P, D) := by unfold lpN; rw [if_neg (fun w => w.2 c2)]
        exact zlMV (zdec eX7_read 70 rfl) rfl ⟨zset_s _ _ _ _, by rw [el]; rw [zset_j (by decide)]; exact RT.2.2 3 (by omega) (by omega), by rw [el]; rw [zset_j (by decide)]; exact RT.2.2 4 (by omega) (by omega), by rw [el]; exact RD.at (fun k j a b => congrFun (zset_k (by omega)) _), i1.set (by omega)⟩
      · refine zS_aload_n (zdec eX7_read 25 rfl) rfl rfl ?_
        refine zS_getref (i := 12) (zdec eX7_read 26 rfl) kF_X7_18 ⟨by decide, rfl⟩ rfl rfl rfl rfl rfl ?_
        refine zS_getfieldE (x := 0) (v := (D 0 0)) (zdec eX7_read 27 rfl) kF_X7_44 ⟨by decide, rfl⟩ rfl rfl rfl (RD.1 0 (by decide) (by decide)) ?_
        refine zS_if_ne (tgt := 66) (zdec eX7_read 28 rfl) rfl (fun c3 => ?_) (fun c3 => ?_)
        · refine zS_aload_n (zdec eX7_read 32 rfl) rfl rfl ?_
          refine zS_ldcS (i := 7) (zdec eX7_read 33 rfl) rfl ?_
          refine zvI (M' := mX7_isWord) (As := [(5, 7)]) (st := []) (zdec eX7_read 34 rfl) kM_X7_52 kV_X7_isWord ⟨by decide, rfl⟩ rfl rfl rfl rfl rfl (by omega) (c_isWord (by omega) V RT (by decide) (by decide)) ?_
          refine zS_if_eq (tgt := 82) (zdec eX7_read 35 rfl) rfl (fun c4 => ?_) (fun c4 => ?_)
          · have z4 := b2i_0.mp c4
            refine zS_aload_n (zdec eX7_read 39 rfl) rfl rfl ?_
            refine zS_ldcS (i := 9) (zdec eX7_read 40 rfl) rfl ?_
            refine zvI (M' := mX7_isWord) (As := [(5, 9)]) (st := []) (zdec eX7_read 41 rfl) kM_X7_52 kV_X7_isWord ⟨by decide, rfl⟩ rfl rfl rfl rfl rfl (by omega) (c_isWord (by omega) V RT (by decide) (by decide)) ?_
            refine zS_if_eq (tgt := 98) (zdec eX7_read 42 rfl) rfl (fun c5 => ?_) (fun c5 => ?_)
            · have z5 := b2i_0.mp c5
              refine zS_aload_n (zdec eX7_read 46 rfl) rfl rfl ?_
              refine zS_ldcS (i := 4) (zdec eX7_read 47 rfl) rfl ?_
              refine zvI (M' := mX7_isWord) (As := [(5, 4)]) (st := []) (zdec eX7_read 48 rfl) kM_X7_52 kV_X7_isWord ⟨by decide, rfl⟩ rfl rfl rfl rfl rfl (by omega) (c_isWord (by omega) V RT (by decide) (by decide)) ?_
              refine zS_if_eq (tgt := 114) (zdec eX7_read 49 rfl) rfl (fun c6 => ?_) (fun c6 => ?_)
              · have z6 := b2i_0.mp c6
                refine zS_aload_n (zdec eX7_read 53 rfl) rfl rfl ?_
                refine zS_iconst (zdec eX7_read 54 rfl) rfl ?_
                refine zvMV (M' := mX7_refuse) (As := [zI 1]) (st := []) (zdec eX7_read 55 rfl) kM_X7_69 kV_X7_refuse ⟨by decide, rfl⟩ rfl rfl rfl rfl rfl (by omega) (c_refuse V RT) (fun h3 ⟨RT3, g3⟩ => ?_)
                have D3 := RD.f1 g3
                have f3 : Fr sT h1 h3 := g3.mono (fun k j z => Or.inl z)
                have eq : lnQ B L P D = ((lnQ B L P D).1, (lnQ B L P D).2) := rfl
                have RTq : TC h3 B L (lnQ B L P D).1 := by unfold lnQ; rw [if_neg c3, if_neg (by rw [z4]; decide), if_neg (by rw [z5]; decide), if_neg (by rw [z6]; decide)]; exact RT3
                have Dq : DC h3 3 (lnQ B L P D).2 := by unfold lnQ; rw [if_neg c3, if_neg (by rw [z4]; decide), if_neg (by rw [z5]; decide), if_neg (by rw [z6]; decide)]; exact D3
                refine zS_aload_n (zdec eX7_read 56 rfl) rfl rfl ?_
                refine zvMV (M' := mX7_takeSign) (As := []) (st := []) (zdec eX7_read 57 rfl) kM_X7_73 kV_X7_takeSign ⟨by decide, rfl⟩ rfl rfl rfl rfl rfl (by omega) (c_takeSign (by omega) (V.q B D) RTq) (fun h5 ⟨RT5, g5⟩ => ?_)
                have D5 := Dq.f1 g5
                have f5 : Fr sT h1 h5 := f3.tr g5 (fun k j z => z) (fun k j z => Or.inl z)
                have q5 : h5 3 0 = D 0 0 := (D5.1 0 (by decide) (by decide)).trans (lnQ_0 c)
                refine zS_aload_n (zdec eX7_read 58 rfl) rfl rfl ?_
                refine zS_getref (i := 12) (zdec eX7_read 59 rfl) kF_X7_18 ⟨by decide, rfl⟩ rfl rfl rfl rfl rfl ?_
                refine zS_dup (zdec eX7_read 60 rfl) (fun q => by cases q) ?_
                refine zS_getfieldE (x := 0) (v := (D 0 0)) (zdec eX7_read 61 rfl) kF_X7_44 ⟨by decide, rfl⟩ rfl rfl rfl q5 ?_
                refine zS_iconst (zdec eX7_read 62 rfl) rfl ?_
                refine zS_iadd (zdec eX7_read 63 rfl) ⟨by omega, by omega⟩ ?_
                refine zS_putfield (x := 0) (zdec eX7_read 64 rfl) kF_X7_44 (Or.inl kf0_0) ⟨by decide, rfl⟩ rfl rfl rfl (Or.inl (fun q => by cases q)) ?_
                refine zS_iinc (zdec eX7_read 65 rfl) rfl rfl ⟨by omega, by omega⟩ ?_
                refine zS_goto (tgt := 28) (zdec eX7_read 66 rfl) rfl ?_
                have el : lpN B L (n + 1) P D = lpN B L n (lnS B L P D).1 (lnS B L P D).2 := if_pos ⟨by omega, c2⟩
                rw [el]
                have cq := c.q (B := B) (L := L) (P := P)
                have e7 : ∀ j, j ≠ 0 → zset (lnQ B L P D).2 0 0 (D 0 0 + 1) 0 j = (lnQ B L P D).2 0 j := fun j w => zset_n (by omega)
                refine ih (e + 1) _ _ _ (by omega) (by omega) (show zset (lnQ B L P D).2 0 0 (D 0 0 + 1) 0 0 = e + 1 by rw [zset_s]; omega) ((V.q B D).ts B) ⟨by rw [show (lnS B L P D).2 0 7 = (lnQ B L P D).2 0 7 from e7 7 (by decide)]; exact cq.1, by rw [show (lnS B L P D).2 0 8 = (lnQ B L P D).2 0 8 from e7 8 (by decide)]; exact cq.2.1, by rw [show (lnS B L P D).2 0 9 = (lnQ B L P D).2 0 9 from e7 9 (by decide)]; exact cq.2.2.1, by rw [show (lnS B L P D).2 0 0 = D 0 0 + 1 from zset_s (lnQ B L P D).2 0 0 _]; omega⟩ (RT5.set (by decide) (by decide)) (D5.sc (by decide) (by decide)) ((i1.tr f5 (fun k j z => z) (fun k j z => z)).set (by omega))
              · have z6 := b2i_n.mp c6
                refine zS_aload_n (zdec eX7_read 50 rfl) rfl rfl ?_
                refine zvMV (M' := mX7_readIncome) (As := []) (st := []) (zdec eX7_read 51 rfl) kM_X7_66 kV_X7_readIncome ⟨by decide, rfl⟩ rfl rfl rfl rfl rfl (by omega) (c_readIncome (by omega) V RT RD c) (fun h3 ⟨RT3, D3, f3⟩ => ?_)
                refine zS_goto (tgt := 119) (zdec eX7_read 52 rfl) rfl ?_
                have eq : lnQ B L P D = ((lnQ B L P D).1, (lnQ B L P D).2) := rfl
                have RTq : TC h3 B L (lnQ B L P D).1 := by unfold lnQ; rw [if_neg c3, if_neg (by rw [z4]; decide), if_neg (by rw [z5]; decide), if_pos z6]; exact RT3
                have Dq : DC h3 3 (lnQ B L P D).2 := by unfold lnQ; rw [if_neg c3, if_neg (by rw [z4]; decide), if_neg (by rw [z5]; decide), if_pos z6]; exact D3
                refine zS_aload_n (zdec eX7_read 56 rfl) rfl rfl ?_
                refine zvMV (M' := mX7_takeSign) (As := []) (st := []) (zdec eX7_read 57 rfl) kM_X7_73 kV_X7_takeSign ⟨by decide, rfl⟩ rfl rfl rfl rfl rfl (by omega) (c_takeSign (by omega) (V.q B D) RTq) (fun h5 ⟨RT5, g5⟩ => ?_)
                have D5 := Dq.f1 g5
                have f5 : Fr sT h1 h5 := f3.tr g5 (fun k j z => z) (fun k j z => Or.inl z)
                have q5 : h5 3 0 = D 0 0 := (D5.1 0 (by decide) (by decide)).trans (lnQ_0 c)
                refine zS_aload_n (zdec eX7_read 58 rfl) rfl rfl ?_
                refine zS_getref (i := 12) (zdec eX7_read 59 rfl) kF_X7_18 ⟨by decide, rfl⟩ rfl rfl rfl rfl rfl ?_
                refine zS_dup (zdec eX7_read 60 rfl) (fun q => by cases q) ?_
                refine zS_getfieldE (x := 0) (v := (D 0 0)) (zdec eX7_read 61 rfl) kF_X7_44 ⟨by decide, rfl⟩ rfl rfl rfl q5 ?_
                refine zS_iconst (zdec eX7_read 62 rfl) rfl ?_
                refine zS_iadd (zdec eX7_read 63 rfl) ⟨by omega, by omega⟩ ?_
                refine zS_putfield (x := 0) (zdec eX7_read 64 rfl) kF_X7_44 (Or.inl kf0_0) ⟨by decide, rfl⟩ rfl rfl rfl (Or.inl (fun q => by cases q)) ?_
                refine zS_iinc (zdec eX7_read 65 rfl) rfl rfl ⟨by omega, by omega⟩ ?_
                refine zS_goto (tgt := 28) (zdec eX7_read 66 rfl) rfl ?_
                have el : lpN B L (n + 1) P D = lpN B L n (lnS B L P D).1 (lnS B L P D).2 := if_pos ⟨by omega, c2⟩
                rw [el]
                have cq := c.q (B := B) (L := L) (P := P)
                have e7 : ∀ j, j ≠ 0 → zset (lnQ B L P D).2 0 0 (D 0 0 + 1) 0 j = (lnQ B L P D).2 0 j := fun j w => zset_n (by omega)
                refine ih (e + 1) _ _ _ (by omega) (by omega) (show zset (lnQ B L P D).2 0 0 (D 0 0 + 1) 0 0 = e + 1 by rw [zset_s]; omega) ((V.q B D).ts B) ⟨by rw [show (lnS B L P D).2 0 7 = (lnQ B L P D).2 0 7 from e7 7 (by decide)]; exact cq.1, by rw [show (lnS B L P D).2 0 8 = (lnQ B L P D).2 0 8 from e7 8 (by decide)]; exact cq.2.1, by rw [show (lnS B L P D).2 0 9 = (lnQ B L P D).2 0 9 from e7 9 (by decide)]; exact cq.2.2.1, by rw [show (lnS B L P D).2 0 0 = D 0 0 + 1 from zset_s (lnQ B L P D).2 0 0 _]; omega⟩ (RT5.set (by decide) (by decide)) (D5.sc (by decide) (by decide)) ((i1.tr f5 (fun k j z => z) (fun k j z => z)).set (by omega))
            · have z5 := b2i_n.mp c5
              refine zS_aload_n (zdec eX7_read 43 rfl) rfl rfl ?_
              refine zvMV (M' := mX7_readBill) (As := []) (st := []) (zdec eX7_read 44 rfl) kM_X7_61 kV_X7_readBill ⟨by decide, rfl⟩ rfl rfl rfl rfl rfl (by omega) (c_readBill (by omega) V RT RD c) (fun h3 ⟨RT3, D3, f3⟩ => ?_)
              refine zS_goto (tgt := 119) (zdec eX7_read 45 rfl) rfl ?_
              have eq : lnQ B L P D = ((lnQ B L P D).1, (lnQ B L P D).2) := rfl
              have RTq : TC h3 B L (lnQ B L P D).1 := by unfold lnQ; rw [if_neg c3, if_neg (by rw [z4]; decide), if_pos z5]; exact RT3
              have Dq : DC h3 3 (lnQ B L P D).2 := by unfold lnQ; rw [if_neg c3, if_neg (by rw [z4]; decide), if_pos z5]; exact D3
              refine zS_aload_n (zdec eX7_read 56 rfl) rfl rfl ?_
              refine zvMV (M' := mX7_takeSign) (As := []) (st := []) (zdec eX7_read 57 rfl) kM_X7_73 kV_X7_takeSign ⟨by decide, rfl⟩ rfl rfl rfl rfl rfl (by omega) (c_takeSign (by omega) (V.q B D) RTq) (fun h5 ⟨RT5, g5⟩ => ?_)
              have D5 := Dq.f1 g5
              have f5 : Fr sT h1 h5 := f3.tr g5 (fun k j z => z) (fun k j z => Or.inl z)
              have q5 : h5 3 0 = D 0 0 := (D5.1 0 (by decide) (by decide)).trans (lnQ_0 c)
              refine zS_aload_n (zdec eX7_read 58 rfl) rfl rfl ?_
              refine zS_getref (i := 12) (zdec eX7_read 59 rfl) kF_X7_18 ⟨by decide, rfl⟩ rfl rfl rfl rfl rfl ?_
              refine zS_dup (zdec eX7_read 60 rfl) (fun q => by cases q) ?_
              refine zS_getfieldE (x := 0) (v := (D 0 0)) (zdec eX7_read 61 rfl) kF_X7_44 ⟨by decide, rfl⟩ rfl rfl rfl q5 ?_
              refine zS_iconst (zdec eX7_read 62 rfl) rfl ?_
              refine zS_iadd (zdec eX7_read 63 rfl) ⟨by omega, by omega⟩ ?_
              refine zS_putfield (x := 0) (zdec eX7_read 64 rfl) kF_X7_44 (Or.inl kf0_0) ⟨by decide, rfl⟩ rfl rfl rfl (Or.inl (fun q => by cases q)) ?_
              refine zS_iinc (zdec eX7_read 65 rfl) rfl rfl ⟨by omega, by omega⟩ ?_
              refine zS_goto (tgt := 28) (zdec eX7_read 66 rfl) rfl ?_
              have el : lpN B L (n + 1) P D = lpN B L n (lnS B L P D).1 (lnS B L P D).2 := if_pos ⟨by omega, c2⟩
              rw [el]
              have cq := c.q (B := B) (L := L) (P := P)
              have e7 : ∀ j, j ≠ 0 → zset (lnQ B L P D).2 0 0 (D 0 0 + 1) 0 j = (lnQ B L P D).2 0 j := fun j w => zset_n (by omega)
              refine ih (e + 1) _ _ _ (by omega) (by omega) (show zset (lnQ B L P D).2 0 0 (D 0 0 + 1) 0 0 = e + 1 by rw [zset_s]; omega) ((V.q B D).ts B) ⟨by rw [show (lnS B L P D).2 0 7 = (lnQ B L P D).2 0 7 from e7 7 (by decide)]; exact cq.1, by rw [show (lnS B L P D).2 0 8 = (lnQ B L P D).2 0 8 from e7 8 (by decide)]; exact cq.2.1, by rw [show (lnS B L P D).2 0 9 = (lnQ B L P D).2 0 9 from e7 9 (by decide)]; exact cq.2.2.1, by rw [show (lnS B L P D).2 0 0 = D 0 0 + 1 from zset_s (lnQ B L P D).2 0 0 _]; omega⟩ (RT5.set (by decide) (by decide)) (D5.sc (by decide) (by decide)) ((i1.tr f5 (fun k j z => z) (fun k j z => z)).set (by omega))
          · have z4 := b2i_n.mp c4
            refine zS_aload_n (zdec eX7_read 36 rfl) rfl rfl ?_
            refine zvMV (M' := mX7_readSupplier) (As := []) (st := []) (zdec eX7_read 37 rfl) kM_X7_56 kV_X7_readSupplier ⟨by decide, rfl⟩ rfl rfl rfl rfl rfl (by omega) (c_readSupplier (by omega) V RT RD c) (fun h3 ⟨RT3, D3, f3⟩ => ?_)
            refine zS_goto (tgt := 119) (zdec eX7_read 38 rfl) rfl ?_
            have eq : lnQ B L P D = ((lnQ B L P D).1, (lnQ B L P D).2) := rfl
            have RTq : TC h3 B L (lnQ B L P D).1 := by unfold lnQ; rw [if_neg c3, if_pos z4]; exact RT3
            have Dq : DC h3 3 (lnQ B L P D).2 := by unfold lnQ; rw [if_neg c3, if_pos z4]; exact D3
            refine zS_aload_n (zdec eX7_read 56 rfl) rfl rfl ?_
            refine zvMV (M' := mX7_takeSign) (As := []) (st := []) (zdec eX7_read 57 rfl) kM_X7_73 kV_X7_takeSign ⟨by decide, rfl⟩ rfl rfl rfl rfl rfl (by omega) (c_takeSign (by omega) (V.q B D) RTq) (fun h5 ⟨RT5, g5⟩ => ?_)
            have D5 := Dq.f1 g5
            have f5 : Fr sT h1 h5 := f3.tr g5 (fun k j z => z) (fun k j z => Or.inl z)
            have q5 : h5 3 0 = D 0 0 := (D5.1 0 (by decide) (by decide)).trans (lnQ_0 c)
            refine zS_aload_n (zdec eX7_read 58 rfl) rfl rfl ?_
            refine zS_getref (i := 12) (zdec eX7_read 59 rfl) kF_X7_18 ⟨by decide, rfl⟩ rfl rfl rfl rfl rfl ?_
            refine zS_dup (zdec eX7_read 60 rfl) (fun q => by cases q) ?_
            refine zS_getfieldE (x := 0) (v := (D 0 0)) (zdec eX7_read 61 rfl) kF_X7_44 ⟨by decide, rfl⟩ rfl rfl rfl q5 ?_
            refine zS_iconst (zdec eX7_read 62 rfl) rfl ?_
            refine zS_iadd (zdec eX7_read 63 rfl) ⟨by omega, by omega⟩ ?_
            refine zS_putfield (x := 0) (zdec eX7_read 64 rfl) kF_X7_44 (Or.inl kf0_0) ⟨by decide, rfl⟩ rfl rfl rfl (Or.inl (fun q => by cases q)) ?_
            refine zS_iinc (zdec eX7_read 65 rfl) rfl rfl ⟨by omega, by omega⟩ ?_
            refine zS_goto (tgt := 28) (zdec eX7_read 66 rfl) rfl ?_
            have el : lpN B L (n + 1) P D = lpN B L n (lnS B L P D).1 (lnS B L P D).2 := if_pos ⟨by omega, c2⟩
            rw [el]
            have cq := c.q (B := B) (L := L) (P := P)
            have e7 : ∀ j, j ≠ 0 → zset (lnQ B L P D).2 0 0 (D 0 0 + 1) 0 j = (lnQ B L P D).2 0 j := fun j w => zset_n (by omega)
            refine ih (e + 1) _ _ _ (by omega) (by omega) (show zset (lnQ B L P D).2 0 0 (D 0 0 + 1) 0 0 = e + 1 by rw [zset_s]; omega) ((V.q B D).ts B) ⟨by rw [show (lnS B L P D).2 0 7 = (lnQ B L P D).2 0 7 from e7 7 (by decide)]; exact cq.1, by rw [show (lnS B L P D).2 0 8 = (lnQ B L P D).2 0 8 from e7 8 (by decide)]; exact cq.2.1, by rw [show (lnS B L P D).2 0 9 = (lnQ B L P D).2 0 9 from e7 9 (by decide)]; exact cq.2.2.1, by rw [show (lnS B L P D).2 0 0 = D 0 0 + 1 from zset_s (lnQ B L P D).2 0 0 _]; omega⟩ (RT5.set (by decide) (by decide)) (D5.sc (by decide) (by decide)) ((i1.tr f5 (fun k j z => z) (fun k j z => z)).set (by omega))
        · refine zS_aload_n (zdec eX7_read 29 rfl) rfl rfl ?_
          refine zvMV (M' := mX7_readDesk) (As := []) (st := []) (zdec eX7_read 30 rfl) kM_X7_47 kV_X7_readDesk ⟨by decide, rfl⟩ rfl rfl rfl rfl rfl (by omega) (c_readDesk (by omega) V RT RD c) (fun h3 ⟨RT3, D3, f3⟩ => ?_)
          refine zS_goto (tgt := 119) (zdec eX7_read 31 rfl) rfl ?_
          have eq : lnQ B L P D = ((lnQ B L P D).1, (lnQ B L P D).2) := rfl
          have RTq : TC h3 B L (lnQ B L P D).1 := by unfold lnQ; rw [if_pos (by omega)]; exact RT3
          have Dq : DC h3 3 (lnQ B L P D).2 := by unfold lnQ; rw [if_pos (by omega)]; exact D3
          refine zS_aload_n (zdec eX7_read 56 rfl) rfl rfl ?_
          refine zvMV (M' := mX7_takeSign) (As := []) (st := []) (zdec eX7_read 57 rfl) kM_X7_73 kV_X7_takeSign ⟨by decide, rfl⟩ rfl rfl rfl rfl rfl (by omega) (c_takeSign (by omega) (V.q B D) RTq) (fun h5 ⟨RT5, g5⟩ => ?_)
          have D5 := Dq.f1 g5
          have f5 : Fr sT h1 h5 := f3.tr g5 (fun k j z => z) (fun k j z => Or.inl z)
          have q5 : h5 3 0 = D 0 0 := (D5.1 0 (by decide) (by decide)).trans (lnQ_0 c)
          refine zS_aload_n (zdec eX7_read 58 rfl) rfl rfl ?_
          refine zS_getref (i := 12) (zdec eX7_read 59 rfl) kF_X7_18 ⟨by decide, rfl⟩ rfl rfl rfl rfl rfl ?_
          refine zS_dup (zdec eX7_read 60 rfl) (fun q => by cases q) ?_
          refine zS_getfieldE (x := 0) (v := (D 0 0)) (zdec eX7_read 61 rfl) kF_X7_44 ⟨by decide, rfl⟩ rfl rfl rfl q5 ?_
          refine zS_iconst (zdec eX7_read 62 rfl) rfl ?_
          refine zS_iadd (zdec eX7_read 63 rfl) ⟨by omega, by omega⟩ ?_
          refine zS_putfield (x := 0) (zdec eX7_read 64 rfl) kF_X7_44 (Or.inl kf0_0) ⟨by decide, rfl⟩ rfl rfl rfl (Or.inl (fun q => by cases q)) ?_
          refine zS_iinc (zdec eX7_read 65 rfl) rfl rfl ⟨by omega, by omega⟩ ?_
          refine zS_goto (tgt := 28) (zdec eX7_read 66 rfl) rfl ?_
          have el : lpN B L (n + 1) P D = lpN B L n (lnS B L P D).1 (lnS B L P D).2 := if_pos ⟨by omega, c2⟩
          rw [el]
          have cq := c.q (B := B) (L := L) (P := P)
          have e7 : ∀ j, j ≠ 0 → zset (lnQ B L P D).2 0 0 (D 0 0 + 1) 0 j = (lnQ B L P D).2 0 j := fun j w => zset_n (by omega)
          refine ih (e + 1) _ _ _ (by omega) (by omega) (show zset (lnQ B L P D).2 0 0 (D 0 0 + 1) 0 0 = e + 1 by rw [zset_s]; omega) ((V.q B D).ts B) ⟨by rw [show (lnS B L P D).2 0 7 = (lnQ B L P D).2 0 7 from e7 7 (by decide)]; exact cq.1, by rw [show (lnS B L P D).2 0 8 = (lnQ B L P D).2 0 8 from e7 8 (by decide)]; exact cq.2.1, by rw [show (lnS B L P D).2 0 9 = (lnQ B L P D).2 0 9 from e7 9 (by decide)]; exact cq.2.2.1, by rw [show (lnS B L P D).2 0 0 = D 0 0 + 1 from zset_s (lnQ B L P D).2 0 0 _]; omega⟩ (RT5.set (by decide) (by decide)) (D5.sc (by decide) (by decide)) ((i1.tr f5 (fun k j z => z) (fun k j z => z)).set (by omega))
theorem c_clearAll {d : Nat} {h : zH} : zMV d mX0_clearAll [zA 3] h (fun h' => DC h' 3 zeD ∧ Fr (fun k _ => k = 3) h h') := by
  refine zmet rfl rfl rfl ?_
  refine zS_aload_n (zdec eX0_clearAll 0 rfl) rfl rfl ?_
  refine zS_iconst (zdec eX0_clearAll 1 rfl) rfl ?_
  refine zS_putfield (x := 0) (zdec eX0_clearAll 2 rfl) kF_X0_29 (Or.inl kf0_0) ⟨by decide, rfl⟩ rfl rfl rfl (Or.inl (fun q => by cases q)) ?_
  refine zS_aload_n (zdec eX0_clearAll 3 rfl) rfl rfl ?_
  refine zS_iconst (zdec eX0_clearAll 4 rfl) rfl ?_
  refine zS_putfield (x := 1) (zdec eX0_clearAll 5 rfl) kF_X0_33 (Or.inl kf0_1) ⟨by decide, rfl⟩ rfl rfl rfl (Or.inl (fun q => by cases q)) ?_
  refine zS_aload_n (zdec eX0_clearAll 6 rfl) rfl rfl ?_
  refine zS_iconst (zdec eX0_clearAll 7 rfl) rfl ?_
  refine zS_putfield (x := 2) (zdec eX0_clearAll 8 rfl) kF_X0_36 (Or.inl kf0_2) ⟨by decide, rfl⟩ rfl rfl rfl (Or.inl (fun q => by cases q)) ?_
  refine zS_aload_n (zdec eX0_clearAll 9 rfl) rfl rfl ?_
  refine zS_iconst (zdec eX0_clearAll 10 rfl) rfl ?_
  refine zS_putfield (x := 3) (zdec eX0_clearAll 11 rfl) kF_X0_39 (Or.inl kf0_3) ⟨by decide, rfl⟩ rfl rfl rfl (Or.inl (fun q => by cases q)) ?_
  refine zS_aload_n (zdec eX0_clearAll 12 rfl) rfl rfl ?_
  refine zS_iconst (zdec eX0_clearAll 13 rfl) rfl ?_
  refine zS_putfield (x := 4) (zdec eX0_clearAll 14 rfl) kF_X0_42 (Or.inl kf0_4) ⟨by decide, rfl⟩ rfl rfl rfl (Or.inl (fun q => by cases q)) ?_
  refine zS_aload_n (zdec eX0_clearAll 15 rfl) rfl rfl ?_
  refine zS_iconst (zdec eX0_clearAll 16 rfl) rfl ?_
  refine zS_putfield (x := 5) (zdec eX0_clearAll 17 rfl) kF_X0_45 (Or.inl kf0_5) ⟨by decide, rfl⟩ rfl rfl rfl (Or.inl (fun q => by cases q)) ?_
  refine zS_aload_n (zdec eX0_clearAll 18 rfl) rfl rfl ?_
  refine zS_iconst (zdec eX0_clearAll 19 rfl) rfl ?_
  refine zS_putfield (x := 6) (zdec eX0_clearAll 20 rfl) kF_X0_48 (Or.inl kf0_6) ⟨by decide, rfl⟩ rfl rfl rfl (Or.inl (fun q => by cases q)) ?_
  refine zS_aload_n (zdec eX0_clearAll 21 rfl) rfl rfl ?_
  refine zS_iconst (zdec eX0_clearAll 22 rfl) rfl ?_
  refine zS_putfield (x := 7) (zdec eX0_clearAll 23 rfl) kF_X0_51 (Or.inl kf0_7) ⟨by decide, rfl⟩ rfl rfl rfl (Or.inl (fun q => by cases q)) ?_
  refine zS_aload_n (zdec eX0_clearAll 24 rfl) rfl rfl ?_
  refine zS_iconst (zdec eX0_clearAll 25 rfl) rfl ?_
  refine zS_putfield (x := 8) (zdec eX0_clearAll 26 rfl) kF_X0_54 (Or.inl kf0_8) ⟨by decide, rfl⟩ rfl rfl rfl (Or.inl (fun q => by cases q)) ?_
  refine zS_aload_n (zdec eX0_clearAll 27 rfl) rfl rfl ?_
  refine zS_iconst (zdec eX0_clearAll 28 rfl) rfl ?_
  refine zS_putfield (x := 9) (zdec eX0_clearAll 29 rfl) kF_X0_57 (Or.inl kf0_9) ⟨by decide, rfl⟩ rfl rfl rfl (Or.inl (fun q => by cases q)) ?_
  refine zS_aload_n (zdec eX0_clearAll 30 rfl) rfl rfl ?_
  refine zS_iconst (zdec eX0_clearAll 31 rfl) rfl ?_
  refine zS_putfield (x := 10) (zdec eX0_clearAll 32 rfl) kF_X0_60 (Or.inl kf0_10) ⟨by decide, rfl⟩ rfl rfl rfl (Or.inl (fun q => by cases q)) ?_
  exact zlMV (zdec eX0_clearAll 33 rfl) rfl ⟨⟨fun j j0 j1 => by rcases (show j = 0 ∨ j = 1 ∨ j = 2 ∨ j = 3 ∨ j = 4 ∨ j = 5 ∨ j = 6 ∨ j = 7 ∨ j = 8 ∨ j = 9 ∨ j = 10 by omega) with rfl | rfl | rfl | rfl | rfl | rfl | rfl | rfl | rfl | rfl | rfl <;> rfl, fun s s0 s1 s2 => absurd s2 (by show ¬ (s < (0 : Int)); omega), fun k w k0 k1 k2 => absurd k2 (by show ¬ (k < (0 : Int)); omega), fun i i0 i1 i2 => absurd i2 (by show ¬ (i < (0 : Int)); omega), fun i i0 i1 i2 => absurd i2 (by show ¬ (i < (0 : Int)); omega)⟩, (((((((((((Fr.rf.set (by omega)).set (by omega)).set (by omega)).set (by omega)).set (by omega)).set (by omega)).set (by omega)).set (by omega)).set (by omega)).set (by omega)).set (by omega))⟩
def TX (h : zH) (B : Int → Int) (L F Q : Int) : Prop := h 1 2 = L ∧ (∀ i, 0 ≤ i → i < L → h 2 i = B i) ∧ h 1 3 = F ∧ h 1 4 = Q
theorem nx_ini {h : zH} {B : Int → Int} {L : Int} (h3 : h 1 3 = 0) (h4 : h 1 4 = -1) (h5 : h 1 5 = 0) {h' : zH} (R : TC h' B L (nxP B L (fun j => h 1 j))) : TC h' B L (nxP B L ini) := by
  refine ⟨R.1, R.2.1, fun j j0 j1 => (R.2.2 j j0 j1).trans ?_⟩
  unfold nxP
  rw [if_pos h3, if_pos (show ini 3 = 0 from rfl), show ini 5 = 0 from rfl]
  show tkP B L (fun j => h 1 j) (skI B L (h 1 5)) j = tkP B L ini (skI B L 0) j
  rw [h5]
  unfold tkP
  rcases (show j = 3 ∨ j = 4 ∨ j = 5 ∨ j = 6 ∨ j = 7 ∨ j = 8 by omega) with rfl | rfl | rfl | rfl | rfl | rfl
  · exact h3
  · exact h4
  · rfl
  · rfl
  · rfl
  · rfl
theorem c_read {d : Nat} {h : zH} {B : Int → Int} {L F Q : Int} (hd : 11 ≤ d) (l0 : 0 ≤ L ∧ L ≤ 700) (R : TX h B L F Q) : zMV d mX7_read [zA 1] h (fun h' => h' 1 2 = 0 ∧ h' 1 3 = (rdT B L).1 3 ∧ h' 1 4 = (rdT B L).1 4 ∧ DC h' 3 (rdT B L).2 ∧ Fr sT h h') := by
  refine zmet rfl rfl rfl ?_
  refine zS_aload_n (zdec eX7_read 0 rfl) rfl rfl ?_
  refine zS_getref (i := 12) (zdec eX7_read 1 rfl) kF_X7_18 ⟨by decide, rfl⟩ rfl rfl rfl rfl rfl ?_
  refine zvMV (M' := mX0_clearAll) (As := []) (st := []) (zdec eX7_read 2 rfl) kM_X7_29 kV_X0_clearAll ⟨by decide, rfl⟩ rfl rfl rfl rfl rfl (by omega) c_clearAll (fun h2 ⟨D2, g2⟩ => ?_)
  refine zS_aload_n (zdec eX7_read 3 rfl) rfl rfl ?_
  refine zS_iconst (zdec eX7_read 4 rfl) rfl ?_
  refine zS_putfield (x := 3) (zdec eX7_read 5 rfl) kF_X7_32 (Or.inl kf7_3) ⟨by decide, rfl⟩ rfl rfl rfl (Or.inl (fun q => by cases q)) ?_
  refine zS_aload_n (zdec eX7_read 6 rfl) rfl rfl ?_
  refine zS_iconst (zdec eX7_read 7 rfl) rfl ?_
  refine zS_putfield (x := 4) (zdec eX7_read 8 rfl) kF_X7_22 (Or.inl kf7_4) ⟨by decide, rfl⟩ rfl rfl rfl (Or.inl (fun q => by cases q)) ?_
  refine zS_aload_n (zdec eX7_read 9 rfl) rfl rfl ?_
  refine zS_iconst (zdec eX7_read 10 rfl) rfl ?_
  refine zS_putfield (x := 5) (zdec eX7_read 11 rfl) kF_X7_35 (Or.inl kf7_5) ⟨by decide, rfl⟩ rfl rfl rfl (Or.inl (fun q => by cases q)) ?_
  have RT0 : TC (zset (zset (zset h2 1 3 0) 1 4 (-1)) 1 5 0) B L (fun j => (zset (zset (zset h2 1 3 0) 1 4 (-1)) 1 5 0) 1 j) := ⟨by rw [zset_n (by omega), zset_n (by omega), zset_n (by omega), g2 _ _ (by omega)]; exact R.1, fun i i0 i1 => by rw [zset_n (by omega), zset_n (by omega), zset_n (by omega), g2 _ _ (by omega)]; exact R.2.1 i i0 i1, fun j j0 j1 => rfl⟩
  refine zS_aload_n (zdec eX7_read 12 rfl) rfl rfl ?_
  refine zvMV (M' := mX7_nextToken) (As := []) (st := []) (zdec eX7_read 13 rfl) kM_X7_38 kV_X7_nextToken ⟨by decide, rfl⟩ rfl rfl rfl rfl rfl (by omega) (c_nextToken0 (P := fun j => (zset (zset (zset h2 1 3 0) 1 4 (-1)) 1 5 0) 1 j) (by omega) l0 (by show 0 ≤ (0 : Int) ∧ (0 : Int) ≤ L; omega) RT0) (fun h5 ⟨RT5, g5⟩ => ?_)
  have RTi := nx_ini (h := (zset (zset (zset h2 1 3 0) 1 4 (-1)) 1 5 0)) rfl rfl rfl RT5
  have V5 : TV L (nxP B L ini) := TV.nx ⟨l0, by show 0 ≤ (0 : Int) ∧ (0 : Int) ≤ 0 ∧ (0 : Int) ≤ L; omega, by show 0 ≤ (0 : Int) ∧ (0 : Int) ≤ 100000; omega, by show 0 ≤ (0 : Int) ∧ (0 : Int) ≤ 3; omega⟩ B
  have D5 : DC h5 3 zeD := (D2.at (b := 3) (h' := (zset (zset (zset h2 1 3 0) 1 4 (-1)) 1 5 0)) (fun k j a b => by rw [zset_n (by omega), zset_n (by omega), zset_n (by omega)])).f1 g5
  have f5 : Fr sT h h5 := ((((g2.mono (fun k j z => by omega : ∀ k j : Int, k = 3 → sT k j)).set (by omega)).set (by omega)).set (by omega)).tr g5 (fun k j z => z) (fun k j z => Or.inl z)
  refine zS_iconst (zdec eX7_read 14 rfl) rfl ?_
  refine zS_istore_n (zdec eX7_read 15 rfl) rfl ?_
  exact L_read (by omega) 700 0 h5 (nxP B L ini) zeD (by omega) (by omega) rfl V5 ⟨by show 0 ≤ (0 : Int) ∧ (0 : Int) ≤ 4; omega, by show 0 ≤ (0 : Int) ∧ (0 : Int) ≤ 5; omega, by show 0 ≤ (0 : Int) ∧ (0 : Int) ≤ 6; omega, by show 0 ≤ (0 : Int) ∧ (0 : Int) ≤ 1000; omega⟩ RTi D5 f5
def a_desk (B : Int → Int) (L : Int) : Int := if (rdT B L).1 3 = 0 then (rdT B L).2 0 0 else -4
def n_desk (B : Int → Int) (L : Int) (D : Dk) : Dk := if (rdT B L).1 3 = 0 then (rdT B L).2 else D
theorem p_desk {d : Nat} {h : zH} {B : Int → Int} {L F Q : Int} {D : Dk} (hd : 20 ≤ d) (l0 : 0 ≤ L ∧ L ≤ 700) (R : TX h B L F Q) (RD : DC h 15 D) : zMI d mX9_desk [zA 0] h (fun r h' => r = a_desk B L ∧ DC h' 15 (n_desk B L D) ∧ TX h' B 0 ((rdT B L).1 3) ((rdT B L).1 4) ∧ Fr (fun k _ => 1 ≤ k ∧ k ≤ 25) h h') := by
  refine zmet rfl rfl rfl ?_
  refine zS_aload_n (zdec eX9_desk 0 rfl) rfl rfl ?_
  refine zS_getref (i := 0) (zdec eX9_desk 1 rfl) kF_X9_10 ⟨by decide, rfl⟩ rfl rfl rfl rfl rfl ?_
  refine zvMV (M' := mX7_read) (As := []) (st := []) (zdec eX9_desk 2 rfl) kM_X9_89 kV_X7_read ⟨by decide, rfl⟩ rfl rfl rfl rfl rfl (by omega) (c_read (by omega) l0 R) (fun h3 ⟨e2, e3, e4, D3, f3⟩ => ?_)
  refine zS_aload_n (zdec eX9_desk 3 rfl) rfl rfl ?_
  refine zS_getref (i := 0) (zdec eX9_desk 4 rfl) kF_X9_10 ⟨by decide, rfl⟩ rfl rfl rfl rfl rfl ?_
  refine zS_getfieldE (x := 3) (v := ((rdT B L).1 3)) (zdec eX9_desk 5 rfl) kF_X9_92 ⟨by decide, rfl⟩ rfl rfl rfl e3 ?_
  refine zS_if_eq (tgt := 20) (zdec eX9_desk 6 rfl) rfl (fun c1 => ?_) (fun c1 => ?_)
  · refine zS_aload_n (zdec eX9_desk 9 rfl) rfl rfl ?_
    refine zS_getref (i := 2) (zdec eX9_desk 10 rfl) kF_X9_27 ⟨by decide, rfl⟩ rfl rfl rfl rfl rfl ?_
    refine zS_aload_n (zdec eX9_desk 11 rfl) rfl rfl ?_
    refine zS_getref (i := 0) (zdec eX9_desk 12 rfl) kF_X9_10 ⟨by decide, rfl⟩ rfl rfl rfl rfl rfl ?_
    refine zS_getref (i := 12) (zdec eX9_desk 13 rfl) kF_X9_95 ⟨by decide, rfl⟩ rfl rfl rfl rfl rfl ?_
    refine zvMV (M' := mX0_become) (As := [zA 3]) (st := []) (zdec eX9_desk 14 rfl) kM_X9_98 kV_X0_become ⟨by decide, rfl⟩ rfl rfl rfl rfl rfl (by omega) (c_become_15_3 (by omega) D3) (fun h5 ⟨D5, g5⟩ => ?_)
    have q5 := D5.1 0 (by decide) (by decide)
    refine zS_aload_n (zdec eX9_desk 15 rfl) rfl rfl ?_
    refine zS_getref (i := 2) (zdec eX9_desk 16 rfl) kF_X9_27 ⟨by decide, rfl⟩ rfl rfl rfl rfl rfl ?_
    refine zS_getfieldE (x := 0) (v := ((rdT B L).2 0 0)) (zdec eX9_desk 17 rfl) kF_X9_102 ⟨by decide, rfl⟩ rfl rfl rfl q5 ?_
    exact zlMI (zdec eX9_desk 18 rfl) rfl ⟨by unfold a_desk; rw [if_pos c1], by unfold n_desk; rw [if_pos c1]; exact D5, ⟨(g5 _ _ (by omega)).trans e2, fun i i0 i1 => by omega, (g5 _ _ (by omega)).trans e3, (g5 _ _ (by omega)).trans e4⟩, f3.tr g5 (fun k j z => by omega) (fun k j z => by omega)⟩
  · refine zS_bipush (zdec eX9_desk 7 rfl) rfl rfl ?_
    exact zlMI (zdec eX9_desk 8 rfl) rfl ⟨by unfold a_desk; rw [if_neg c1], by unfold n_desk; rw [if_neg c1]; exact RD.fr f3 (fun k j z => by omega), ⟨e2, fun i i0 i1 => by omega, e3, e4⟩, f3.mono (fun k j z => by omega)⟩
def a_fault (F Q x : Int) : Int := if x = 0 then F else if x = 1 then Q else -1
def a_end (L x : Int) : Int := if 0 ≤ x ∧ x ≤ L then x else -1
def n_end (L x : Int) : Int := if 0 ≤ x ∧ x ≤ L then x else L
theorem p_fault {d : Nat} {h : zH} {B : Int → Int} {L F Q x : Int} (R : TX h B L F Q) : zPI d mX9_fault [zA 0, zI x] h (a_fault F Q x) := by
  refine zmet rfl rfl rfl ?_
  refine zS_iload_n (zdec eX9_fault 0 rfl) rfl ?_
  refine zS_if_ne (tgt := 12) (zdec eX9_fault 1 rfl) rfl (fun c1 => ?_) (fun c1 => ?_)
  · refine zS_iload_n (zdec eX9_fault 6 rfl) rfl ?_
    refine zS_iconst (zdec eX9_fault 7 rfl) rfl ?_
    refine zS_icmp_ne (tgt := 27) (zdec eX9_fault 8 rfl) rfl (fun c2 => ?_) (fun c2 => ?_)
    · refine zS_iconst (zdec eX9_fault 13 rfl) rfl ?_
      exact zlI (zdec eX9_fault 14 rfl) rfl (by unfold a_fault; rw [if_neg (by omega), if_neg (by omega)])
    · refine zS_aload_n (zdec eX9_fault 9 rfl) rfl rfl ?_
      refine zS_getref (i := 0) (zdec eX9_fault 10 rfl) kF_X9_10 ⟨by decide, rfl⟩ rfl rfl rfl rfl rfl ?_
      refine zS_getfieldE (x := 4) (v := Q) (zdec eX9_fault 11 rfl) kF_X9_105 ⟨by decide, rfl⟩ rfl rfl rfl R.2.2.2 ?_
      refine zS_goto (tgt := 28) (zdec eX9_fault 12 rfl) rfl ?_
      exact zlI (zdec eX9_fault 14 rfl) rfl (by unfold a_fault; rw [if_neg (by omega), if_pos (by omega)])
  · refine zS_aload_n (zdec eX9_fault 2 rfl) rfl rfl ?_
    refine zS_getref (i := 0) (zdec eX9_fault 3 rfl) kF_X9_10 ⟨by decide, rfl⟩ rfl rfl rfl rfl rfl ?_
    refine zS_getfieldE (x := 3) (v := F) (zdec eX9_fault 4 rfl) kF_X9_92 ⟨by decide, rfl⟩ rfl rfl rfl R.2.2.1 ?_
    exact zlI (zdec eX9_fault 5 rfl) rfl (by unfold a_fault; rw [if_pos (by omega)])
theorem p_end {d : Nat} {h : zH} {B : Int → Int} {L F Q x : Int} (R : TX h B L F Q) : zMI d mX9_end [zA 0, zI x] h (fun r h' => r = a_end L x ∧ TX h' B (n_end L x) F Q ∧ Fr (fun k j => k = 1 ∧ j = 2) h h') := by
  refine zmet rfl rfl rfl ?_
  refine zS_iload_n (zdec eX9_end 0 rfl) rfl ?_
  refine zS_if_lt (tgt := 15) (zdec eX9_end 1 rfl) rfl (fun c1 => ?_) (fun c1 => ?_)
  · refine zS_iconst (zdec eX9_end 7 rfl) rfl ?_
    exact zlMI (zdec eX9_end 8 rfl) rfl ⟨by unfold a_end; rw [if_neg (by omega)], by unfold n_end; rw [if_neg (by omega)]; exact R, Fr.rf⟩
  · refine zS_iload_n (zdec eX9_end 2 rfl) rfl ?_
    refine zS_aload_n (zdec eX9_end 3 rfl) rfl rfl ?_
    refine zS_getref (i := 0) (zdec eX9_end 4 rfl) kF_X9_10 ⟨by decide, rfl⟩ rfl rfl rfl rfl rfl ?_
    refine zS_getfieldE (x := 2) (v := L) (zdec eX9_end 5 rfl) kF_X9_81 ⟨by decide, rfl⟩ rfl rfl rfl R.1 ?_
    refine zS_icmp_le (tgt := 17) (zdec eX9_end 6 rfl) rfl (fun c2 => ?_) (fun c2 => ?_)
    · refine zS_aload_n (zdec eX9_end 9 rfl) rfl rfl ?_
      refine zS_getref (i := 0) (zdec eX9_end 10 rfl) kF_X9_10 ⟨by decide, rfl⟩ rfl rfl rfl rfl rfl ?_
      refine zS_iload_n (zdec eX9_end 11 rfl) rfl ?_
      refine zS_putfield (x := 2) (zdec eX9_end 12 rfl) kF_X9_81 (Or.inl kf7_2) ⟨by decide, rfl⟩ rfl rfl rfl (Or.inl (fun q => by cases q)) ?_
      refine zS_iload_n (zdec eX9_end 13 rfl) rfl ?_
      exact zlMI (zdec eX9_end 14 rfl) rfl ⟨by unfold a_end; rw [if_pos (by omega)], by unfold n_end; rw [if_pos (by omega)]; exact ⟨zset_s _ _ _ _, fun i i0 i1 => by rw [zset_n (by omega)]; exact R.2.1 i i0 (by omega), by rw [zset_n (by omega)]; exact R.2.2.1, by rw [zset_n (by omega)]; exact R.2.2.2⟩, Fr.rf.set ⟨rfl, rfl⟩⟩
    · refine zS_iconst (zdec eX9_end 7 rfl) rfl ?_
      exact zlMI (zdec eX9_end 8 rfl) rfl ⟨by unfold a_end; rw [if_neg (by omega)], by unfold n_end; rw [if_neg (by omega)]; exact R, Fr.rf⟩
def adB (B : Int → Int) (L x : Int) : Int → Int := fun j => if j = L then zB8 (zShr x 24) else if j = L + 1 then zB8 (zShr x 16) else if j = L + 2 then zB8 (zShr x 8) else if j = L + 3 then zB8 (zShr x 0) else B j
theorem zB8_rng (a : Int) : -128 ≤ zB8 a ∧ zB8 a < 128 := by
  unfold zB8
  rw [Int8.toInt_toInt32]
  exact ⟨Int8.le_toInt _, Int8.toInt_lt _⟩
theorem c_add {d : Nat} {h : zH} {B : Int → Int} {L F Q x : Int} (R : TX h B L F Q) (l0 : 0 ≤ L) (l1 : L + 4 ≤ 700) : zMV d mX7_add [zA 1, zI x] h (fun h' => TX h' (adB B L x) (L + 4) F Q ∧ Fr (fun k j => (k = 1 ∧ j = 2) ∨ k = 2) h h') := by
  refine zmet rfl rfl rfl ?_
  refine zS_bipush (zdec eX7_add 0 rfl) rfl rfl ?_
  refine zS_istore_n (zdec eX7_add 1 rfl) rfl ?_
  refine zS_iload_n (zdec eX7_add 2 rfl) rfl ?_
  refine zS_if_lt (tgt := 46) (zdec eX7_add 3 rfl) rfl (fun cz => absurd cz (by decide)) (fun cz => ?_)
  refine zS_aload_n (zdec eX7_add 4 rfl) rfl rfl ?_
  refine zS_getfieldE (x := 2) (v := L) (zdec eX7_add 5 rfl) kF_X7_26 ⟨by decide, rfl⟩ rfl rfl rfl R.1 ?_
  refine zS_sipush (zdec eX7_add 6 rfl) rfl rfl ?_
  refine zS_icmp_ge (tgt := 46) (zdec eX7_add 7 rfl) rfl (fun cz => absurd cz (by omega)) (fun cz => ?_)
  refine zS_aload_n (zdec eX7_add 8 rfl) rfl rfl ?_
  refine zS_getref (i := 11) (zdec eX7_add 9 rfl) kF_X7_9 ⟨by decide, rfl⟩ rfl rfl rfl rfl rfl ?_
  refine zS_aload_n (zdec eX7_add 10 rfl) rfl rfl ?_
  refine zS_getfieldE (x := 2) (v := L) (zdec eX7_add 11 rfl) kF_X7_26 ⟨by decide, rfl⟩ rfl rfl rfl R.1 ?_
  refine zS_iload_n (zdec eX7_add 12 rfl) rfl ?_
  refine zS_iload_n (zdec eX7_add 13 rfl) rfl ?_
  refine zS_ishr (zdec eX7_add 14 rfl) ?_
  refine zS_i2b (zdec eX7_add 15 rfl) ?_
  refine zS_bastore (zdec eX7_add 16 rfl) (Or.inl ⟨rfl, (zB8_rng _).1, (zB8_rng _).2⟩) ⟨by decide, rfl⟩ (by omega) (by omega) ?_
  refine zS_aload_n (zdec eX7_add 17 rfl) rfl rfl ?_
  refine zS_dup (zdec eX7_add 18 rfl) (fun q => by cases q) ?_
  refine zS_getfieldE (x := 2) (v := L) (zdec eX7_add 19 rfl) kF_X7_26 ⟨by decide, rfl⟩ rfl rfl rfl ((congrFun (zset_k (by decide)) _).trans R.1) ?_
  refine zS_iconst (zdec eX7_add 20 rfl) rfl ?_
  refine zS_iadd (zdec eX7_add 21 rfl) ⟨by omega, by omega⟩ ?_
  refine zS_putfield (x := 2) (zdec eX7_add 22 rfl) kF_X7_26 (Or.inl kf7_2) ⟨by decide, rfl⟩ rfl rfl rfl (Or.inl (fun q => by cases q)) ?_
  refine zS_iinc (zdec eX7_add 23 rfl) rfl rfl (zR_of rfl) ?_
  refine zS_goto (tgt := 3) (zdec eX7_add 24 rfl) rfl ?_
  refine zS_iload_n (zdec eX7_add 2 rfl) rfl ?_
  refine zS_if_lt (tgt := 46) (zdec eX7_add 3 rfl) rfl (fun cz => absurd cz (by decide)) (fun cz => ?_)
  refine zS_aload_n (zdec eX7_add 4 rfl) rfl rfl ?_
  refine zS_getfieldE (x := 2) (v := (L + 1)) (zdec eX7_add 5 rfl) kF_X7_26 ⟨by decide, rfl⟩ rfl rfl rfl (zset_s _ _ _ _) ?_
  refine zS_sipush (zdec eX7_add 6 rfl) rfl rfl ?_
  refine zS_icmp_ge (tgt := 46) (zdec eX7_add 7 rfl) rfl (fun cz => absurd cz (by omega)) (fun cz => ?_)
  refine zS_aload_n (zdec eX7_add 8 rfl) rfl rfl ?_
  refine zS_getref (i := 11) (zdec eX7_add 9 rfl) kF_X7_9 ⟨by decide, rfl⟩ rfl rfl rfl rfl rfl ?_
  refine zS_aload_n (zdec eX7_add 10 rfl) rfl rfl ?_
  refine zS_getfieldE (x := 2) (v := (L + 1)) (zdec eX7_add 11 rfl) kF_X7_26 ⟨by decide, rfl⟩ rfl rfl rfl (zset_s _ _ _ _) ?_
  refine zS_iload_n (zdec eX7_add 12 rfl) rfl ?_
  refine zS_iload_n (zdec eX7_add 13 rfl) rfl ?_
  refine zS_ishr (zdec eX7_add 14 rfl) ?_
  refine zS_i2b (zdec eX7_add 15 rfl) ?_
  refine zS_bastore (zdec eX7_add 16 rfl) (Or.inl ⟨rfl, (zB8_rng _).1, (zB8_rng _).2⟩) ⟨by decide, rfl⟩ (by omega) (by omega) ?_
  refine zS_aload_n (zdec eX7_add 17 rfl) rfl rfl ?_
  refine zS_dup (zdec eX7_add 18 rfl) (fun q => by cases q) ?_
  refine zS_getfieldE (x := 2) (v := (L + 1)) (zdec eX7_add 19 rfl) kF_X7_26 ⟨by decide, rfl⟩ rfl rfl rfl ((congrFun (zset_k (by decide)) _).trans (zset_s _ _ _ _)) ?_
  refine zS_iconst (zdec eX7_add 20 rfl) rfl ?_
  refine zS_iadd (zdec eX7_add 21 rfl) ⟨by omega, by omega⟩ ?_
  refine zS_putfield (x := 2) (zdec eX7_add 22 rfl) kF_X7_26 (Or.inl kf7_2) ⟨by decide, rfl⟩ rfl rfl rfl (Or.inl (fun q => by cases q)) ?_
  refine zS_iinc (zdec eX7_add 23 rfl) rfl rfl (zR_of rfl) ?_
  refine zS_goto (tgt := 3) (zdec eX7_add 24 rfl) rfl ?_
  refine zS_iload_n (zdec eX7_add 2 rfl) rfl ?_
  refine zS_if_lt (tgt := 46) (zdec eX7_add 3 rfl) rfl (fun cz => absurd cz (by decide)) (fun cz => ?_)
  refine zS_aload_n (zdec eX7_add 4 rfl) rfl rfl ?_
  refine zS_getfieldE (x := 2) (v := ((L + 1) + 1)) (zdec eX7_add 5 rfl) kF_X7_26 ⟨by decide, rfl⟩ rfl rfl rfl (zset_s _ _ _ _) ?_
  refine zS_sipush (zdec eX7_add 6 rfl) rfl rfl ?_
  refine zS_icmp_ge (tgt := 46) (zdec eX7_add 7 rfl) rfl (fun cz => absurd cz (by omega)) (fun cz => ?_)
  refine zS_aload_n (zdec eX7_add 8 rfl) rfl rfl ?_
  refine zS_getref (i := 11) (zdec eX7_add 9 rfl) kF_X7_9 ⟨by decide, rfl⟩ rfl rfl rfl rfl rfl ?_
  refine zS_aload_n (zdec eX7_add 10 rfl) rfl rfl ?_
  refine zS_getfieldE (x := 2) (v := ((L + 1) + 1)) (zdec eX7_add 11 rfl) kF_X7_26 ⟨by decide, rfl⟩ rfl rfl rfl (zset_s _ _ _ _) ?_
  refine zS_iload_n (zdec eX7_add 12 rfl) rfl ?_
  refine zS_iload_n (zdec eX7_add 13 rfl) rfl ?_
  refine zS_ishr (zdec eX7_add 14 rfl) ?_
  refine zS_i2b (zdec eX7_add 15 rfl) ?_
  refine zS_bastore (zdec eX7_add 16 rfl) (Or.inl ⟨rfl, (zB8_rng _).1, (zB8_rng _).2⟩) ⟨by decide, rfl⟩ (by omega) (by omega) ?_
  refine zS_aload_n (zdec eX7_add 17 rfl) rfl rfl ?_
  refine zS_dup (zdec eX7_add 18 rfl) (fun q => by cases q) ?_
  refine zS_getfieldE (x := 2) (v := ((L + 1) + 1)) (zdec eX7_add 19 rfl) kF_X7_26 ⟨by decide, rfl⟩ rfl rfl rfl ((congrFun (zset_k (by decide)) _).trans (zset_s _ _ _ _)) ?_
  refine zS_iconst (zdec eX7_add 20 rfl) rfl ?_
  refine zS_iadd (zdec eX7_add 21 rfl) ⟨by omega, by omega⟩ ?_
  refine zS_putfield (x := 2) (zdec eX7_add 22 rfl) kF_X7_26 (Or.inl kf7_2) ⟨by decide, rfl⟩ rfl rfl rfl (Or.inl (fun q => by cases q)) ?_
  refine zS_iinc (zdec eX7_add 23 rfl) rfl rfl (zR_of rfl) ?_
  refine zS_goto (tgt := 3) (zdec eX7_add 24 rfl) rfl ?_
  refine zS_iload_n (zdec eX7_add 2 rfl) rfl ?_
  refine zS_if_lt (tgt := 46) (zdec eX7_add 3 rfl) rfl (fun cz => absurd cz (by decide)) (fun cz => ?_)
  refine zS_aload_n (zdec eX7_add 4 rfl) rfl rfl ?_
  refine zS_getfieldE (x := 2) (v := (((L + 1) + 1) + 1)) (zdec eX7_add 5 rfl) kF_X7_26 ⟨by decide, rfl⟩ rfl rfl rfl (zset_s _ _ _ _) ?_
  refine zS_sipush (zdec eX7_add 6 rfl) rfl rfl ?_
  refine zS_icmp_ge (tgt := 46) (zdec eX7_add 7 rfl) rfl (fun cz => absurd cz (by omega)) (fun cz => ?_)
  refine zS_aload_n (zdec eX7_add 8 rfl) rfl rfl ?_
  refine zS_getref (i := 11) (zdec eX7_add 9 rfl) kF_X7_9 ⟨by decide, rfl⟩ rfl rfl rfl rfl rfl ?_
  refine zS_aload_n (zdec eX7_add 10 rfl) rfl rfl ?_
  refine zS_getfieldE (x := 2) (v := (((L + 1) + 1) + 1)) (zdec eX7_add 11 rfl) kF_X7_26 ⟨by decide, rfl⟩ rfl rfl rfl (zset_s _ _ _ _) ?_
  refine zS_iload_n (zdec eX7_add 12 rfl) rfl ?_
  refine zS_iload_n (zdec eX7_add 13 rfl) rfl ?_
  refine zS_ishr (zdec eX7_add 14 rfl) ?_
  refine zS_i2b (zdec eX7_add 15 rfl) ?_
  refine zS_bastore (zdec eX7_add 16 rfl) (Or.inl ⟨rfl, (zB8_rng _).1, (zB8_rng _).2⟩) ⟨by decide, rfl⟩ (by omega) (by omega) ?_
  refine zS_aload_n (zdec eX7_add 17 rfl) rfl rfl ?_
  refine zS_dup (zdec eX7_add 18 rfl) (fun q => by cases q) ?_
  refine zS_getfieldE (x := 2) (v := (((L + 1) + 1) + 1)) (zdec eX7_add 19 rfl) kF_X7_26 ⟨by decide, rfl⟩ rfl rfl rfl ((congrFun (zset_k (by decide)) _).trans (zset_s _ _ _ _)) ?_
  refine zS_iconst (zdec eX7_add 20 rfl) rfl ?_
  refine zS_iadd (zdec eX7_add 21 rfl) ⟨by omega, by omega⟩ ?_
  refine zS_putfield (x := 2) (zdec eX7_add 22 rfl) kF_X7_26 (Or.inl kf7_2) ⟨by decide, rfl⟩ rfl rfl rfl (Or.inl (fun q => by cases q)) ?_
  refine zS_iinc (zdec eX7_add 23 rfl) rfl rfl (zR_of rfl) ?_
  refine zS_goto (tgt := 3) (zdec eX7_add 24 rfl) rfl ?_
  refine zS_iload_n (zdec eX7_add 2 rfl) rfl ?_
  refine zS_if_lt (tgt := 46) (zdec eX7_add 3 rfl) rfl (fun cz => ?_) (fun cz => absurd (by decide) cz)
  refine zlMV (zdec eX7_add 25 rfl) rfl ⟨⟨?_, fun i i0 i1 => ?_, ?_, ?_⟩, ?_⟩
  · rw [zset_s]; omega
  · unfold adB
    by_cases w3 : i = L + 3
    · rw [if_neg (by omega), if_neg (by omega), if_neg (by omega), if_pos w3, zset_n (by omega), zset_e rfl (by omega)]; rfl
    · by_cases w2 : i = L + 2
      · rw [if_neg (by omega), if_neg (by omega), if_pos w2, zset_n (by omega), zset_n (by omega), zset_n (by omega), zset_e rfl (by omega)]; rfl
      · by_cases w1 : i = L + 1
        · rw [if_neg (by omega), if_pos w1, zset_n (by omega), zset_n (by omega), zset_n (by omega), zset_n (by omega), zset_n (by omega), zset_e rfl (by omega)]; rfl
        · by_cases w0 : i = L
          · rw [if_pos w0, zset_n (by omega), zset_n (by omega), zset_n (by omega), zset_n (by omega), zset_n (by omega), zset_n (by omega), zset_n (by omega), zset_e rfl w0]
          · rw [if_neg w0, if_neg w1, if_neg w2, if_neg w3, zset_n (by omega), zset_n (by omega), zset_n (by omega), zset_n (by omega), zset_n (by omega), zset_n (by omega), zset_n (by omega), zset_n (by omega)]; exact R.2.1 i i0 (by omega)
  · rw [zset_n (by omega), zset_n (by omega), zset_n (by omega), zset_n (by omega), zset_n (by omega), zset_n (by omega), zset_n (by omega), zset_n (by omega)]; exact R.2.2.1
  · rw [zset_n (by omega), zset_n (by omega), zset_n (by omega), zset_n (by omega), zset_n (by omega), zset_n (by omega), zset_n (by omega), zset_n (by omega)]; exact R.2.2.2
  · exact ((((((((Fr.rf.set (by omega)).set (by omega)).set (by omega)).set (by omega)).set (by omega)).set (by omega)).set (by omega)).set (by omega))
def n_feedB (B : Int → Int) (L a b c e f : Int) : Int → Int := if L + 20 ≤ 700 then (adB (adB (adB (adB (adB B L a) (L + 4) b) (L + 8) c) (L + 12) e) (L + 16) f) else B
def n_feedL (L : Int) : Int := if L + 20 ≤ 700 then L + 20 else L
def a_feed (L : Int) : Int := if L + 20 ≤ 700 then L + 20 else -1
theorem p_feed {d : Nat} {h : zH} {B : Int → Int} {L F Q a b c e f : Int} (hd : 20 ≤ d) (R0 : TX h B L F Q) (l0 : 0 ≤ L ∧ L ≤ 700) : zMI d mX9_feed [zA 0, zI a, zI b, zI c, zI e, zI f] h (fun r h' => r = a_feed L ∧ TX h' (n_feedB B L a b c e f) (n_feedL L) F Q ∧ Fr (fun k j => (k = 1 ∧ j = 2) ∨ k = 2) h h') := by
  refine zmet rfl rfl rfl ?_
  refine zS_aload_n (zdec eX9_feed 0 rfl) rfl rfl ?_
  refine zS_getref (i := 0) (zdec eX9_feed 1 rfl) kF_X9_10 ⟨by decide, rfl⟩ rfl rfl rfl rfl rfl ?_
  refine zS_getfieldE (x := 2) (v := L) (zdec eX9_feed 2 rfl) kF_X9_81 ⟨by decide, rfl⟩ rfl rfl rfl R0.1 ?_
  refine zS_bipush (zdec eX9_feed 3 rfl) rfl rfl ?_
  refine zS_iadd (zdec eX9_feed 4 rfl) ⟨by omega, by omega⟩ ?_
  refine zS_sipush (zdec eX9_feed 5 rfl) rfl rfl ?_
  refine zS_icmp_le (tgt := 18) (zdec eX9_feed 6 rfl) rfl (fun c1 => ?_) (fun c1 => ?_)
  · refine zS_aload_n (zdec eX9_feed 9 rfl) rfl rfl ?_
    refine zS_getref (i := 0) (zdec eX9_feed 10 rfl) kF_X9_10 ⟨by decide, rfl⟩ rfl rfl rfl rfl rfl ?_
    refine zS_iload_n (zdec eX9_feed 11 rfl) rfl ?_
    refine zvMV (M' := mX7_add) (As := [zI a]) (st := []) (zdec eX9_feed 12 rfl) kM_X9_85 kV_X7_add ⟨by decide, rfl⟩ rfl rfl rfl rfl rfl (by omega) (c_add R0 (by omega) (by omega)) (fun h1 ⟨R1, g1⟩ => ?_)
    have f1 : Fr (fun k j => (k = 1 ∧ j = 2) ∨ k = 2) h h1 := g1
    refine zS_aload_n (zdec eX9_feed 13 rfl) rfl rfl ?_
    refine zS_getref (i := 0) (zdec eX9_feed 14 rfl) kF_X9_10 ⟨by decide, rfl⟩ rfl rfl rfl rfl rfl ?_
    refine zS_iload_n (zdec eX9_feed 15 rfl) rfl ?_
    refine zvMV (M' := mX7_add) (As := [zI b]) (st := []) (zdec eX9_feed 16 rfl) kM_X9_85 kV_X7_add ⟨by decide, rfl⟩ rfl rfl rfl rfl rfl (by omega) (c_add R1 (by omega) (by omega)) (fun h2 ⟨R2, g2⟩ => ?_)
    have f2 : Fr (fun k j => (k = 1 ∧ j = 2) ∨ k = 2) h h2 := f1.tr g2 (fun k j z => z) (fun k j z => z)
    rw [show L + 4 + 4 = L + 8 by omega] at R2
    refine zS_aload_n (zdec eX9_feed 17 rfl) rfl rfl ?_
    refine zS_getref (i := 0) (zdec eX9_feed 18 rfl) kF_X9_10 ⟨by decide, rfl⟩ rfl rfl rfl rfl rfl ?_
    refine zS_iload_n (zdec eX9_feed 19 rfl) rfl ?_
    refine zvMV (M' := mX7_add) (As := [zI c]) (st := []) (zdec eX9_feed 20 rfl) kM_X9_85 kV_X7_add ⟨by decide, rfl⟩ rfl rfl rfl rfl rfl (by omega) (c_add R2 (by omega) (by omega)) (fun h3 ⟨R3, g3⟩ => ?_)
    have f3 : Fr (fun k j => (k = 1 ∧ j = 2) ∨ k = 2) h h3 := f2.tr g3 (fun k j z => z) (fun k j z => z)
    rw [show L + 8 + 4 = L + 12 by omega] at R3
    refine zS_aload_n (zdec eX9_feed 21 rfl) rfl rfl ?_
    refine zS_getref (i := 0) (zdec eX9_feed 22 rfl) kF_X9_10 ⟨by decide, rfl⟩ rfl rfl rfl rfl rfl ?_
    refine zS_iload (zdec eX9_feed 23 rfl) rfl ?_
    refine zvMV (M' := mX7_add) (As := [zI e]) (st := []) (zdec eX9_feed 24 rfl) kM_X9_85 kV_X7_add ⟨by decide, rfl⟩ rfl rfl rfl rfl rfl (by omega) (c_add R3 (by omega) (by omega)) (fun h4 ⟨R4, g4⟩ => ?_)
    have f4 : Fr (fun k j => (k = 1 ∧ j = 2) ∨ k = 2) h h4 := f3.tr g4 (fun k j z => z) (fun k j z => z)
    rw [show L + 12 + 4 = L + 16 by omega] at R4
    refine zS_aload_n (zdec eX9_feed 25 rfl) rfl rfl ?_
    refine zS_getref (i := 0) (zdec eX9_feed 26 rfl) kF_X9_10 ⟨by decide, rfl⟩ rfl rfl rfl rfl rfl ?_
    refine zS_iload (zdec eX9_feed 27 rfl) rfl ?_
    refine zvMV (M' := mX7_add) (As := [zI f]) (st := []) (zdec eX9_feed 28 rfl) kM_X9_85 kV_X7_add ⟨by decide, rfl⟩ rfl rfl rfl rfl rfl (by omega) (c_add R4 (by omega) (by omega)) (fun h5 ⟨R5, g5⟩ => ?_)
    have f5 : Fr (fun k j => (k = 1 ∧ j = 2) ∨ k = 2) h h5 := f4.tr g5 (fun k j z => z) (fun k j z => z)
    rw [show L + 16 + 4 = L + 20 by omega] at R5
    refine zS_aload_n (zdec eX9_feed 29 rfl) rfl rfl ?_
    refine zS_getref (i := 0) (zdec eX9_feed 30 rfl) kF_X9_10 ⟨by decide, rfl⟩ rfl rfl rfl rfl rfl ?_
    refine zS_getfieldE (x := 2) (v := (L + 20)) (zdec eX9_feed 31 rfl) kF_X9_81 ⟨by decide, rfl⟩ rfl rfl rfl R5.1 ?_
    exact zlMI (zdec eX9_feed 32 rfl) rfl ⟨by unfold a_feed; rw [if_pos (by omega)], by unfold n_feedB n_feedL; rw [if_pos (by omega), if_pos (by omega)]; exact R5, f5⟩
  · refine zS_iconst (zdec eX9_feed 7 rfl) rfl ?_
    exact zlMI (zdec eX9_feed 8 rfl) rfl ⟨by unfold a_feed; rw [if_neg (by omega)], by unfold n_feedB n_feedL; rw [if_neg (by omega), if_neg (by omega)]; exact R0, Fr.rf⟩

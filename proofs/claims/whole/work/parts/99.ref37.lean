theorem QD.to {B : Int → Int} {L r : Int} {D : Dk} {h h' : zH} (q : QD (rdT B L).1 (rdT B L).2 h r h') (RD : DR h 0 D) : r = a_desk B L ∧ DR h' 0 (n_desk B L D) ∧ TR h' B 0 ((rdT B L).1 3) ((rdT B L).1 4) ∧ Fr (fun k j => sX k j ∨ blk 0 k j) h h' := by
  obtain ⟨q1, q2, ⟨q3, q4, q5⟩, q6⟩ := q
  refine ⟨q1, ?_, ⟨q3, fun i i0 i1 => by omega, q4, ?_⟩, q6.mono (fun k j z => z.elim Or.inl (fun w => Or.inr w.2))⟩
  · unfold n_desk
    by_cases c : (rdT B L).1 3 = 0
    · rw [if_pos c]; exact q2 c
    · rw [if_neg c]
      refine RD.ofb (fun k j hb => q6 _ _ ?_)
      rintro ((w | w) | w)
      · unfold blk at hb; omega
      · unfold blk at hb w; omega
      · exact c w.1
  · by_cases c : (rdT B L).1 3 = 0
    · rw [if_pos c] at q5; rw [q5]; exact (rd_fp B L c).symm
    · rw [if_neg c] at q5; exact q5
theorem q_desk {d : Nat} {h : zH} {B : Int → Int} {L F Q : Int} {D : Dk} (hd : 200 ≤ d) (l0 : 0 ≤ L ∧ L ≤ 700) (R : TR h B L F Q) (RD : DR h 0 D) : zMI d mX10_desk [zA 108] h (fun r h' => r = a_desk B L ∧ DR h' 0 (n_desk B L D) ∧ TR h' B 0 ((rdT B L).1 3) ((rdT B L).1 4) ∧ Fr (fun k j => sX k j ∨ blk 0 k j) h h') := by
  refine zmet rfl rfl rfl ?_
  refine zS_aload_n (zdec eX10_desk 0 rfl) rfl rfl ?_
  refine zS_iconst (zdec eX10_desk 1 rfl) rfl ?_
  refine zS_putfield (x := 0) (zdec eX10_desk 2 rfl) kF_X10_71 (Or.inl kf10_0) ⟨by decide, rfl⟩ rfl rfl rfl (Or.inl (fun q => by cases q)) ?_
  obtain ⟨h0, E0⟩ : ∃ x, x = zset h 108 0 0 := ⟨_, rfl⟩
  rw [show zset h 108 0 (0 : Int) = h0 from E0.symm]
  have f0 : Fr (fun k j => k = 108 ∧ j = 0) h h0 := by rw [E0]; exact Fr.rf.set ⟨rfl, rfl⟩
  refine zS_aload_n (zdec eX10_desk 3 rfl) rfl rfl ?_
  refine zvMV (M' := mX10_clears) (As := []) (st := []) (zdec eX10_desk 4 rfl) kM_X10_198 kV_X10_clears ⟨by decide, rfl⟩ rfl rfl rfl rfl rfl (by omega) (r_clears0 (by omega)) (fun h1 ⟨x1, x2, g1⟩ => ?_)
  have F1 : Fr sX h h1 := (f0.mono (S' := sX) (fun k j z => Or.inl (by omega))).tr g1 (fun k j z => z) (fun k j z => Or.inr (by unfold blk; omega))
  have B1 : BR h1 B L := ⟨(g1 _ _ (by omega)).trans ((f0 _ _ (by omega)).trans R.1), fun i i0 i1 => (g1 _ _ (by omega)).trans ((f0 _ _ (by omega)).trans (R.2.1 i i0 i1))⟩
  refine zS_aload_n (zdec eX10_desk 5 rfl) rfl rfl ?_
  refine zvMV (M' := mX10_begins) (As := []) (st := []) (zdec eX10_desk 6 rfl) kM_X10_201 kV_X10_begins ⟨by decide, rfl⟩ rfl rfl rfl rfl rfl (by omega) (r_begins (by omega) l0 B1) (fun h2 ⟨R2, g2⟩ => ?_)
  have V2 : TV L (nxP B L ini) := TV.nx ⟨l0, by show 0 ≤ (0 : Int) ∧ (0 : Int) ≤ 0 ∧ (0 : Int) ≤ L; omega, by show 0 ≤ (0 : Int) ∧ (0 : Int) ≤ 100000; omega, by show 0 ≤ (0 : Int) ∧ (0 : Int) ≤ 3; omega⟩ B
  exact zS_w (L_desk (by omega) 700 h2 (nxP B L ini) zeD (show (0 : Int) + 700 = 700 by omega) (show (0 : Int) ≤ 0 by omega) V2 ⟨by show 0 ≤ (0 : Int) ∧ (0 : Int) ≤ 4; omega, by show 0 ≤ (0 : Int) ∧ (0 : Int) ≤ 5; omega, by show 0 ≤ (0 : Int) ∧ (0 : Int) ≤ 6; omega, by show 0 ≤ (0 : Int) ∧ (0 : Int) ≤ 1000; omega⟩ R2 (fun _ => (DR.ze x1 x2).fr g2 (fun k j z => by omega)) (fun a b => nx_gt (P := ini) ⟨l0, by show 0 ≤ (0 : Int) ∧ (0 : Int) ≤ 0 ∧ (0 : Int) ≤ L; omega, by show 0 ≤ (0 : Int) ∧ (0 : Int) ≤ 100000; omega, by show 0 ≤ (0 : Int) ∧ (0 : Int) ≤ 3; omega⟩ rfl b) (F1.tr g2 (fun k j z => z) (fun k j z => Or.inl (by omega)))) (fun rv T h' ⟨r, a, b, q⟩ => ⟨r, a, b, q.to RD⟩)

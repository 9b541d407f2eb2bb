abbrev sX : Int → Int → Prop := fun k j => (k = 108 ∧ (j = 0 ∨ (6 ≤ j ∧ j ≤ 15))) ∨ blk 4 k j
def QD (P : Tp) (D : Dk) (h : zH) (r : Int) (h' : zH) : Prop := r = (if P 3 = 0 then D 0 0 else -4) ∧ (P 3 = 0 → DR h' 0 D) ∧ (h' 108 6 = 0 ∧ h' 108 14 = P 3 ∧ h' 108 15 = (if P 3 = 0 then -1 else P 4)) ∧ Fr (fun k j => sX k j ∨ (P 3 = 0 ∧ blk 0 k j)) h h'
theorem M_dend {d : Nat} {h : zH} {B : Int → Int} {L : Int} {P : Tp} {h1 : zH} {D : Dk} (hd : 3 ≤ d) (R : PR h1 B L P) (RD : P 3 = 0 → DR h1 4 D) (i9 : Fr sX h h1) : zS mX10_desk (zr d) 166 [zA 108] [] TT h1 (zAnI (QD P D h)) := by
  refine zS_aload_n (zdec eX10_desk 86 rfl) rfl rfl ?_
  refine zvMV (M' := mX10_isOver) (As := []) (st := []) (zdec eX10_desk 87 rfl) kM_X10_226 kV_X10_isOver ⟨by decide, rfl⟩ rfl rfl rfl rfl rfl (by omega) (r_isOver R) (fun h2 ⟨o1, o2, o3, o4, f2⟩ => ?_)
  have F2 : Fr sX h h2 := i9.tr f2 (fun k j z => z) (fun k j z => Or.inl (by omega))
  refine zS_aload_n (zdec eX10_desk 88 rfl) rfl rfl ?_
  refine zS_getfieldE (x := 12) (v := (P 3)) (zdec eX10_desk 89 rfl) kF_X10_123 ⟨by decide, rfl⟩ rfl rfl rfl o4 ?_
  refine zS_if_eq (tgt := 180) (zdec eX10_desk 90 rfl) rfl (fun c1 => ?_) (fun c1 => ?_)
  · refine zS_aload_n (zdec eX10_desk 93 rfl) rfl rfl ?_
    refine zS_iconst (zdec eX10_desk 94 rfl) rfl ?_
    refine zS_iconst (zdec eX10_desk 95 rfl) rfl ?_
    refine zvMV (M' := mX10_copyDesk) (As := [zI 4, zI 0]) (st := []) (zdec eX10_desk 96 rfl) kM_X10_229 kV_X10_copyDesk ⟨by decide, rfl⟩ rfl rfl rfl rfl rfl (by omega) (r_copyDesk (a := 4) (b := 0) (by omega) (by omega) (by omega) (by omega) (by omega) (by omega)) (fun h3 ⟨e3, g3⟩ => ?_)
    have D3 : DR h3 0 D := ((RD (by omega)).fr f2 (fun k j z => by omega)).cp e3
    refine zS_aload_n (zdec eX10_desk 97 rfl) rfl rfl ?_
    refine zS_getref (i := 60) (zdec eX10_desk 98 rfl) kF_X10_31 ⟨by decide, rfl⟩ rfl rfl rfl rfl rfl ?_
    refine zS_iconst (zdec eX10_desk 99 rfl) rfl ?_
    refine zS_ialoadE (v := (D 0 0)) (zdec eX10_desk 100 rfl) ⟨by decide, rfl⟩ (by decide) (by decide) D3.1 ?_
    exact zlMI (zdec eX10_desk 101 rfl) rfl ⟨by rw [if_pos (by omega)], fun _ => D3, ⟨(g3 _ _ (by unfold blk; omega)).trans o1, (g3 _ _ (by unfold blk; omega)).trans o2, (g3 _ _ (by unfold blk; omega)).trans o3⟩, (F2.mono (S' := fun k j => sX k j ∨ (P 3 = 0 ∧ blk 0 k j)) (fun k j z => Or.inl z)).tr g3 (fun k j z => z) (fun k j z => Or.inr ⟨by omega, z⟩)⟩
  · refine zS_bipush (zdec eX10_desk 91 rfl) rfl rfl ?_
    exact zlMI (zdec eX10_desk 92 rfl) rfl ⟨by rw [if_neg (by omega)], fun w => absurd w (by omega), ⟨o1, o2, o3⟩, F2.mono (fun k j z => Or.inl z)⟩

theorem tsP_f {B : Int → Int} {L : Int} {P : Tp} (h : P 3 ≠ 0) : tsP B L P = P := by
  unfold tsP
  split
  · exact nxP_f h
  · rw [rfu_f h, nxP_f h]
theorem ts_ok {B : Int → Int} {L : Int} {P : Tp} (h : tsP B L P 3 = 0) : P 3 = 0 := by
  by_cases c : P 3 = 0
  · exact c
  · rw [tsP_f c] at h; exact absurd h c
theorem M_dtail {d : Nat} {h : zH} {B : Int → Int} {L : Int} {P : Tp} {h1 : zH} {E : Dk} {e : Int} {Qx : Option zV → zT → zH → Prop} (hd : 5 ≤ d) (e0 : 0 ≤ e) (e1 : e < 1000) (V : TV L P) (R : PR h1 B L P) (RD : P 3 = 0 → DR h1 4 E) (i1 : h1 114 4 = e) (i9 : Fr sX h h1) (K : ∀ h3, PR h3 B L (tsP B L P) → (tsP B L P 3 = 0 → DR h3 4 (zset E 0 0 (e + 1))) → Fr sX h h3 → zS mX10_desk (zr d) 13 [zA 108] [] TT h3 Qx) : zS mX10_desk (zr d) 142 [zA 108] [] TT h1 Qx := by
  refine zS_aload_n (zdec eX10_desk 72 rfl) rfl rfl ?_
  refine zvI (M' := mX10_isGood) (As := []) (st := []) (zdec eX10_desk 73 rfl) kM_X10_204 kV_X10_isGood ⟨by decide, rfl⟩ rfl rfl rfl rfl rfl (by omega) (r_isGood R) ?_
  refine zS_if_eq (tgt := 153) (zdec eX10_desk 74 rfl) rfl (fun c1 => ?_) (fun c1 => ?_)
  · have z1 := d2i_0.mp c1
    refine zS_aload_n (zdec eX10_desk 77 rfl) rfl rfl ?_
    refine zS_getref (i := 60) (zdec eX10_desk 78 rfl) kF_X10_31 ⟨by decide, rfl⟩ rfl rfl rfl rfl rfl ?_
    refine zS_iconst (zdec eX10_desk 79 rfl) rfl ?_
    refine zS_dup2 (zdec eX10_desk 80 rfl) (fun q => by cases q) (fun q => by cases q) ?_
    refine zS_ialoadE (v := e) (zdec eX10_desk 81 rfl) ⟨by decide, rfl⟩ (by decide) (by decide) i1 ?_
    refine zS_iconst (zdec eX10_desk 82 rfl) rfl ?_
    refine zS_iadd (zdec eX10_desk 83 rfl) ⟨by omega, by omega⟩ ?_
    refine zS_iastore (zdec eX10_desk 84 rfl) ⟨by decide, rfl⟩ (by decide) (by decide) ?_
    refine zS_goto (tgt := 13) (zdec eX10_desk 85 rfl) rfl ?_
    refine K _ ?_ ?_ (i9.set (Or.inr (by unfold blk; omega)))
    · rw [tsP_f z1]; exact R.of (fun k j z => zset_n (by omega))
    · intro w; exact absurd (ts_ok w) z1
  · have z1 := d2i_n.mp c1
    refine zS_aload_n (zdec eX10_desk 75 rfl) rfl rfl ?_
    refine zvMV (M' := mX10_ends) (As := []) (st := []) (zdec eX10_desk 76 rfl) kM_X10_223 kV_X10_ends ⟨by decide, rfl⟩ rfl rfl rfl rfl rfl (by omega) (r_ends (by omega) V z1 R) (fun h3 ⟨R3, f3⟩ => ?_)
    refine zS_aload_n (zdec eX10_desk 77 rfl) rfl rfl ?_
    refine zS_getref (i := 60) (zdec eX10_desk 78 rfl) kF_X10_31 ⟨by decide, rfl⟩ rfl rfl rfl rfl rfl ?_
    refine zS_iconst (zdec eX10_desk 79 rfl) rfl ?_
    refine zS_dup2 (zdec eX10_desk 80 rfl) (fun q => by cases q) (fun q => by cases q) ?_
    refine zS_ialoadE (v := e) (zdec eX10_desk 81 rfl) ⟨by decide, rfl⟩ (by decide) (by decide) ((f3 _ _ (by omega)).trans i1) ?_
    refine zS_iconst (zdec eX10_desk 82 rfl) rfl ?_
    refine zS_iadd (zdec eX10_desk 83 rfl) ⟨by omega, by omega⟩ ?_
    refine zS_iastore (zdec eX10_desk 84 rfl) ⟨by decide, rfl⟩ (by decide) (by decide) ?_
    refine zS_goto (tgt := 13) (zdec eX10_desk 85 rfl) rfl ?_
    refine K _ (R3.of (fun k j z => zset_n (by omega))) (fun w => ((RD z1).fr f3 (fun k j z => by omega)).ln4) ((i9.tr f3 (S'' := sX) (fun k j z => z) (fun k j z => Or.inl (by omega))).set (Or.inr (by unfold blk; omega)))

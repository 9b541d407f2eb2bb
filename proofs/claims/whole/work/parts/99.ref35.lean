theorem M_dfirst {d : Nat} {h : zH} {B : Int → Int} {L : Int} {P : Tp} {h1 : zH} {D : Dk} {Qx : Option zV → zT → zH → Prop} (hd : 9 ≤ d) (V : TV L P) (R : PR h1 B L P) (RD : DR h1 4 D) (i9 : Fr sX h h1) (K : ∀ h2, PR h2 B L (dk6 B L P) → (dk6 B L P 3 = 0 → DR h2 4 (dkD B L P D)) → h2 114 4 = h1 114 4 → Fr sX h h2 → zS mX10_desk (zr d) 142 [zA 108] [] TT h2 Qx) : zS mX10_desk (zr d) 36 [zA 108] [] TT h1 Qx := by
  have vd := V.dk B
  refine zS_aload_n (zdec eX10_desk 18 rfl) rfl rfl ?_
  refine zS_ldc2_w (zdec eX10_desk 19 rfl) kj_X10_208 rfl ?_
  refine zvMV (M' := mX10_asks) (As := [zJ 82901]) (st := []) (zdec eX10_desk 20 rfl) kM_X10_142 kV_X10_asks ⟨by decide, rfl⟩ rfl rfl rfl rfl rfl (by omega) (r_asks (i := 0) (by omega) (by omega) (by omega) wk_0 V R) (fun u0 ⟨S0, g0⟩ => ?_)
  have X0 : DR u0 4 D := RD.fr g0 (fun k j z => by omega)
  have F0 : Fr sX h u0 := i9.tr g0 (fun k j z => z) (fun k j z => Or.inl (by omega))
  have n0 : u0 114 4 = h1 114 4 := g0 _ _ (by omega)
  refine zS_aload_n (zdec eX10_desk 21 rfl) rfl rfl ?_
  refine zS_iconst (zdec eX10_desk 22 rfl) rfl ?_
  refine zS_aload_n (zdec eX10_desk 23 rfl) rfl rfl ?_
  refine zS_ldc2_w (zdec eX10_desk 24 rfl) kj_X10_210 rfl ?_
  refine zS_iconst (zdec eX10_desk 25 rfl) rfl ?_
  refine zS_bipush (zdec eX10_desk 26 rfl) rfl rfl ?_
  refine zvMI (M' := mX10_number_) (As := [zJ 80155, zI 1, zI 7]) (st := [zI 0, zA 108]) (zdec eX10_desk 27 rfl) kM_X10_159 kV_X10_number_ ⟨by decide, rfl⟩ rfl rfl rfl rfl rfl (by omega) (r_number_ (i := 1) (by omega) (by omega) (by omega) (by omega) (by omega) wk_1 vd.1 S0) (fun y0 t0 ⟨e0, R0', f0⟩ => ?_)
  rw [show y0 = (nvR (twP B L (dk0 B L P) 1) 1 7) from e0]
  refine zvMV (M' := mX10_tells) (As := [zI 0, zI (nvR (twP B L (dk0 B L P) 1) 1 7)]) (st := []) (zdec eX10_desk 28 rfl) kM_X10_174 kV_X10_tells ⟨by decide, rfl⟩ rfl rfl rfl rfl rfl (by omega) (r_tells (x := 0) (v := (nvR (twP B L (dk0 B L P) 1) 1 7)) (by omega) (by omega)) (fun u1 E0 => ?_)
  have S1 : PR u1 B L (dk1 B L P) := by rw [E0]; exact PR.of R0' (fun k j z => zset_n (by omega))
  have X1 : DR u1 4 (zset D 0 1 (nvR (twP B L (dk0 B L P) 1) 1 7)) := by rw [E0]; exact DR.sc4 (X0.fr f0 (fun k j z => by omega)) (by omega) (by omega)
  have F1 : Fr sX h u1 := by rw [E0]; exact (F0.tr f0 (S'' := sX) (fun k j z => z) (fun k j z => Or.inl (by omega))).set (Or.inr (by unfold blk; omega))
  have n1 : u1 114 4 = h1 114 4 := by rw [E0]; exact (zset_n (by omega)).trans ((f0 _ _ (by omega)).trans n0)
  refine zS_aload_n (zdec eX10_desk 29 rfl) rfl rfl ?_
  refine zS_iconst (zdec eX10_desk 30 rfl) rfl ?_
  refine zS_aload_n (zdec eX10_desk 31 rfl) rfl rfl ?_
  refine zS_ldc2_w (zdec eX10_desk 32 rfl) kj_X10_212 rfl ?_
  refine zS_iconst (zdec eX10_desk 33 rfl) rfl ?_
  refine zS_iconst (zdec eX10_desk 34 rfl) rfl ?_
  refine zvMI (M' := mX10_number_) (As := [zJ 8798, zI 0, zI 3]) (st := [zI 1, zA 108]) (zdec eX10_desk 35 rfl) kM_X10_159 kV_X10_number_ ⟨by decide, rfl⟩ rfl rfl rfl rfl rfl (by omega) (r_number_ (i := 2) (by omega) (by omega) (by omega) (by omega) (by omega) wk_2 vd.2.1 S1) (fun y1 t1 ⟨e1, R1', f1⟩ => ?_)
  rw [show y1 = (nvR (twP B L (dk1 B L P) 2) 0 3) from e1]
  refine zvMV (M' := mX10_tells) (As := [zI 1, zI (nvR (twP B L (dk1 B L P) 2) 0 3)]) (st := []) (zdec eX10_desk 36 rfl) kM_X10_174 kV_X10_tells ⟨by decide, rfl⟩ rfl rfl rfl rfl rfl (by omega) (r_tells (x := 1) (v := (nvR (twP B L (dk1 B L P) 2) 0 3)) (by omega) (by omega)) (fun u2 E1 => ?_)
  have S2 : PR u2 B L (dk2 B L P) := by rw [E1]; exact PR.of R1' (fun k j z => zset_n (by omega))
  have X2 : DR u2 4 (zset (zset D 0 1 (nvR (twP B L (dk0 B L P) 1) 1 7)) 0 2 (nvR (twP B L (dk1 B L P) 2) 0 3)) := by rw [E1]; exact DR.sc4 (X1.fr f1 (fun k j z => by omega)) (by omega) (by omega)
  have F2 : Fr sX h u2 := by rw [E1]; exact (F1.tr f1 (S'' := sX) (fun k j z => z) (fun k j z => Or.inl (by omega))).set (Or.inr (by unfold blk; omega))
  have n2 : u2 114 4 = h1 114 4 := by rw [E1]; exact (zset_n (by omega)).trans ((f1 _ _ (by omega)).trans n1)
  refine zS_aload_n (zdec eX10_desk 37 rfl) rfl rfl ?_
  refine zS_iconst (zdec eX10_desk 38 rfl) rfl ?_
  refine zS_aload_n (zdec eX10_desk 39 rfl) rfl rfl ?_
  refine zS_ldc2_w (zdec eX10_desk 40 rfl) kj_X10_214 rfl ?_
  refine zS_iconst (zdec eX10_desk 41 rfl) rfl ?_
  refine zS_bipush (zdec eX10_desk 42 rfl) rfl rfl ?_
  refine zvMI (M' := mX10_number_) (As := [zJ 298288, zI 0, zI 10]) (st := [zI 2, zA 108]) (zdec eX10_desk 43 rfl) kM_X10_159 kV_X10_number_ ⟨by decide, rfl⟩ rfl rfl rfl rfl rfl (by omega) (r_number_ (i := 3) (by omega) (by omega) (by omega) (by omega) (by omega) wk_3 vd.2.2.1 S2) (fun y2 t2 ⟨e2, R2', f2⟩ => ?_)
  rw [show y2 = (nvR (twP B L (dk2 B L P) 3) 0 10) from e2]
  refine zvMV (M' := mX10_tells) (As := [zI 2, zI (nvR (twP B L (dk2 B L P) 3) 0 10)]) (st := []) (zdec eX10_desk 44 rfl) kM_X10_174 kV_X10_tells ⟨by decide, rfl⟩ rfl rfl rfl rfl rfl (by omega) (r_tells (x := 2) (v := (nvR (twP B L (dk2 B L P) 3) 0 10)) (by omega) (by omega)) (fun u3 E2 => ?_)
  have S3 : PR u3 B L (dk3 B L P) := by rw [E2]; exact PR.of R2' (fun k j z => zset_n (by omega))
  have X3 : DR u3 4 (zset (zset (zset D 0 1 (nvR (twP B L (dk0 B L P) 1) 1 7)) 0 2 (nvR (twP B L (dk1 B L P) 2) 0 3)) 0 3 (nvR (twP B L (dk2 B L P) 3) 0 10)) := by rw [E2]; exact DR.sc4 (X2.fr f2 (fun k j z => by omega)) (by omega) (by omega)
  have F3 : Fr sX h u3 := by rw [E2]; exact (F2.tr f2 (S'' := sX) (fun k j z => z) (fun k j z => Or.inl (by omega))).set (Or.inr (by unfold blk; omega))
  have n3 : u3 114 4 = h1 114 4 := by rw [E2]; exact (zset_n (by omega)).trans ((f2 _ _ (by omega)).trans n2)
  refine zS_aload_n (zdec eX10_desk 45 rfl) rfl rfl ?_
  refine zS_iconst (zdec eX10_desk 46 rfl) rfl ?_
  refine zS_aload_n (zdec eX10_desk 47 rfl) rfl rfl ?_
  refine zS_ldc2_w (zdec eX10_desk 48 rfl) kj_X10_193 rfl ?_
  refine zS_iconst (zdec eX10_desk 49 rfl) rfl ?_
  refine zS_sipush (zdec eX10_desk 50 rfl) rfl rfl ?_
  refine zvMI (M' := mX10_number_) (As := [zJ 60299, zI 0, zI 9999]) (st := [zI 3, zA 108]) (zdec eX10_desk 51 rfl) kM_X10_159 kV_X10_number_ ⟨by decide, rfl⟩ rfl rfl rfl rfl rfl (by omega) (r_number_ (i := 4) (by omega) (by omega) (by omega) (by omega) (by omega) wk_4 vd.2.2.2.1 S3) (fun y3 t3 ⟨e3, R3', f3⟩ => ?_)
  rw [show y3 = (nvR (twP B L (dk3 B L P) 4) 0 9999) from e3]
  refine zvMV (M' := mX10_tells) (As := [zI 3, zI (nvR (twP B L (dk3 B L P) 4) 0 9999)]) (st := []) (zdec eX10_desk 52 rfl) kM_X10_174 kV_X10_tells ⟨by decide, rfl⟩ rfl rfl rfl rfl rfl (by omega) (r_tells (x := 3) (v := (nvR (twP B L (dk3 B L P) 4) 0 9999)) (by omega) (by omega)) (fun u4 E3 => ?_)
  have S4 : PR u4 B L (dk4 B L P) := by rw [E3]; exact PR.of R3' (fun k j z => zset_n (by omega))
  have X4 : DR u4 4 (zset (zset (zset (zset D 0 1 (nvR (twP B L (dk0 B L P) 1) 1 7)) 0 2 (nvR (twP B L (dk1 B L P) 2) 0 3)) 0 3 (nvR (twP B L (dk2 B L P) 3) 0 10)) 0 4 (nvR (twP B L (dk3 B L P) 4) 0 9999)) := by rw [E3]; exact DR.sc4 (X3.fr f3 (fun k j z => by omega)) (by omega) (by omega)
  have F4 : Fr sX h u4 := by rw [E3]; exact (F3.tr f3 (S'' := sX) (fun k j z => z) (fun k j z => Or.inl (by omega))).set (Or.inr (by unfold blk; omega))
  have n4 : u4 114 4 = h1 114 4 := by rw [E3]; exact (zset_n (by omega)).trans ((f3 _ _ (by omega)).trans n3)
  refine zS_aload_n (zdec eX10_desk 53 rfl) rfl rfl ?_
  refine zS_iconst (zdec eX10_desk 54 rfl) rfl ?_
  refine zS_aload_n (zdec eX10_desk 55 rfl) rfl rfl ?_
  refine zS_ldc2_w (zdec eX10_desk 56 rfl) kj_X10_216 rfl ?_
  refine zS_iconst (zdec eX10_desk 57 rfl) rfl ?_
  refine zS_sipush (zdec eX10_desk 58 rfl) rfl rfl ?_
  refine zvMI (M' := mX10_number_) (As := [zJ 3436200, zI 0, zI 5000]) (st := [zI 4, zA 108]) (zdec eX10_desk 59 rfl) kM_X10_159 kV_X10_number_ ⟨by decide, rfl⟩ rfl rfl rfl rfl rfl (by omega) (r_number_ (i := 5) (by omega) (by omega) (by omega) (by omega) (by omega) wk_5 vd.2.2.2.2.1 S4) (fun y4 t4 ⟨e4, R4', f4⟩ => ?_)
  rw [show y4 = (nvR (twP B L (dk4 B L P) 5) 0 5000) from e4]
  refine zvMV (M' := mX10_tells) (As := [zI 4, zI (nvR (twP B L (dk4 B L P) 5) 0 5000)]) (st := []) (zdec eX10_desk 60 rfl) kM_X10_174 kV_X10_tells ⟨by decide, rfl⟩ rfl rfl rfl rfl rfl (by omega) (r_tells (x := 4) (v := (nvR (twP B L (dk4 B L P) 5) 0 5000)) (by omega) (by omega)) (fun u5 E4 => ?_)
  have S5 : PR u5 B L (dk5 B L P) := by rw [E4]; exact PR.of R4' (fun k j z => zset_n (by omega))
  have X5 : DR u5 4 (zset (zset (zset (zset (zset D 0 1 (nvR (twP B L (dk0 B L P) 1) 1 7)) 0 2 (nvR (twP B L (dk1 B L P) 2) 0 3)) 0 3 (nvR (twP B L (dk2 B L P) 3) 0 10)) 0 4 (nvR (twP B L (dk3 B L P) 4) 0 9999)) 0 5 (nvR (twP B L (dk4 B L P) 5) 0 5000)) := by rw [E4]; exact DR.sc4 (X4.fr f4 (fun k j z => by omega)) (by omega) (by omega)
  have F5 : Fr sX h u5 := by rw [E4]; exact (F4.tr f4 (S'' := sX) (fun k j z => z) (fun k j z => Or.inl (by omega))).set (Or.inr (by unfold blk; omega))
  have n5 : u5 114 4 = h1 114 4 := by rw [E4]; exact (zset_n (by omega)).trans ((f4 _ _ (by omega)).trans n4)
  refine zS_aload_n (zdec eX10_desk 61 rfl) rfl rfl ?_
  refine zS_iconst (zdec eX10_desk 62 rfl) rfl ?_
  refine zS_aload_n (zdec eX10_desk 63 rfl) rfl rfl ?_
  refine zS_ldc2_w (zdec eX10_desk 64 rfl) kj_X10_218 rfl ?_
  refine zS_iconst (zdec eX10_desk 65 rfl) rfl ?_
  refine zS_sipush (zdec eX10_desk 66 rfl) rfl rfl ?_
  refine zvMI (M' := mX10_number_) (As := [zJ 4514, zI 0, zI 200]) (st := [zI 5, zA 108]) (zdec eX10_desk 67 rfl) kM_X10_159 kV_X10_number_ ⟨by decide, rfl⟩ rfl rfl rfl rfl rfl (by omega) (r_number_ (i := 6) (by omega) (by omega) (by omega) (by omega) (by omega) wk_6 vd.2.2.2.2.2.1 S5) (fun y5 t5 ⟨e5, R5', f5⟩ => ?_)
  rw [show y5 = (nvR (twP B L (dk5 B L P) 6) 0 200) from e5]
  refine zvMV (M' := mX10_tells) (As := [zI 5, zI (nvR (twP B L (dk5 B L P) 6) 0 200)]) (st := []) (zdec eX10_desk 68 rfl) kM_X10_174 kV_X10_tells ⟨by decide, rfl⟩ rfl rfl rfl rfl rfl (by omega) (r_tells (x := 5) (v := (nvR (twP B L (dk5 B L P) 6) 0 200)) (by omega) (by omega)) (fun u6 E5 => ?_)
  have S6 : PR u6 B L (dk6 B L P) := by rw [E5]; exact PR.of R5' (fun k j z => zset_n (by omega))
  have X6 : DR u6 4 (zset (zset (zset (zset (zset (zset D 0 1 (nvR (twP B L (dk0 B L P) 1) 1 7)) 0 2 (nvR (twP B L (dk1 B L P) 2) 0 3)) 0 3 (nvR (twP B L (dk2 B L P) 3) 0 10)) 0 4 (nvR (twP B L (dk3 B L P) 4) 0 9999)) 0 5 (nvR (twP B L (dk4 B L P) 5) 0 5000)) 0 6 (nvR (twP B L (dk5 B L P) 6) 0 200)) := by rw [E5]; exact DR.sc4 (X5.fr f5 (fun k j z => by omega)) (by omega) (by omega)
  have F6 : Fr sX h u6 := by rw [E5]; exact (F5.tr f5 (S'' := sX) (fun k j z => z) (fun k j z => Or.inl (by omega))).set (Or.inr (by unfold blk; omega))
  have n6 : u6 114 4 = h1 114 4 := by rw [E5]; exact (zset_n (by omega)).trans ((f5 _ _ (by omega)).trans n5)
  refine zS_goto (tgt := 142) (zdec eX10_desk 69 rfl) rfl ?_
  refine K u6 S6 (fun z => ?_) n6 F6
  obtain ⟨a0, a1, a2, a3, a4, a5⟩ := dk_ok z
  unfold dkD
  rw [← a0, ← a1, ← a2, ← a3, ← a4, ← a5]
  exact X6

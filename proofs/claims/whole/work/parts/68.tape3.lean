abbrev sT : Int → Int → Prop := fun k _ => k = 1 ∨ (3 ≤ k ∧ k ≤ 13)
theorem TC.set {h : zH} {B : Int → Int} {L : Int} {P : Tp} {k j v : Int} (R : TC h B L P) (h1 : k ≠ 1) (h2 : k ≠ 2) : TC (zset h k j v) B L P := R.fr (S := fun a _ => a = k) (Fr.rf.set rfl) (fun a b z => ⟨fun w => h1 (z.symm.trans w), fun w => h2 (z.symm.trans w)⟩)
theorem DC.f1 {h h' : zH} {D : Dk} (R : DC h 3 D) (f : Fr s1 h h') : DC h' 3 D := R.at (fun k j a b => f _ _ (by show ¬ (3 + k = 1); omega))
theorem DC.sc {h : zH} {b : Int} {D : Dk} (R : DC h b D) {j v : Int} (j0 : 0 ≤ j) (j1 : j ≤ 6) : DC (zset h b j v) b (zset D 0 j v) := by
  have e7 : zset D 0 j v 0 7 = D 0 7 := zset_n (by omega)
  have e8 : zset D 0 j v 0 8 = D 0 8 := zset_n (by omega)
  have e9 : zset D 0 j v 0 9 = D 0 9 := zset_n (by omega)
  have e10 : zset D 0 j v 0 10 = D 0 10 := zset_n (by omega)
  refine ⟨fun i i0 i1 => ?_, fun s s0 s1 s2 => ?_, fun k w k0 k1 k2 w0 w1 => ?_, fun i i0 i1 i2 => ?_, fun i i0 i1 i2 => ?_⟩
  · by_cases w : i = j
    · rw [w, zset_s, zset_s]
    · rw [zset_j w, zset_j w]; exact R.1 i i0 i1
  · rw [zset_n (by omega), zset_n (by omega)]; exact R.2.1 s s0 s1 (by omega)
  · rw [zset_n (by omega), zset_n (by omega)]; exact R.2.2.1 k w k0 k1 (by omega) w0 w1
  · rw [zset_n (by omega), zset_n (by omega), zset_n (by omega), zset_n (by omega)]; exact R.2.2.2.1 i i0 i1 (by omega)
  · rw [zset_n (by omega), zset_n (by omega)]; exact R.2.2.2.2 i i0 i1 (by omega)
/-- counts -/
def CT (D : Dk) : Prop := (0 ≤ D 0 7 ∧ D 0 7 ≤ 4) ∧ (0 ≤ D 0 8 ∧ D 0 8 ≤ 5) ∧ (0 ≤ D 0 9 ∧ D 0 9 ≤ 6) ∧ (0 ≤ D 0 0 ∧ D 0 0 ≤ 1000)
def spD (D : Dk) (v : Int) : Dk := fun k j => if k = 1 ∧ j = D 0 7 then v else if k = 0 ∧ j = 7 then D 0 7 + 1 else D k j
def blD (D : Dk) (f : Int → Int) : Dk := fun k j => if k = 3 + D 0 8 then f j else if k = 0 ∧ j = 8 then D 0 8 + 1 else D k j
def lnD (D : Dk) (a o : Int) : Dk := fun k j => if k = 8 ∧ j = D 0 9 then a else if k = 9 ∧ j = D 0 9 then o else if k = 0 ∧ j = 9 then D 0 9 + 1 else D k j
theorem DC.sp {h h' : zH} {D : Dk} {v : Int} (R : DC h 3 D) (c : CT D) (e1 : h' 4 (D 0 7) = v) (e2 : h' 3 7 = D 0 7 + 1) (f : Fr (fun k j => k = 1 ∨ (k = 4 ∧ j = D 0 7) ∨ (k = 3 ∧ j = 7)) h h') : DC h' 3 (spD D v) := by
  have g : ∀ k j, ¬ (k = 1 ∧ j = D 0 7) → ¬ (k = 0 ∧ j = 7) → spD D v k j = D k j := fun k j h1 h2 => by unfold spD; rw [if_neg h1, if_neg h2]
  have c7 := c.1
  have c8 := g 0 8 (by omega) (by omega)
  have c9 := g 0 9 (by omega) (by omega)
  have c10 := g 0 10 (by omega) (by omega)
  have e7 : spD D v 0 7 = D 0 7 + 1 := by unfold spD; rw [if_neg (by omega), if_pos (by omega)]
  refine ⟨fun i i0 i1 => ?_, fun s s0 s1 s2 => ?_, fun k w k0 k1 k2 w0 w1 => ?_, fun i i0 i1 i2 => ?_, fun i i0 i1 i2 => ?_⟩
  · by_cases w : i = 7
    · rw [w, e2, e7]
    · rw [f _ _ (by omega), g _ _ (by omega) (by omega)]; exact R.1 i i0 i1
  · by_cases w : s = D 0 7
    · rw [show spD D v 1 s = v by unfold spD; rw [if_pos ⟨rfl, w⟩], w]; exact e1
    · rw [f _ _ (by omega), g _ _ (by omega) (by omega)]; exact R.2.1 s s0 s1 (by omega)
  · rw [f _ _ (by omega), g _ _ (by omega) (by omega)]; exact R.2.2.1 k w k0 k1 (by omega) w0 w1
  · rw [f _ _ (by omega), f _ _ (by omega), g _ _ (by omega) (by omega), g _ _ (by omega) (by omega)]; exact R.2.2.2.1 i i0 i1 (by omega)
  · rw [f _ _ (by omega), g _ _ (by omega) (by omega)]; exact R.2.2.2.2 i i0 i1 (by omega)
theorem DC.bl {h h' : zH} {D : Dk} {v : Int → Int} (R : DC h 3 D) (c : CT D) (e1 : ∀ w, 0 ≤ w → w < 7 → h' (6 + D 0 8) w = v w) (e2 : h' 3 8 = D 0 8 + 1) (c5 : D 0 8 < 5) (f : Fr (fun k j => k = 1 ∨ k = 6 + D 0 8 ∨ (k = 3 ∧ j = 8)) h h') : DC h' 3 (blD D v) := by
  have c8 := c.2.1
  have g : ∀ k j, k ≠ 3 + D 0 8 → ¬ (k = 0 ∧ j = 8) → blD D v k j = D k j := fun k j h1 h2 => by unfold blD; rw [if_neg h1, if_neg h2]
  have c7 := g 0 7 (by omega) (by omega)
  have c9 := g 0 9 (by omega) (by omega)
  have c10 := g 0 10 (by omega) (by omega)
  have e8 : blD D v 0 8 = D 0 8 + 1 := by unfold blD; rw [if_neg (by omega), if_pos (by omega)]
  refine ⟨fun i i0 i1 => ?_, fun s s0 s1 s2 => ?_, fun k w k0 k1 k2 w0 w1 => ?_, fun i i0 i1 i2 => ?_, fun i i0 i1 i2 => ?_⟩
  · by_cases w : i = 8
    · rw [w, e2, e8]
    · rw [f _ _ (by omega), g _ _ (by omega) (by omega)]; exact R.1 i i0 i1
  · rw [f _ _ (by omega), g _ _ (by omega) (by omega)]; exact R.2.1 s s0 s1 (by omega)
  · by_cases u : k = D 0 8
    · rw [show blD D v (3 + k) w = v w by unfold blD; rw [if_pos (by omega)], u]; exact e1 w w0 w1
    · rw [f _ _ (by omega), g _ _ (by omega) (by omega)]; exact R.2.2.1 k w k0 k1 (by omega) w0 w1
  · rw [f _ _ (by omega), f _ _ (by omega), g _ _ (by omega) (by omega), g _ _ (by omega) (by omega)]; exact R.2.2.2.1 i i0 i1 (by omega)
  · rw [f _ _ (by omega), g _ _ (by omega) (by omega)]; exact R.2.2.2.2 i i0 i1 (by omega)
theorem DC.ln' {h h' : zH} {D : Dk} {a o : Int} (R : DC h 3 D) (c : CT D) (e1 : h' 11 (D 0 9) = a) (e3 : h' 12 (D 0 9) = o) (e2 : h' 3 9 = D 0 9 + 1) (f : Fr (fun k j => k = 1 ∨ (k = 11 ∧ j = D 0 9) ∨ (k = 12 ∧ j = D 0 9) ∨ (k = 3 ∧ j = 9)) h h') : DC h' 3 (lnD D a o) := by
  have g : ∀ k j, ¬ (k = 8 ∧ j = D 0 9) → ¬ (k = 9 ∧ j = D 0 9) → ¬ (k = 0 ∧ j = 9) → lnD D a o k j = D k j := fun k j h1 h2 h3 => by unfold lnD; rw [if_neg h1, if_neg h2, if_neg h3]
  have cc := c.2.2.1
  have c7 := g 0 7 (by omega) (by omega) (by omega)
  have c8 := g 0 8 (by omega) (by omega) (by omega)
  have c10 := g 0 10 (by omega) (by omega) (by omega)
  have e9 : lnD D a o 0 9 = D 0 9 + 1 := by unfold lnD; rw [if_neg (by omega), if_neg (by omega), if_pos (by omega)]
  refine ⟨fun i i0 i1 => ?_, fun s s0 s1 s2 => ?_, fun k w k0 k1 k2 w0 w1 => ?_, fun i i0 i1 i2 => ?_, fun i i0 i1 i2 => ?_⟩
  · by_cases w : i = 9
    · rw [w, e2, e9]
    · rw [f _ _ (by omega), g _ _ (by omega) (by omega) (by omega)]; exact R.1 i i0 i1
  · rw [f _ _ (by omega), g _ _ (by omega) (by omega) (by omega)]; exact R.2.1 s s0 s1 (by omega)
  · rw [f _ _ (by omega), g _ _ (by omega) (by omega) (by omega)]; exact R.2.2.1 k w k0 k1 (by omega) w0 w1
  · by_cases u : i = D 0 9
    · rw [show lnD D a o 8 i = a by unfold lnD; rw [if_pos ⟨rfl, u⟩], show lnD D a o 9 i = o by unfold lnD; rw [if_neg (by omega), if_pos ⟨rfl, u⟩], u]; exact ⟨e1, e3⟩
    · rw [f _ _ (by omega), f _ _ (by omega), g _ _ (by omega) (by omega) (by omega), g _ _ (by omega) (by omega) (by omega)]; exact R.2.2.2.1 i i0 i1 (by omega)
  · rw [f _ _ (by omega), g _ _ (by omega) (by omega) (by omega)]; exact R.2.2.2.2 i i0 i1 (by omega)
def dk0 (B : Int → Int) (L : Int) (P : Tp) : Tp := twP B L P 0
def dk1 (B : Int → Int) (L : Int) (P : Tp) : Tp := tfP B L (dk0 B L P) 1 1 7
def dk2 (B : Int → Int) (L : Int) (P : Tp) : Tp := tfP B L (dk1 B L P) 2 0 3
def dk3 (B : Int → Int) (L : Int) (P : Tp) : Tp := tfP B L (dk2 B L P) 3 0 10
def dk4 (B : Int → Int) (L : Int) (P : Tp) : Tp := tfP B L (dk3 B L P) 4 0 9999
def dk5 (B : Int → Int) (L : Int) (P : Tp) : Tp := tfP B L (dk4 B L P) 5 0 5000
def dk6 (B : Int → Int) (L : Int) (P : Tp) : Tp := tfP B L (dk5 B L P) 6 0 200
def dkD (B : Int → Int) (L : Int) (P : Tp) (D : Dk) : Dk := (zset (zset (zset (zset (zset (zset D 0 1 (tfV B L (dk0 B L P) 1 1 7)) 0 2 (tfV B L (dk1 B L P) 2 0 3)) 0 3 (tfV B L (dk2 B L P) 3 0 10)) 0 4 (tfV B L (dk3 B L P) 4 0 9999)) 0 5 (tfV B L (dk4 B L P) 5 0 5000)) 0 6 (tfV B L (dk5 B L P) 6 0 200))
theorem TV.dk {L : Int} {P : Tp} (V : TV L P) (B : Int → Int) : TV L (dk0 B L P) ∧ TV L (dk1 B L P) ∧ TV L (dk2 B L P) ∧ TV L (dk3 B L P) ∧ TV L (dk4 B L P) ∧ TV L (dk5 B L P) ∧ TV L (dk6 B L P) := by
  have v0 : TV L (dk0 B L P) := V.tw B 0
  have v1 : TV L (dk1 B L P) := v0.tf B 1 1 7
  have v2 : TV L (dk2 B L P) := v1.tf B 2 0 3
  have v3 : TV L (dk3 B L P) := v2.tf B 3 0 10
  have v4 : TV L (dk4 B L P) := v3.tf B 4 0 9999
  have v5 : TV L (dk5 B L P) := v4.tf B 5 0 5000
  have v6 : TV L (dk6 B L P) := v5.tf B 6 0 200
  exact ⟨v0, v1, v2, v3, v4, v5, v6⟩
theorem c_readDesk {d : Nat} {h : zH} {B : Int → Int} {L : Int} {P : Tp} {D : Dk} (hd : 9 ≤ d) (V : TV L P) (RT : TC h B L P) (RD : DC h 3 D) (c : CT D) : zMV d mX7_readDesk [zA 1] h (fun h' => TC h' B L (dk6 B L P) ∧ DC h' 3 (dkD B L P D) ∧ Fr sT h h') := by
  have vd := V.dk B
  refine zmet rfl rfl rfl ?_
  refine zS_aload_n (zdec eX7_readDesk 0 rfl) rfl rfl ?_
  refine zS_ldcS (i := 0) (zdec eX7_readDesk 1 rfl) rfl ?_
  refine zvMV (M' := mX7_takeWord) (As := [(5, 0)]) (st := []) (zdec eX7_readDesk 2 rfl) kM_X7_78 kV_X7_takeWord ⟨by decide, rfl⟩ rfl rfl rfl rfl rfl (by omega) (c_takeWord (by omega) V RT (by decide) (by decide)) (fun h2 ⟨RT2, g2⟩ => ?_)
  have D2 := RD.f1 g2
  have f2 : Fr sT h h2 := g2.mono (fun k j z => Or.inl z)
  refine zS_aload_n (zdec eX7_readDesk 3 rfl) rfl rfl ?_
  refine zS_getref (i := 12) (zdec eX7_readDesk 4 rfl) kF_X7_18 ⟨by decide, rfl⟩ rfl rfl rfl rfl rfl ?_
  refine zS_aload_n (zdec eX7_readDesk 5 rfl) rfl rfl ?_
  refine zS_ldcS (i := 1) (zdec eX7_readDesk 6 rfl) rfl ?_
  refine zS_iconst (zdec eX7_readDesk 7 rfl) rfl ?_
  refine zS_bipush (zdec eX7_readDesk 8 rfl) rfl rfl ?_
  refine zvMI (M' := mX7_takeField) (As := [(5, 1), zI 1, zI 7]) (st := [zA 3]) (zdec eX7_readDesk 9 rfl) kM_X7_84 kV_X7_takeField ⟨by decide, rfl⟩ rfl rfl rfl rfl rfl (by omega) (c_takeField (P := dk0 B L P) (by omega) vd.1 RT2 (by decide) (by decide)) (fun x3 h3 ⟨e3, RT3, g3⟩ => ?_)
  have D3 := D2.f1 g3
  have f3 : Fr sT h h3 := f2.tr g3 (fun k j z => z) (fun k j z => Or.inl z)
  refine zS_putfield (x := 1) (zdec eX7_readDesk 10 rfl) kF_X7_88 (Or.inl kf0_1) ⟨by decide, rfl⟩ rfl rfl rfl (Or.inl (fun q => by cases q)) ?_
  refine zS_aload_n (zdec eX7_readDesk 11 rfl) rfl rfl ?_
  refine zS_getref (i := 12) (zdec eX7_readDesk 12 rfl) kF_X7_18 ⟨by decide, rfl⟩ rfl rfl rfl rfl rfl ?_
  refine zS_aload_n (zdec eX7_readDesk 13 rfl) rfl rfl ?_
  refine zS_ldcS (i := 2) (zdec eX7_readDesk 14 rfl) rfl ?_
  refine zS_iconst (zdec eX7_readDesk 15 rfl) rfl ?_
  refine zS_iconst (zdec eX7_readDesk 16 rfl) rfl ?_
  refine zvMI (M' := mX7_takeField) (As := [(5, 2), zI 0, zI 3]) (st := [zA 3]) (zdec eX7_readDesk 17 rfl) kM_X7_84 kV_X7_takeField ⟨by decide, rfl⟩ rfl rfl rfl rfl rfl (by omega) (c_takeField (P := dk1 B L P) (by omega) vd.2.1 (RT3.set (by decide) (by decide)) (by decide) (by decide)) (fun x4 h4 ⟨e4, RT4, g4⟩ => ?_)
  have D4 := (D3.sc (j := 1) (v := x3) (by decide) (by decide)).f1 g4
  have f4 : Fr sT h h4 := (f3.set (by omega)).tr g4 (fun k j z => z) (fun k j z => Or.inl z)
  refine zS_putfield (x := 2) (zdec eX7_readDesk 18 rfl) kF_X7_92 (Or.inl kf0_2) ⟨by decide, rfl⟩ rfl rfl rfl (Or.inl (fun q => by cases q)) ?_
  refine zS_aload_n (zdec eX7_readDesk 19 rfl) rfl rfl ?_
  refine zS_getref (i := 12) (zdec eX7_readDesk 20 rfl) kF_X7_18 ⟨by decide, rfl⟩ rfl rfl rfl rfl rfl ?_
  refine zS_aload_n (zdec eX7_readDesk 21 rfl) rfl rfl ?_
  refine zS_ldcS (i := 3) (zdec eX7_readDesk 22 rfl) rfl ?_
  refine zS_iconst (zdec eX7_readDesk 23 rfl) rfl ?_
  refine zS_bipush (zdec eX7_readDesk 24 rfl) rfl rfl ?_
  refine zvMI (M' := mX7_takeField) (As := [(5, 3), zI 0, zI 10]) (st := [zA 3]) (zdec eX7_readDesk 25 rfl) kM_X7_84 kV_X7_takeField ⟨by decide, rfl⟩ rfl rfl rfl rfl rfl (by omega) (c_takeField (P := dk2 B L P) (by omega) vd.2.2.1 (RT4.set (by decide) (by decide)) (by decide) (by decide)) (fun x5 h5 ⟨e5, RT5, g5⟩ => ?_)
  have D5 := (D4.sc (j := 2) (v := x4) (by decide) (by decide)).f1 g5
  have f5 : Fr sT h h5 := (f4.set (by omega)).tr g5 (fun k j z => z) (fun k j z => Or.inl z)
  refine zS_putfield (x := 3) (zdec eX7_readDesk 26 rfl) kF_X7_96 (Or.inl kf0_3) ⟨by decide, rfl⟩ rfl rfl rfl (Or.inl (fun q => by cases q)) ?_
  refine zS_aload_n (zdec eX7_readDesk 27 rfl) rfl rfl ?_
  refine zS_getref (i := 12) (zdec eX7_readDesk 28 rfl) kF_X7_18 ⟨by decide, rfl⟩ rfl rfl rfl rfl rfl ?_
  refine zS_aload_n (zdec eX7_readDesk 29 rfl) rfl rfl ?_
  refine zS_ldcS (i := 4) (zdec eX7_readDesk 30 rfl) rfl ?_
  refine zS_iconst (zdec eX7_readDesk 31 rfl) rfl ?_
  refine zS_sipush (zdec eX7_readDesk 32 rfl) rfl rfl ?_
  refine zvMI (M' := mX7_takeField) (As := [(5, 4), zI 0, zI 9999]) (st := [zA 3]) (zdec eX7_readDesk 33 rfl) kM_X7_84 kV_X7_takeField ⟨by decide, rfl⟩ rfl rfl rfl rfl rfl (by omega) (c_takeField (P := dk3 B L P) (by omega) vd.2.2.2.1 (RT5.set (by decide) (by decide)) (by decide) (by decide)) (fun x6 h6 ⟨e6, RT6, g6⟩ => ?_)
  have D6 := (D5.sc (j := 3) (v := x5) (by decide) (by decide)).f1 g6
  have f6 : Fr sT h h6 := (f5.set (by omega)).tr g6 (fun k j z => z) (fun k j z => Or.inl z)
  refine zS_putfield (x := 4) (zdec eX7_readDesk 34 rfl) kF_X7_98 (Or.inl kf0_4) ⟨by decide, rfl⟩ rfl rfl rfl (Or.inl (fun q => by cases q)) ?_
  refine zS_aload_n (zdec eX7_readDesk 35 rfl) rfl rfl ?_
  refine zS_getref (i := 12) (zdec eX7_readDesk 36 rfl) kF_X7_18 ⟨by decide, rfl⟩ rfl rfl rfl rfl rfl ?_
  refine zS_aload_n (zdec eX7_readDesk 37 rfl) rfl rfl ?_
  refine zS_ldcS (i := 5) (zdec eX7_readDesk 38 rfl) rfl ?_
  refine zS_iconst (zdec eX7_readDesk 39 rfl) rfl ?_
  refine zS_sipush (zdec eX7_readDesk 40 rfl) rfl rfl ?_
  refine zvMI (M' := mX7_takeField) (As := [(5, 5), zI 0, zI 5000]) (st := [zA 3]) (zdec eX7_readDesk 41 rfl) kM_X7_84 kV_X7_takeField ⟨by decide, rfl⟩ rfl rfl rfl rfl rfl (by omega) (c_takeField (P := dk4 B L P) (by omega) vd.2.2.2.2.1 (RT6.set (by decide) (by decide)) (by decide) (by decide)) (fun x7 h7 ⟨e7, RT7, g7⟩ => ?_)
  have D7 := (D6.sc (j := 4) (v := x6) (by decide) (by decide)).f1 g7
  have f7 : Fr sT h h7 := (f6.set (by omega)).tr g7 (fun k j z => z) (fun k j z => Or.inl z)
  refine zS_putfield (x := 5) (zdec eX7_readDesk 42 rfl) kF_X7_102 (Or.inl kf0_5) ⟨by decide, rfl⟩ rfl rfl rfl (Or.inl (fun q => by cases q)) ?_
  refine zS_aload_n (zdec eX7_readDesk 43 rfl) rfl rfl ?_
  refine zS_getref (i := 12) (zdec eX7_readDesk 44 rfl) kF_X7_18 ⟨by decide, rfl⟩ rfl rfl rfl rfl rfl ?_
  refine zS_aload_n (zdec eX7_readDesk 45 rfl) rfl rfl ?_
  refine zS_ldcS (i := 6) (zdec eX7_readDesk 46 rfl) rfl ?_
  refine zS_iconst (zdec eX7_readDesk 47 rfl) rfl ?_
  refine zS_sipush (zdec eX7_readDesk 48 rfl) rfl rfl ?_
  refine zvMI (M' := mX7_takeField) (As := [(5, 6), zI 0, zI 200]) (st := [zA 3]) (zdec eX7_readDesk 49 rfl) kM_X7_84 kV_X7_takeField ⟨by decide, rfl⟩ rfl rfl rfl rfl rfl (by omega) (c_takeField (P := dk5 B L P) (by omega) vd.2.2.2.2.2.1 (RT7.set (by decide) (by decide)) (by decide) (by decide)) (fun x8 h8 ⟨e8, RT8, g8⟩ => ?_)
  have D8 := (D7.sc (j := 5) (v := x7) (by decide) (by decide)).f1 g8
  have f8 : Fr sT h h8 := (f7.set (by omega)).tr g8 (fun k j z => z) (fun k j z => Or.inl z)
  refine zS_putfield (x := 6) (zdec eX7_readDesk 50 rfl) kF_X7_106 (Or.inl kf0_6) ⟨by decide, rfl⟩ rfl rfl rfl (Or.inl (fun q => by cases q)) ?_
  exact zlMV (zdec eX7_readDesk 51 rfl) rfl ⟨RT8.set (by decide) (by decide), by have k := D8.sc (j := 6) (v := x8) (by decide) (by decide); rw [e3, e4, e5, e6, e7, e8] at k; rw [e8]; exact k, f8.set (by omega)⟩
def spP (B : Int → Int) (L : Int) (P : Tp) : Tp := tfP B L (nxP B L P) 8 0 9
def spV (B : Int → Int) (L : Int) (P : Tp) : Int := tfV B L (nxP B L P) 8 0 9
theorem c_readSupplier {d : Nat} {h : zH} {B : Int → Int} {L : Int} {P : Tp} {D : Dk} (hd : 9 ≤ d) (V : TV L P) (RT : TC h B L P) (RD : DC h 3 D) (c : CT D) : zMV d mX7_readSupplier [zA 1] h (fun h' => TC h' B L (if 4 ≤ D 0 7 then rfu P 3 else spP B L P) ∧ DC h' 3 (if 4 ≤ D 0 7 then D else spD D (spV B L P)) ∧ Fr sT h h') := by
  have c7 := c.1
  refine zmet rfl rfl rfl ?_
  refine zS_aload_n (zdec eX7_readSupplier 0 rfl) rfl rfl ?_
  refine zS_getref (i := 12) (zdec eX7_readSupplier 1 rfl) kF_X7_18 ⟨by decide, rfl⟩ rfl rfl rfl rfl rfl ?_
  refine zS_getfieldE (x := 7) (v := (D 0 7)) (zdec eX7_readSupplier 2 rfl) kF_X7_108 ⟨by decide, rfl⟩ rfl rfl rfl (RD.1 7 (by decide) (by decide)) ?_
  refine zS_iconst (zdec eX7_readSupplier 3 rfl) rfl ?_
  refine zS_icmp_lt (tgt := 17) (zdec eX7_readSupplier 4 rfl) rfl (fun c1 => ?_) (fun c1 => ?_)
  · refine zS_aload_n (zdec eX7_readSupplier 9 rfl) rfl rfl ?_
    refine zvMV (M' := mX7_nextToken) (As := []) (st := []) (zdec eX7_readSupplier 10 rfl) kM_X7_38 kV_X7_nextToken ⟨by decide, rfl⟩ rfl rfl rfl rfl rfl (by omega) (c_nextToken (by omega) V RT) (fun h2 ⟨RT2, g2⟩ => ?_)
    have D2 := RD.f1 g2
    have V2 := V.nx B
    refine zS_aload_n (zdec eX7_readSupplier 11 rfl) rfl rfl ?_
    refine zS_getref (i := 12) (zdec eX7_readSupplier 12 rfl) kF_X7_18 ⟨by decide, rfl⟩ rfl rfl rfl rfl rfl ?_
    refine zS_getref (i := 13) (zdec eX7_readSupplier 13 rfl) kF_X7_111 ⟨by decide, rfl⟩ rfl rfl rfl rfl rfl ?_
    refine zS_aload_n (zdec eX7_readSupplier 14 rfl) rfl rfl ?_
    refine zS_getref (i := 12) (zdec eX7_readSupplier 15 rfl) kF_X7_18 ⟨by decide, rfl⟩ rfl rfl rfl rfl rfl ?_
    refine zS_getfieldE (x := 7) (v := (D 0 7)) (zdec eX7_readSupplier 16 rfl) kF_X7_108 ⟨by decide, rfl⟩ rfl rfl rfl (D2.1 7 (by decide) (by decide)) ?_
    refine zS_aload_n (zdec eX7_readSupplier 17 rfl) rfl rfl ?_
    refine zS_ldcS (i := 8) (zdec eX7_readSupplier 18 rfl) rfl ?_
    refine zS_iconst (zdec eX7_readSupplier 19 rfl) rfl ?_
    refine zS_bipush (zdec eX7_readSupplier 20 rfl) rfl rfl ?_
    refine zvMI (M' := mX7_takeField) (As := [(5, 8), zI 0, zI 9]) (st := [zI (D 0 7), zA 4]) (zdec eX7_readSupplier 21 rfl) kM_X7_84 kV_X7_takeField ⟨by decide, rfl⟩ rfl rfl rfl rfl rfl (by omega) (c_takeField (by omega) V2 RT2 (by decide) (by decide)) (fun x3 h3 ⟨e3, RT3, g3⟩ => ?_)
    have D3 := D2.f1 g3
    have f3 : Fr s1 h h3 := g2.tr g3 (fun k j z => z) (fun k j z => z)
    refine zS_iastore (zdec eX7_readSupplier 22 rfl) ⟨by decide, rfl⟩ (by omega) (by omega) ?_
    refine zS_aload_n (zdec eX7_readSupplier 23 rfl) rfl rfl ?_
    refine zS_getref (i := 12) (zdec eX7_readSupplier 24 rfl) kF_X7_18 ⟨by decide, rfl⟩ rfl rfl rfl rfl rfl ?_
    refine zS_dup (zdec eX7_readSupplier 25 rfl) (fun q => by cases q) ?_
    refine zS_getfieldE (x := 7) (v := (D 0 7)) (zdec eX7_readSupplier 26 rfl) kF_X7_108 ⟨by decide, rfl⟩ rfl rfl rfl ((congrFun (zset_k (by decide)) _).trans (D3.1 7 (by decide) (by decide))) ?_
    refine zS_iconst (zdec eX7_readSupplier 27 rfl) rfl ?_
    refine zS_iadd (zdec eX7_readSupplier 28 rfl) ⟨by omega, by omega⟩ ?_
    refine zS_putfield (x := 7) (zdec eX7_readSupplier 29 rfl) kF_X7_108 (Or.inl kf0_7) ⟨by decide, rfl⟩ rfl rfl rfl (Or.inl (fun q => by cases q)) ?_
    have ff : Fr (fun k j => k = 1 ∨ (k = 4 ∧ j = D 0 7) ∨ (k = 3 ∧ j = 7)) h (zset (zset h3 4 (D 0 7) x3) 3 7 ((D 0 7) + 1)) := ((f3.mono (fun k j z => Or.inl z)).set (by omega)).set (by omega)
    exact zlMV (zdec eX7_readSupplier 30 rfl) rfl ⟨by rw [if_neg (by omega)]; exact (RT3.set (by decide) (by decide)).set (by decide) (by decide), by rw [if_neg (by omega)]; exact RD.sp c (by rw [zset_n (by omega), zset_s, e3]; rfl) (zset_s _ _ _ _) ff, ff.mono (fun k j z => by omega)⟩
  · refine zS_aload_n (zdec eX7_readSupplier 5 rfl) rfl rfl ?_
    refine zS_iconst (zdec eX7_readSupplier 6 rfl) rfl ?_
    refine zvMV (M' := mX7_refuse) (As := [zI 3]) (st := []) (zdec eX7_readSupplier 7 rfl) kM_X7_69 kV_X7_refuse ⟨by decide, rfl⟩ rfl rfl rfl rfl rfl (by omega) (c_refuse V RT) (fun h3 ⟨RT3, g3⟩ => ?_)
    exact zlMV (zdec eX7_readSupplier 8 rfl) rfl ⟨by rw [if_pos (by omega)]; exact RT3, by rw [if_pos (by omega)]; exact RD.f1 g3, g3.mono (fun k j z => Or.inl z)⟩
def ln1 (B : Int → Int) (L : Int) (P : Tp) : Tp := tnP B L (nxP B L P) 1 3000
def lnA (B : Int → Int) (L : Int) (P : Tp) : Int := tnV (nxP B L P) 1 3000
def lnP (B : Int → Int) (L : Int) (P : Tp) : Tp := tfP B L (ln1 B L P) 17 0 6
def lnO (B : Int → Int) (L : Int) (P : Tp) : Int := tfV B L (ln1 B L P) 17 0 6
theorem c_readIncome {d : Nat} {h : zH} {B : Int → Int} {L : Int} {P : Tp} {D : Dk} (hd : 9 ≤ d) (V : TV L P) (RT : TC h B L P) (RD : DC h 3 D) (c : CT D) : zMV d mX7_readIncome [zA 1] h (fun h' => TC h' B L (if 6 ≤ D 0 9 then rfu P 3 else lnP B L P) ∧ DC h' 3 (if 6 ≤ D 0 9 then D else lnD D (lnA B L P) (lnO B L P)) ∧ Fr sT h h') := by
  have c9 := c.2.2.1
  refine zmet rfl rfl rfl ?_
  refine zS_aload_n (zdec eX7_readIncome 0 rfl) rfl rfl ?_
  refine zS_getref (i := 12) (zdec eX7_readIncome 1 rfl) kF_X7_18 ⟨by decide, rfl⟩ rfl rfl rfl rfl rfl ?_
  refine zS_getfieldE (x := 9) (v := (D 0 9)) (zdec eX7_readIncome 2 rfl) kF_X7_137 ⟨by decide, rfl⟩ rfl rfl rfl (RD.1 9 (by decide) (by decide)) ?_
  refine zS_bipush (zdec eX7_readIncome 3 rfl) rfl rfl ?_
  refine zS_icmp_lt (tgt := 18) (zdec eX7_readIncome 4 rfl) rfl (fun c1 => ?_) (fun c1 => ?_)
  · refine zS_aload_n (zdec eX7_readIncome 9 rfl) rfl rfl ?_
    refine zvMV (M' := mX7_nextToken) (As := []) (st := []) (zdec eX7_readIncome 10 rfl) kM_X7_38 kV_X7_nextToken ⟨by decide, rfl⟩ rfl rfl rfl rfl rfl (by omega) (c_nextToken (by omega) V RT) (fun h2 ⟨RT2, g2⟩ => ?_)
    have D2 := RD.f1 g2
    have V2 := V.nx B
    refine zS_aload_n (zdec eX7_readIncome 11 rfl) rfl rfl ?_
    refine zS_getref (i := 12) (zdec eX7_readIncome 12 rfl) kF_X7_18 ⟨by decide, rfl⟩ rfl rfl rfl rfl rfl ?_
    refine zS_getref (i := 15) (zdec eX7_readIncome 13 rfl) kF_X7_140 ⟨by decide, rfl⟩ rfl rfl rfl rfl rfl ?_
    refine zS_aload_n (zdec eX7_readIncome 14 rfl) rfl rfl ?_
    refine zS_getref (i := 12) (zdec eX7_readIncome 15 rfl) kF_X7_18 ⟨by decide, rfl⟩ rfl rfl rfl rfl rfl ?_
    refine zS_getfieldE (x := 9) (v := (D 0 9)) (zdec eX7_readIncome 16 rfl) kF_X7_137 ⟨by decide, rfl⟩ rfl rfl rfl (D2.1 9 (by decide) (by decide)) ?_
    refine zS_aload_n (zdec eX7_readIncome 17 rfl) rfl rfl ?_
    refine zS_iconst (zdec eX7_readIncome 18 rfl) rfl ?_
    refine zS_sipush (zdec eX7_readIncome 19 rfl) rfl rfl ?_
    refine zvMI (M' := mX7_takeNumber) (As := [zI 1, zI 3000]) (st := [zI (D 0 9), zA 11]) (zdec eX7_readIncome 20 rfl) kM_X7_143 kV_X7_takeNumber ⟨by decide, rfl⟩ rfl rfl rfl rfl rfl (by omega) (c_takeNumber (by omega) V2 RT2) (fun x3 h3 ⟨e3, RT3, g3⟩ => ?_)
    have D3 := D2.f1 g3
    have f3 : Fr s1 h h3 := g2.tr g3 (fun k j z => z) (fun k j z => z)
    have V3 : TV L (ln1 B L P) := V2.tn B 1 3000
    refine zS_iastore (zdec eX7_readIncome 21 rfl) ⟨by decide, rfl⟩ (by omega) (by omega) ?_
    refine zS_aload_n (zdec eX7_readIncome 22 rfl) rfl rfl ?_
    refine zS_getref (i := 12) (zdec eX7_readIncome 23 rfl) kF_X7_18 ⟨by decide, rfl⟩ rfl rfl rfl rfl rfl ?_
    refine zS_getref (i := 16) (zdec eX7_readIncome 24 rfl) kF_X7_147 ⟨by decide, rfl⟩ rfl rfl rfl rfl rfl ?_
    refine zS_aload_n (zdec eX7_readIncome 25 rfl) rfl rfl ?_
    refine zS_getref (i := 12) (zdec eX7_readIncome 26 rfl) kF_X7_18 ⟨by decide, rfl⟩ rfl rfl rfl rfl rfl ?_
    refine zS_getfieldE (x := 9) (v := (D 0 9)) (zdec eX7_readIncome 27 rfl) kF_X7_137 ⟨by decide, rfl⟩ rfl rfl rfl ((congrFun (zset_k (by decide)) _).trans (D3.1 9 (by decide) (by decide))) ?_
    refine zS_aload_n (zdec eX7_readIncome 28 rfl) rfl rfl ?_
    refine zS_ldcS (i := 17) (zdec eX7_readIncome 29 rfl) rfl ?_
    refine zS_iconst (zdec eX7_readIncome 30 rfl) rfl ?_
    refine zS_bipush (zdec eX7_readIncome 31 rfl) rfl rfl ?_
    refine zvMI (M' := mX7_takeField) (As := [(5, 17), zI 0, zI 6]) (st := [zI (D 0 9), zA 12]) (zdec eX7_readIncome 32 rfl) kM_X7_84 kV_X7_takeField ⟨by decide, rfl⟩ rfl rfl rfl rfl rfl (by omega) (c_takeField (by omega) V3 (RT3.set (by decide) (by decide)) (by decide) (by decide)) (fun x4 h4 ⟨e4, RT4, g4⟩ => ?_)
    have q4 : h4 3 9 = D 0 9 := (g4 _ _ (by omega)).trans ((congrFun (zset_k (by decide)) _).trans (D3.1 9 (by decide) (by decide)))
    refine zS_iastore (zdec eX7_readIncome 33 rfl) ⟨by decide, rfl⟩ (by omega) (by omega) ?_
    refine zS_aload_n (zdec eX7_readIncome 34 rfl) rfl rfl ?_
    refine zS_getref (i := 12) (zdec eX7_readIncome 35 rfl) kF_X7_18 ⟨by decide, rfl⟩ rfl rfl rfl rfl rfl ?_
    refine zS_dup (zdec eX7_readIncome 36 rfl) (fun q => by cases q) ?_
    refine zS_getfieldE (x := 9) (v := (D 0 9)) (zdec eX7_readIncome 37 rfl) kF_X7_137 ⟨by decide, rfl⟩ rfl rfl rfl ((congrFun (zset_k (by decide)) _).trans q4) ?_
    refine zS_iconst (zdec eX7_readIncome 38 rfl) rfl ?_
    refine zS_iadd (zdec eX7_readIncome 39 rfl) ⟨by omega, by omega⟩ ?_
    refine zS_putfield (x := 9) (zdec eX7_readIncome 40 rfl) kF_X7_137 (Or.inl kf0_9) ⟨by decide, rfl⟩ rfl rfl rfl (Or.inl (fun q => by cases q)) ?_
    have ff : Fr (fun k j => k = 1 ∨ (k = 11 ∧ j = D 0 9) ∨ (k = 12 ∧ j = D 0 9) ∨ (k = 3 ∧ j = 9)) h (zset (zset h4 12 (D 0 9) x4) 3 9 ((D 0 9) + 1)) := ((((f3.mono (fun k j z => Or.inl z)).set (by omega)).tr g4 (S'' := (fun k j => k = 1 ∨ (k = 11 ∧ j = D 0 9) ∨ (k = 12 ∧ j = D 0 9) ∨ (k = 3 ∧ j = 9))) (fun k j z => z) (fun k j z => Or.inl z)).set (by omega)).set (by omega)
    exact zlMV (zdec eX7_readIncome 41 rfl) rfl ⟨by rw [if_neg (by omega)]; exact (RT4.set (by decide) (by decide)).set (by decide) (by decide), by rw [if_neg (by omega)]; exact RD.ln' c (by rw [zset_n (by omega), zset_n (by omega), g4 _ _ (by omega), zset_s, e3]; rfl) (by rw [zset_n (by omega), zset_s, e4]; rfl) (zset_s _ _ _ _) ff, ff.mono (fun k j z => by omega)⟩
  · refine zS_aload_n (zdec eX7_readIncome 5 rfl) rfl rfl ?_
    refine zS_iconst (zdec eX7_readIncome 6 rfl) rfl ?_
    refine zvMV (M' := mX7_refuse) (As := [zI 3]) (st := []) (zdec eX7_readIncome 7 rfl) kM_X7_69 kV_X7_refuse ⟨by decide, rfl⟩ rfl rfl rfl rfl rfl (by omega) (c_refuse V RT) (fun h3 ⟨RT3, g3⟩ => ?_)
    exact zlMV (zdec eX7_readIncome 8 rfl) rfl ⟨by rw [if_pos (by omega)]; exact RT3, by rw [if_pos (by omega)]; exact RD.f1 g3, g3.mono (fun k j z => Or.inl z)⟩
def bl0 (B : Int → Int) (L : Int) (P : Tp) (D : Dk) : Tp := nxP B L P
def bl1 (B : Int → Int) (L : Int) (P : Tp) (D : Dk) : Tp := tfP B L (bl0 B L P D) 10 0 (D 0 7 - 1)
def bv0 (B : Int → Int) (L : Int) (P : Tp) (D : Dk) : Int := tfV B L (bl0 B L P D) 10 0 (D 0 7 - 1)
def bl2 (B : Int → Int) (L : Int) (P : Tp) (D : Dk) : Tp := tfP B L (bl1 B L P D) 11 1 3000
def bv1 (B : Int → Int) (L : Int) (P : Tp) (D : Dk) : Int := tfV B L (bl1 B L P D) 11 1 3000
def bl3 (B : Int → Int) (L : Int) (P : Tp) (D : Dk) : Tp := tfP B L (bl2 B L P D) 12 0 20
def bv2 (B : Int → Int) (L : Int) (P : Tp) (D : Dk) : Int := tfV B L (bl2 B L P D) 12 0 20
def bl4 (B : Int → Int) (L : Int) (P : Tp) (D : Dk) : Tp := tfP B L (bl3 B L P D) 13 0 6
def bv3 (B : Int → Int) (L : Int) (P : Tp) (D : Dk) : Int := tfV B L (bl3 B L P D) 13 0 6
def bl5 (B : Int → Int) (L : Int) (P : Tp) (D : Dk) : Tp := tfP B L (bl4 B L P D) 14 0 6
def bv4 (B : Int → Int) (L : Int) (P : Tp) (D : Dk) : Int := tfV B L (bl4 B L P D) 14 0 6
def bl6 (B : Int → Int) (L : Int) (P : Tp) (D : Dk) : Tp := tfP B L (bl5 B L P D) 15 0 99
def bv5 (B : Int → Int) (L : Int) (P : Tp) (D : Dk) : Int := tfV B L (bl5 B L P D) 15 0 99
def blP (B : Int → Int) (L : Int) (P : Tp) (D : Dk) : Tp := if isW B (bl6 B L P D) 16 then tfP B L (bl6 B L P D) 16 0 (bv1 B L P D) else bl6 B L P D
def bv6 (B : Int → Int) (L : Int) (P : Tp) (D : Dk) : Int := if isW B (bl6 B L P D) 16 then tfV B L (bl6 B L P D) 16 0 (bv1 B L P D) else 0
def bvF (B : Int → Int) (L : Int) (P : Tp) (D : Dk) : Int → Int := fun w => if w = 0 then bv0 B L P D else if w = 1 then bv1 B L P D else if w = 2 then bv2 B L P D else if w = 3 then bv3 B L P D else if w = 4 then bv4 B L P D else if w = 5 then bv5 B L P D else bv6 B L P D
theorem TV.bl {L : Int} {P : Tp} (V : TV L P) (B : Int → Int) (D : Dk) : TV L (bl0 B L P D) ∧ TV L (bl1 B L P D) ∧ TV L (bl2 B L P D) ∧ TV L (bl3 B L P D) ∧ TV L (bl4 B L P D) ∧ TV L (bl5 B L P D) ∧ TV L (bl6 B L P D) := by
  have v0 : TV L (bl0 B L P D) := V.nx B
  have v1 : TV L (bl1 B L P D) := v0.tf B 10 0 (D 0 7 - 1)
  have v2 : TV L (bl2 B L P D) := v1.tf B 11 1 3000
  have v3 : TV L (bl3 B L P D) := v2.tf B 12 0 20
  have v4 : TV L (bl4 B L P D) := v3.tf B 13 0 6
  have v5 : TV L (bl5 B L P D) := v4.tf B 14 0 6
  have v6 : TV L (bl6 B L P D) := v5.tf B 15 0 99
  exact ⟨v0, v1, v2, v3, v4, v5, v6⟩
theorem c_readBill {d : Nat} {h : zH} {B : Int → Int} {L : Int} {P : Tp} {D : Dk} (hd : 9 ≤ d) (V : TV L P) (RT : TC h B L P) (RD : DC h 3 D) (c : CT D) : zMV d mX7_readBill [zA 1] h (fun h' => TC h' B L (if 5 ≤ D 0 8 then rfu P 3 else blP B L P D) ∧ DC h' 3 (if 5 ≤ D 0 8 then D else blD D (bvF B L P D)) ∧ Fr sT h h') := by
  have c8 := c.2.1
  have c7 := c.1
  have vd := V.bl B D
  refine zmet rfl rfl rfl ?_
  refine zS_aload_n (zdec eX7_readBill 0 rfl) rfl rfl ?_
  refine zS_getref (i := 12) (zdec eX7_readBill 1 rfl) kF_X7_18 ⟨by decide, rfl⟩ rfl rfl rfl rfl rfl ?_
  refine zS_getfieldE (x := 8) (v := (D 0 8)) (zdec eX7_readBill 2 rfl) kF_X7_116 ⟨by decide, rfl⟩ rfl rfl rfl (RD.1 8 (by decide) (by decide)) ?_
  refine zS_iconst (zdec eX7_readBill 3 rfl) rfl ?_
  refine zS_icmp_lt (tgt := 17) (zdec eX7_readBill 4 rfl) rfl (fun c1 => ?_) (fun c1 => ?_)
  · refine zS_aload_n (zdec eX7_readBill 9 rfl) rfl rfl ?_
    refine zvMV (M' := mX7_nextToken) (As := []) (st := []) (zdec eX7_readBill 10 rfl) kM_X7_38 kV_X7_nextToken ⟨by decide, rfl⟩ rfl rfl rfl rfl rfl (by omega) (c_nextToken (by omega) V RT) (fun h2 ⟨RT2, g2⟩ => ?_)
    have D2 := RD.f1 g2
    have f2 : Fr (fun k j => k = 1 ∨ k = 6 + D 0 8 ∨ (k = 3 ∧ j = 8)) h h2 := g2.mono (fun k j z => Or.inl z)
    refine zS_aload_n (zdec eX7_readBill 11 rfl) rfl rfl ?_
    refine zS_getref (i := 12) (zdec eX7_readBill 12 rfl) kF_X7_18 ⟨by decide, rfl⟩ rfl rfl rfl rfl rfl ?_
    refine zS_getref (i := 14) (zdec eX7_readBill 13 rfl) kF_X7_119 ⟨by decide, rfl⟩ rfl rfl rfl rfl rfl ?_
    refine zS_aload_n (zdec eX7_readBill 14 rfl) rfl rfl ?_
    refine zS_getref (i := 12) (zdec eX7_readBill 15 rfl) kF_X7_18 ⟨by decide, rfl⟩ rfl rfl rfl rfl rfl ?_
    refine zS_getfieldE (x := 8) (v := (D 0 8)) (zdec eX7_readBill 16 rfl) kF_X7_116 ⟨by decide, rfl⟩ rfl rfl rfl (D2.1 8 (by decide) (by decide)) ?_
    refine zS_aaload1 (i := 0) (zdec eX7_readBill 17 rfl) (Or.inr (Or.inl rfl)) ⟨by decide, rfl⟩ rfl rfl rfl (by omega) (by omega) ?_
    refine zS_astore_n (zdec eX7_readBill 18 rfl) rfl rfl ?_
    refine zS_aload_n (zdec eX7_readBill 19 rfl) rfl rfl ?_
    refine zS_iconst (zdec eX7_readBill 20 rfl) rfl ?_
    refine zS_aload_n (zdec eX7_readBill 21 rfl) rfl rfl ?_
    refine zS_ldcS (i := 10) (zdec eX7_readBill 22 rfl) rfl ?_
    refine zS_iconst (zdec eX7_readBill 23 rfl) rfl ?_
    refine zS_aload_n (zdec eX7_readBill 24 rfl) rfl rfl ?_
    refine zS_getref (i := 12) (zdec eX7_readBill 25 rfl) kF_X7_18 ⟨by decide, rfl⟩ rfl rfl rfl rfl rfl ?_
    refine zS_getfieldE (x := 7) (v := (D 0 7)) (zdec eX7_readBill 26 rfl) kF_X7_108 ⟨by decide, rfl⟩ rfl rfl rfl (D2.1 7 (by decide) (by decide)) ?_
    refine zS_iconst (zdec eX7_readBill 27 rfl) rfl ?_
    refine zS_isub (zdec eX7_readBill 28 rfl) ⟨by omega, by omega⟩ ?_
    refine zvMI (M' := mX7_takeField) (As := [(5, 10), zI 0, zI ((D 0 7) - 1)]) (st := [zI 0, zA (6 + (D 0 8))]) (zdec eX7_readBill 29 rfl) kM_X7_84 kV_X7_takeField ⟨by decide, rfl⟩ rfl rfl rfl rfl rfl (by omega) (c_takeField (P := bl0 B L P D) (by omega) vd.1 RT2 (by decide) (by decide)) (fun x3 h3 ⟨e3, RT3, g3⟩ => ?_)
    have f3 : Fr (fun k j => k = 1 ∨ k = 6 + D 0 8 ∨ (k = 3 ∧ j = 8)) h h3 := f2.tr g3 (fun k j z => z) (fun k j z => Or.inl z)
    refine zS_iastore (zdec eX7_readBill 30 rfl) (zrow_6 (by omega) (by omega)) (by decide) (by decide) ?_
    refine zS_aload_n (zdec eX7_readBill 31 rfl) rfl rfl ?_
    refine zS_iconst (zdec eX7_readBill 32 rfl) rfl ?_
    refine zS_aload_n (zdec eX7_readBill 33 rfl) rfl rfl ?_
    refine zS_ldcS (i := 11) (zdec eX7_readBill 34 rfl) rfl ?_
    refine zS_iconst (zdec eX7_readBill 35 rfl) rfl ?_
    refine zS_sipush (zdec eX7_readBill 36 rfl) rfl rfl ?_
    refine zvMI (M' := mX7_takeField) (As := [(5, 11), zI 1, zI 3000]) (st := [zI 1, zA (6 + (D 0 8))]) (zdec eX7_readBill 37 rfl) kM_X7_84 kV_X7_takeField ⟨by decide, rfl⟩ rfl rfl rfl rfl rfl (by omega) (c_takeField (P := bl1 B L P D) (by omega) vd.2.1 (RT3.set (by omega) (by omega)) (by decide) (by decide)) (fun x4 h4 ⟨e4, RT4, g4⟩ => ?_)
    have f4 : Fr (fun k j => k = 1 ∨ k = 6 + D 0 8 ∨ (k = 3 ∧ j = 8)) h h4 := (f3.set (by omega)).tr g4 (fun k j z => z) (fun k j z => Or.inl z)
    have r4_0 : h4 (6 + D 0 8) 0 = x3 := (g4 _ _ (by omega)).trans (zset_s _ _ _ _)
    refine zS_iastore (zdec eX7_readBill 38 rfl) (zrow_6 (by omega) (by omega)) (by decide) (by decide) ?_
    refine zS_aload_n (zdec eX7_readBill 39 rfl) rfl rfl ?_
    refine zS_iconst (zdec eX7_readBill 40 rfl) rfl ?_
    refine zS_aload_n (zdec eX7_readBill 41 rfl) rfl rfl ?_
    refine zS_ldcS (i := 12) (zdec eX7_readBill 42 rfl) rfl ?_
    refine zS_iconst (zdec eX7_readBill 43 rfl) rfl ?_
    refine zS_bipush (zdec eX7_readBill 44 rfl) rfl rfl ?_
    refine zvMI (M' := mX7_takeField) (As := [(5, 12), zI 0, zI 20]) (st := [zI 2, zA (6 + (D 0 8))]) (zdec eX7_readBill 45 rfl) kM_X7_84 kV_X7_takeField ⟨by decide, rfl⟩ rfl rfl rfl rfl rfl (by omega) (c_takeField (P := bl2 B L P D) (by omega) vd.2.2.1 (RT4.set (by omega) (by omega)) (by decide) (by decide)) (fun x5 h5 ⟨e5, RT5, g5⟩ => ?_)
    have f5 : Fr (fun k j => k = 1 ∨ k = 6 + D 0 8 ∨ (k = 3 ∧ j = 8)) h h5 := (f4.set (by omega)).tr g5 (fun k j z => z) (fun k j z => Or.inl z)
    have r5_0 : h5 (6 + D 0 8) 0 = x3 := (g5 _ _ (by omega)).trans ((zset_j (by decide)).trans r4_0)
    have r5_1 : h5 (6 + D 0 8) 1 = x4 := (g5 _ _ (by omega)).trans (zset_s _ _ _ _)
    refine zS_iastore (zdec eX7_readBill 46 rfl) (zrow_6 (by omega) (by omega)) (by decide) (by decide) ?_
    refine zS_aload_n (zdec eX7_readBill 47 rfl) rfl rfl ?_
    refine zS_iconst (zdec eX7_readBill 48 rfl) rfl ?_
    refine zS_aload_n (zdec eX7_readBill 49 rfl) rfl rfl ?_
    refine zS_ldcS (i := 13) (zdec eX7_readBill 50 rfl) rfl ?_
    refine zS_iconst (zdec eX7_readBill 51 rfl) rfl ?_
    refine zS_bipush (zdec eX7_readBill 52 rfl) rfl rfl ?_
    refine zvMI (M' := mX7_takeField) (As := [(5, 13), zI 0, zI 6]) (st := [zI 3, zA (6 + (D 0 8))]) (zdec eX7_readBill 53 rfl) kM_X7_84 kV_X7_takeField ⟨by decide, rfl⟩ rfl rfl rfl rfl rfl (by omega) (c_takeField (P := bl3 B L P D) (by omega) vd.2.2.2.1 (RT5.set (by omega) (by omega)) (by decide) (by decide)) (fun x6 h6 ⟨e6, RT6, g6⟩ => ?_)
    have f6 : Fr (fun k j => k = 1 ∨ k = 6 + D 0 8 ∨ (k = 3 ∧ j = 8)) h h6 := (f5.set (by omega)).tr g6 (fun k j z => z) (fun k j z => Or.inl z)
    have r6_0 : h6 (6 + D 0 8) 0 = x3 := (g6 _ _ (by omega)).trans ((zset_j (by decide)).trans r5_0)
    have r6_1 : h6 (6 + D 0 8) 1 = x4 := (g6 _ _ (by omega)).trans ((zset_j (by decide)).trans r5_1)
    have r6_2 : h6 (6 + D 0 8) 2 = x5 := (g6 _ _ (by omega)).trans (zset_s _ _ _ _)
    refine zS_iastore (zdec eX7_readBill 54 rfl) (zrow_6 (by omega) (by omega)) (by decide) (by decide) ?_
    refine zS_aload_n (zdec eX7_readBill 55 rfl) rfl rfl ?_
    refine zS_iconst (zdec eX7_readBill 56 rfl) rfl ?_
    refine zS_aload_n (zdec eX7_readBill 57 rfl) rfl rfl ?_
    refine zS_ldcS (i := 14) (zdec eX7_readBill 58 rfl) rfl ?_
    refine zS_iconst (zdec eX7_readBill 59 rfl) rfl ?_
    refine zS_bipush (zdec eX7_readBill 60 rfl) rfl rfl ?_
    refine zvMI (M' := mX7_takeField) (As := [(5, 14), zI 0, zI 6]) (st := [zI 4, zA (6 + (D 0 8))]) (zdec eX7_readBill 61 rfl) kM_X7_84 kV_X7_takeField ⟨by decide, rfl⟩ rfl rfl rfl rfl rfl (by omega) (c_takeField (P := bl4 B L P D) (by omega) vd.2.2.2.2.1 (RT6.set (by omega) (by omega)) (by decide) (by decide)) (fun x7 h7 ⟨e7, RT7, g7⟩ => ?_)
    have f7 : Fr (fun k j => k = 1 ∨ k = 6 + D 0 8 ∨ (k = 3 ∧ j = 8)) h h7 := (f6.set (by omega)).tr g7 (fun k j z => z) (fun k j z => Or.inl z)
    have r7_0 : h7 (6 + D 0 8) 0 = x3 := (g7 _ _ (by omega)).trans ((zset_j (by decide)).trans r6_0)
    have r7_1 : h7 (6 + D 0 8) 1 = x4 := (g7 _ _ (by omega)).trans ((zset_j (by decide)).trans r6_1)
    have r7_2 : h7 (6 + D 0 8) 2 = x5 := (g7 _ _ (by omega)).trans ((zset_j (by decide)).trans r6_2)
    have r7_3 : h7 (6 + D 0 8) 3 = x6 := (g7 _ _ (by omega)).trans (zset_s _ _ _ _)
    refine zS_iastore (zdec eX7_readBill 62 rfl) (zrow_6 (by omega) (by omega)) (by decide) (by decide) ?_
    refine zS_aload_n (zdec eX7_readBill 63 rfl) rfl rfl ?_
    refine zS_iconst (zdec eX7_readBill 64 rfl) rfl ?_
    refine zS_aload_n (zdec eX7_readBill 65 rfl) rfl rfl ?_
    refine zS_ldcS (i := 15) (zdec eX7_readBill 66 rfl) rfl ?_
    refine zS_iconst (zdec eX7_readBill 67 rfl) rfl ?_
    refine zS_bipush (zdec eX7_readBill 68 rfl) rfl rfl ?_
    refine zvMI (M' := mX7_takeField) (As := [(5, 15), zI 0, zI 99]) (st := [zI 5, zA (6 + (D 0 8))]) (zdec eX7_readBill 69 rfl) kM_X7_84 kV_X7_takeField ⟨by decide, rfl⟩ rfl rfl rfl rfl rfl (by omega) (c_takeField (P := bl5 B L P D) (by omega) vd.2.2.2.2.2.1 (RT7.set (by omega) (by omega)) (by decide) (by decide)) (fun x8 h8 ⟨e8, RT8, g8⟩ => ?_)
    have f8 : Fr (fun k j => k = 1 ∨ k = 6 + D 0 8 ∨ (k = 3 ∧ j = 8)) h h8 := (f7.set (by omega)).tr g8 (fun k j z => z) (fun k j z => Or.inl z)
    have r8_0 : h8 (6 + D 0 8) 0 = x3 := (g8 _ _ (by omega)).trans ((zset_j (by decide)).trans r7_0)
    have r8_1 : h8 (6 + D 0 8) 1 = x4 := (g8 _ _ (by omega)).trans ((zset_j (by decide)).trans r7_1)
    have r8_2 : h8 (6 + D 0 8) 2 = x5 := (g8 _ _ (by omega)).trans ((zset_j (by decide)).trans r7_2)
    have r8_3 : h8 (6 + D 0 8) 3 = x6 := (g8 _ _ (by omega)).trans ((zset_j (by decide)).trans r7_3)
    have r8_4 : h8 (6 + D 0 8) 4 = x7 := (g8 _ _ (by omega)).trans (zset_s _ _ _ _)
    have q8 : h8 3 8 = D 0 8 := by rw [g8 _ _ (by omega), zset_n (by omega), g7 _ _ (by omega), zset_n (by omega), g6 _ _ (by omega), zset_n (by omega), g5 _ _ (by omega), zset_n (by omega), g4 _ _ (by omega), zset_n (by omega), g3 _ _ (by omega)]; exact D2.1 8 (by decide) (by decide)
    refine zS_iastore (zdec eX7_readBill 70 rfl) (zrow_6 (by omega) (by omega)) (by decide) (by decide) ?_
    refine zS_aload_n (zdec eX7_readBill 71 rfl) rfl rfl ?_
    refine zS_bipush (zdec eX7_readBill 72 rfl) rfl rfl ?_
    refine zS_aload_n (zdec eX7_readBill 73 rfl) rfl rfl ?_
    refine zS_ldcS (i := 16) (zdec eX7_readBill 74 rfl) rfl ?_
    refine zvI (M' := mX7_isWord) (As := [(5, 16)]) (st := [zI 6, zA (6 + (D 0 8))]) (zdec eX7_readBill 75 rfl) kM_X7_52 kV_X7_isWord ⟨by decide, rfl⟩ rfl rfl rfl rfl rfl (by omega) (c_isWord (P := bl6 B L P D) (by omega) vd.2.2.2.2.2.2 (RT8.set (by omega) (by omega)) (by decide) (by decide)) ?_
    refine zS_if_eq (tgt := 142) (zdec eX7_readBill 76 rfl) rfl (fun c2 => ?_) (fun c2 => ?_)
    · have z2 := b2i_0.mp c2
      refine zS_iconst (zdec eX7_readBill 85 rfl) rfl ?_
      refine zS_iastore (zdec eX7_readBill 86 rfl) (zrow_6 (by omega) (by omega)) (by decide) (by decide) ?_
      refine zS_aload_n (zdec eX7_readBill 87 rfl) rfl rfl ?_
      refine zS_getref (i := 12) (zdec eX7_readBill 88 rfl) kF_X7_18 ⟨by decide, rfl⟩ rfl rfl rfl rfl rfl ?_
      refine zS_dup (zdec eX7_readBill 89 rfl) (fun q => by cases q) ?_
      refine zS_getfieldE (x := 8) (v := (D 0 8)) (zdec eX7_readBill 90 rfl) kF_X7_116 ⟨by decide, rfl⟩ rfl rfl rfl ((congrFun (zset_k (by omega)) _).trans ((congrFun (zset_k (by omega)) _).trans (q8))) ?_
      refine zS_iconst (zdec eX7_readBill 91 rfl) rfl ?_
      refine zS_iadd (zdec eX7_readBill 92 rfl) ⟨by omega, by omega⟩ ?_
      refine zS_putfield (x := 8) (zdec eX7_readBill 93 rfl) kF_X7_116 (Or.inl kf0_8) ⟨by decide, rfl⟩ rfl rfl rfl (Or.inl (fun q => by cases q)) ?_
      have ff : Fr (fun k j => k = 1 ∨ k = 6 + D 0 8 ∨ (k = 3 ∧ j = 8)) h (zset (zset (zset h8 (6 + (D 0 8)) 5 x8) (6 + (D 0 8)) 6 0) 3 8 ((D 0 8) + 1)) := ((f8.set (by omega)).set (by omega)).set (by omega)
      have ep : blP B L P D = bl6 B L P D := by unfold blP; rw [z2]; rfl
      have ev : bv6 B L P D = 0 := by unfold bv6; rw [z2]; rfl
      have rr : ∀ w, 0 ≤ w → w < 7 → (zset (zset (zset h8 (6 + (D 0 8)) 5 x8) (6 + (D 0 8)) 6 0) 3 8 ((D 0 8) + 1)) (6 + D 0 8) w = bvF B L P D w := fun w w0 w1 => by
        rcases (show w = 0 ∨ w = 1 ∨ w = 2 ∨ w = 3 ∨ w = 4 ∨ w = 5 ∨ w = 6 by omega) with rfl | rfl | rfl | rfl | rfl | rfl | rfl
        · rw [zset_n (by omega), zset_j (by decide), zset_j (by decide), r8_0, e3]; rfl
        · rw [zset_n (by omega), zset_j (by decide), zset_j (by decide), r8_1, e4]; rfl
        · rw [zset_n (by omega), zset_j (by decide), zset_j (by decide), r8_2, e5]; rfl
        · rw [zset_n (by omega), zset_j (by decide), zset_j (by decide), r8_3, e6]; rfl
        · rw [zset_n (by omega), zset_j (by decide), zset_j (by decide), r8_4, e7]; rfl
        · rw [zset_n (by omega), zset_j (by decide), zset_s, e8]; rfl
        · rw [zset_n (by omega), zset_s]; show _ = bv6 B L P D; rw [ev]
      have RTz : TC (zset (zset (zset h8 (6 + (D 0 8)) 5 x8) (6 + (D 0 8)) 6 0) 3 8 ((D 0 8) + 1)) B L (blP B L P D) := by rw [ep]; exact ((RT8.set (by omega) (by omega)).set (by omega) (by omega)).set (by omega) (by omega)
      exact zlMV (zdec eX7_readBill 94 rfl) rfl ⟨by rw [if_neg (by omega)]; exact RTz, by rw [if_neg (by omega)]; exact RD.bl c rr (zset_s _ _ _ _) (by omega) ff, ff.mono (fun k j z => by omega)⟩
    · have z2 := b2i_n.mp c2
      refine zS_aload_n (zdec eX7_readBill 77 rfl) rfl rfl ?_
      refine zS_ldcS (i := 16) (zdec eX7_readBill 78 rfl) rfl ?_
      refine zS_iconst (zdec eX7_readBill 79 rfl) rfl ?_
      refine zS_aload_n (zdec eX7_readBill 80 rfl) rfl rfl ?_
      refine zS_iconst (zdec eX7_readBill 81 rfl) rfl ?_
      refine zS_ialoadE (v := x4) (zdec eX7_readBill 82 rfl) (zrow_6 (by omega) (by omega)) (by decide) (by decide) ((zset_j (by decide)).trans r8_1) ?_
      refine zvMI (M' := mX7_takeField) (As := [(5, 16), zI 0, zI x4]) (st := [zI 6, zA (6 + (D 0 8))]) (zdec eX7_readBill 83 rfl) kM_X7_84 kV_X7_takeField ⟨by decide, rfl⟩ rfl rfl rfl rfl rfl (by omega) (c_takeField (P := bl6 B L P D) (by omega) vd.2.2.2.2.2.2 (RT8.set (by omega) (by omega)) (by decide) (by decide)) (fun x9 h9 ⟨e9, RT9, g9⟩ => ?_)
      have f9 : Fr (fun k j => k = 1 ∨ k = 6 + D 0 8 ∨ (k = 3 ∧ j = 8)) h h9 := (f8.set (by omega)).tr g9 (fun k j z => z) (fun k j z => Or.inl z)
      have r9_0 : h9 (6 + D 0 8) 0 = x3 := (g9 _ _ (by omega)).trans ((zset_j (by decide)).trans r8_0)
      have r9_1 : h9 (6 + D 0 8) 1 = x4 := (g9 _ _ (by omega)).trans ((zset_j (by decide)).trans r8_1)
      have r9_2 : h9 (6 + D 0 8) 2 = x5 := (g9 _ _ (by omega)).trans ((zset_j (by decide)).trans r8_2)
      have r9_3 : h9 (6 + D 0 8) 3 = x6 := (g9 _ _ (by omega)).trans ((zset_j (by decide)).trans r8_3)
      have r9_4 : h9 (6 + D 0 8) 4 = x7 := (g9 _ _ (by omega)).trans ((zset_j (by decide)).trans r8_4)
      have r9_5 : h9 (6 + D 0 8) 5 = x8 := (g9 _ _ (by omega)).trans (zset_s _ _ _ _)
      have q9 : h9 3 8 = D 0 8 := by rw [g9 _ _ (by omega), zset_n (by omega)]; exact q8
      refine zS_goto (tgt := 143) (zdec eX7_readBill 84 rfl) rfl ?_
      refine zS_iastore (zdec eX7_readBill 86 rfl) (zrow_6 (by omega) (by omega)) (by decide) (by decide) ?_
      refine zS_aload_n (zdec eX7_readBill 87 rfl) rfl rfl ?_
      refine zS_getref (i := 12) (zdec eX7_readBill 88 rfl) kF_X7_18 ⟨by decide, rfl⟩ rfl rfl rfl rfl rfl ?_
      refine zS_dup (zdec eX7_readBill 89 rfl) (fun q => by cases q) ?_
      refine zS_getfieldE (x := 8) (v := (D 0 8)) (zdec eX7_readBill 90 rfl) kF_X7_116 ⟨by decide, rfl⟩ rfl rfl rfl ((congrFun (zset_k (by omega)) _).trans (q9)) ?_
      refine zS_iconst (zdec eX7_readBill 91 rfl) rfl ?_
      refine zS_iadd (zdec eX7_readBill 92 rfl) ⟨by omega, by omega⟩ ?_
      refine zS_putfield (x := 8) (zdec eX7_readBill 93 rfl) kF_X7_116 (Or.inl kf0_8) ⟨by decide, rfl⟩ rfl rfl rfl (Or.inl (fun q => by cases q)) ?_
      have ff : Fr (fun k j => k = 1 ∨ k = 6 + D 0 8 ∨ (k = 3 ∧ j = 8)) h (zset (zset h9 (6 + (D 0 8)) 6 x9) 3 8 ((D 0 8) + 1)) := (f9.set (by omega)).set (by omega)
      have ep : blP B L P D = tfP B L (bl6 B L P D) 16 0 (bv1 B L P D) := by unfold blP; rw [z2]; rfl
      have ev : bv6 B L P D = tfV B L (bl6 B L P D) 16 0 (bv1 B L P D) := by unfold bv6; rw [z2]; rfl
      have rr : ∀ w, 0 ≤ w → w < 7 → (zset (zset h9 (6 + (D 0 8)) 6 x9) 3 8 ((D 0 8) + 1)) (6 + D 0 8) w = bvF B L P D w := fun w w0 w1 => by
        rcases (show w = 0 ∨ w = 1 ∨ w = 2 ∨ w = 3 ∨ w = 4 ∨ w = 5 ∨ w = 6 by omega) with rfl | rfl | rfl | rfl | rfl | rfl | rfl
        · rw [zset_n (by omega), zset_j (by decide), r9_0, e3]; rfl
        · rw [zset_n (by omega), zset_j (by decide), r9_1, e4]; rfl
        · rw [zset_n (by omega), zset_j (by decide), r9_2, e5]; rfl
        · rw [zset_n (by omega), zset_j (by decide), r9_3, e6]; rfl
        · rw [zset_n (by omega), zset_j (by decide), r9_4, e7]; rfl
        · rw [zset_n (by omega), zset_j (by decide), r9_5, e8]; rfl
        · rw [zset_n (by omega), zset_s]; show _ = bv6 B L P D; rw [ev, e9, e4]; rfl
      have RTz : TC (zset (zset h9 (6 + (D 0 8)) 6 x9) 3 8 ((D 0 8) + 1)) B L (blP B L P D) := by rw [ep, show bv1 B L P D = x4 from e4.symm]; exact (RT9.set (by omega) (by omega)).set (by omega) (by omega)
      exact zlMV (zdec eX7_readBill 94 rfl) rfl ⟨by rw [if_neg (by omega)]; exact RTz, by rw [if_neg (by omega)]; exact RD.bl c rr (zset_s _ _ _ _) (by omega) ff, ff.mono (fun k j z => by omega)⟩
  · refine zS_aload_n (zdec eX7_readBill 5 rfl) rfl rfl ?_
    refine zS_iconst (zdec eX7_readBill 6 rfl) rfl ?_
    refine zvMV (M' := mX7_refuse) (As := [zI 3]) (st := []) (zdec eX7_readBill 7 rfl) kM_X7_69 kV_X7_refuse ⟨by decide, rfl⟩ rfl rfl rfl rfl rfl (by omega) (c_refuse V RT) (fun h3 ⟨RT3, g3⟩ => ?_)
    exact zlMV (zdec eX7_readBill 8 rfl) rfl ⟨by rw [if_pos (by omega)]; exact RT3, by rw [if_pos (by omega)]; exact RD.f1 g3, g3.mono (fun k j z => Or.inl z)⟩

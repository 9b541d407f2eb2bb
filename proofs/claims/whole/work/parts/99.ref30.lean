theorem r_isy {d : Nat} {h : zH} {B : Int → Int} {L : Int} {P : Tp} {c i : Int} (i0 : 0 ≤ i) (i1 : i < 18) (hc : wkI i = c) (V : TV L P) (p3 : P 3 = 0) (R : PR h B L P) (w : isW B P i = true) : zPI d mX10_is [zA 108, zJ c] h 1 := by
  have k := r_is (d := d) i0 i1 hc V R
  rw [w, decide_eq_true p3] at k
  exact k
theorem r_isn {d : Nat} {h : zH} {B : Int → Int} {L : Int} {P : Tp} {c i : Int} (i0 : 0 ≤ i) (i1 : i < 18) (hc : wkI i = c) (V : TV L P) (p3 : P 3 = 0) (R : PR h B L P) (w : isW B P i = false) : zPI d mX10_is [zA 108, zJ c] h 0 := by
  have k := r_is (d := d) i0 i1 hc V R
  rw [w, decide_eq_true p3] at k
  exact k
abbrev sLH : Int → Int → Prop := fun k j => sPR k j ∨ (k ≠ 114 ∧ blk 4 k j)
theorem r_room0 {d : Nat} {h : zH} {w n : Int} : zPI d mX10_isRoom [zA 108, zI 0, zI w, zI n] h 0 := by
  refine zmet rfl rfl rfl ?_
  refine zS_iload_n (zdec eX10_isRoom 0 rfl) rfl ?_
  refine zS_if_eq (tgt := 18) (zdec eX10_isRoom 1 rfl) rfl (fun cz => ?_) (fun cz => absurd (by decide) cz)
  refine zS_iload_n (zdec eX10_isRoom 10 rfl) rfl ?_
  refine zS_if_eq (tgt := 33) (zdec eX10_isRoom 11 rfl) rfl (fun cz => ?_) (fun cz => absurd (by decide) cz)
  refine zS_iload_n (zdec eX10_isRoom 17 rfl) rfl ?_
  refine zS_if_eq (tgt := 48) (zdec eX10_isRoom 18 rfl) rfl (fun cz => ?_) (fun cz => absurd (by decide) cz)
  refine zS_iconst (zdec eX10_isRoom 24 rfl) rfl ?_
  exact zlZ (zdec eX10_isRoom 25 rfl) rfl (Or.inl rfl) rfl
theorem r_roomF {d : Nat} {h : zH} {B : Int → Int} {L : Int} {P : Tp} {w n m : Int} (hd : 3 ≤ d) (V : TV L P) (p3 : P 3 = 0) (R : PR h B L P) (w0 : 0 ≤ w) (w1 : w ≤ 9) (hw : h 115 (40 + w) = m) (hf : m = n) : zMI d mX10_isRoom [zA 108, zI 1, zI w, zI n] h (fun r h' => r = 0 ∧ PR h' B L (rfu P 3) ∧ Fr sPR h h') := by
  have q3 : rfu P 3 3 = 3 := rfu_3 p3
  have n3 : nxP B L P 3 = 0 := (nxP_3 B L P).trans p3
  refine zmet rfl rfl rfl ?_
  refine zS_iload_n (zdec eX10_isRoom 0 rfl) rfl ?_
  refine zS_if_eq (tgt := 18) (zdec eX10_isRoom 1 rfl) rfl (fun cz => absurd cz (by decide)) (fun cz => ?_)
  refine zS_aload_n (zdec eX10_isRoom 2 rfl) rfl rfl ?_
  refine zS_iload_n (zdec eX10_isRoom 3 rfl) rfl ?_
  refine zvI (M' := mX10_hasRead) (As := [zI w]) (st := []) (zdec eX10_isRoom 4 rfl) kM_X10_153 kV_X10_hasRead ⟨by decide, rfl⟩ rfl rfl rfl rfl rfl (by omega) (r_hasRead w0 w1 hw) ?_
  refine zS_iload_n (zdec eX10_isRoom 5 rfl) rfl ?_
  refine zS_icmp_ne (tgt := 18) (zdec eX10_isRoom 6 rfl) rfl (fun cz => absurd cz (by omega)) (fun cz => ?_)
  refine zS_aload_n (zdec eX10_isRoom 7 rfl) rfl rfl ?_
  refine zS_iconst (zdec eX10_isRoom 8 rfl) rfl ?_
  refine zvMV (M' := mX10_errs) (As := [zI 3]) (st := []) (zdec eX10_isRoom 9 rfl) kM_X10_139 kV_X10_errs ⟨by decide, rfl⟩ rfl rfl rfl rfl rfl (by omega) (r_errs (c := 3) (by omega) R) (fun h2 ⟨R2, f2⟩ => ?_)
  refine zS_iload_n (zdec eX10_isRoom 10 rfl) rfl ?_
  refine zS_if_eq (tgt := 33) (zdec eX10_isRoom 11 rfl) rfl (fun cz => absurd cz (by decide)) (fun cz => ?_)
  refine zS_aload_n (zdec eX10_isRoom 12 rfl) rfl rfl ?_
  refine zS_getfieldE (x := 12) (v := 3) (zdec eX10_isRoom 13 rfl) kF_X10_123 ⟨by decide, rfl⟩ rfl rfl rfl (R2.2.1.trans q3) ?_
  refine zS_if_ne (tgt := 33) (zdec eX10_isRoom 14 rfl) rfl (fun cz => ?_) (fun cz => absurd cz (by decide))
  refine zS_iload_n (zdec eX10_isRoom 17 rfl) rfl ?_
  refine zS_if_eq (tgt := 48) (zdec eX10_isRoom 18 rfl) rfl (fun cz => absurd cz (by decide)) (fun cz => ?_)
  refine zS_aload_n (zdec eX10_isRoom 19 rfl) rfl rfl ?_
  refine zS_getfieldE (x := 12) (v := 3) (zdec eX10_isRoom 20 rfl) kF_X10_123 ⟨by decide, rfl⟩ rfl rfl rfl (R2.2.1.trans q3) ?_
  refine zS_if_ne (tgt := 48) (zdec eX10_isRoom 21 rfl) rfl (fun cz => ?_) (fun cz => absurd cz (by decide))
  refine zS_iconst (zdec eX10_isRoom 24 rfl) rfl ?_
  exact zlMZ (zdec eX10_isRoom 25 rfl) rfl (Or.inl rfl) ⟨rfl, R2, f2.mono (fun k j z => by omega)⟩
theorem r_roomY {d : Nat} {h : zH} {B : Int → Int} {L : Int} {P : Tp} {w n m : Int} (hd : 3 ≤ d) (V : TV L P) (p3 : P 3 = 0) (R : PR h B L P) (w0 : 0 ≤ w) (w1 : w ≤ 9) (hw : h 115 (40 + w) = m) (hf : m ≠ n) : zMI d mX10_isRoom [zA 108, zI 1, zI w, zI n] h (fun r h' => r = 1 ∧ PR h' B L (nxP B L P) ∧ Fr sPR h h') := by
  have q3 : rfu P 3 3 = 3 := rfu_3 p3
  have n3 : nxP B L P 3 = 0 := (nxP_3 B L P).trans p3
  refine zmet rfl rfl rfl ?_
  refine zS_iload_n (zdec eX10_isRoom 0 rfl) rfl ?_
  refine zS_if_eq (tgt := 18) (zdec eX10_isRoom 1 rfl) rfl (fun cz => absurd cz (by decide)) (fun cz => ?_)
  refine zS_aload_n (zdec eX10_isRoom 2 rfl) rfl rfl ?_
  refine zS_iload_n (zdec eX10_isRoom 3 rfl) rfl ?_
  refine zvI (M' := mX10_hasRead) (As := [zI w]) (st := []) (zdec eX10_isRoom 4 rfl) kM_X10_153 kV_X10_hasRead ⟨by decide, rfl⟩ rfl rfl rfl rfl rfl (by omega) (r_hasRead w0 w1 hw) ?_
  refine zS_iload_n (zdec eX10_isRoom 5 rfl) rfl ?_
  refine zS_icmp_ne (tgt := 18) (zdec eX10_isRoom 6 rfl) rfl (fun cz => ?_) (fun cz => absurd cz (by omega))
  refine zS_iload_n (zdec eX10_isRoom 10 rfl) rfl ?_
  refine zS_if_eq (tgt := 33) (zdec eX10_isRoom 11 rfl) rfl (fun cz => absurd cz (by decide)) (fun cz => ?_)
  refine zS_aload_n (zdec eX10_isRoom 12 rfl) rfl rfl ?_
  refine zS_getfieldE (x := 12) (v := 0) (zdec eX10_isRoom 13 rfl) kF_X10_123 ⟨by decide, rfl⟩ rfl rfl rfl (R.2.1.trans p3) ?_
  refine zS_if_ne (tgt := 33) (zdec eX10_isRoom 14 rfl) rfl (fun cz => absurd cz (by decide)) (fun cz => ?_)
  refine zS_aload_n (zdec eX10_isRoom 15 rfl) rfl rfl ?_
  refine zvMV (M' := mX10_next) (As := []) (st := []) (zdec eX10_isRoom 16 rfl) kM_X10_133 kV_X10_next ⟨by decide, rfl⟩ rfl rfl rfl rfl rfl (by omega) (r_nx (by omega) V p3 R) (fun h2 ⟨R2, f2⟩ => ?_)
  refine zS_iload_n (zdec eX10_isRoom 17 rfl) rfl ?_
  refine zS_if_eq (tgt := 48) (zdec eX10_isRoom 18 rfl) rfl (fun cz => absurd cz (by decide)) (fun cz => ?_)
  refine zS_aload_n (zdec eX10_isRoom 19 rfl) rfl rfl ?_
  refine zS_getfieldE (x := 12) (v := 0) (zdec eX10_isRoom 20 rfl) kF_X10_123 ⟨by decide, rfl⟩ rfl rfl rfl (R2.2.1.trans n3) ?_
  refine zS_if_ne (tgt := 48) (zdec eX10_isRoom 21 rfl) rfl (fun cz => absurd cz (by decide)) (fun cz => ?_)
  refine zS_iconst (zdec eX10_isRoom 22 rfl) rfl ?_
  refine zS_goto (tgt := 49) (zdec eX10_isRoom 23 rfl) rfl ?_
  exact zlMZ (zdec eX10_isRoom 25 rfl) rfl (Or.inr rfl) ⟨rfl, R2, f2⟩
theorem r_lh_spF {d : Nat} {h : zH} {B : Int → Int} {L : Int} {P : Tp} {D : Dk} (hd : 10 ≤ d) (V : TV L P) (p3 : P 3 = 0) (R : PR h B L P) (RD : DR h 4 D) (c : CT D) (w7 : isW B P 7 = true) (hf : D 0 7 = 4) : zMV d mX10_lineHere [zA 108] h (fun h' => PR h' B L (rfu P 3) ∧ ((rfu P 3) 3 = 0 → DR h' 4 D) ∧ Fr sLH h h') := by
  have c7 := c.1
  have c8 := c.2.1
  have c9 := c.2.2.1
  have q3 : rfu P 3 3 = 3 := rfu_3 p3
  have hm : h 115 (40 + 6) = D 0 7 := RD.2.1 6 (by omega) (by omega)
  have hm6 : h 115 46 = D 0 7 := RD.2.1 6 (by omega) (by omega)
  have hm7 : h 115 47 = D 0 8 := RD.2.1 7 (by omega) (by omega)
  refine zmet rfl rfl rfl ?_
  refine zS_aload_n (zdec eX10_lineHere 0 rfl) rfl rfl ?_
  refine zS_aload_n (zdec eX10_lineHere 1 rfl) rfl rfl ?_
  refine zS_ldc2_w (zdec eX10_lineHere 2 rfl) kj_X10_180 rfl ?_
  refine zvI (M' := mX10_is) (As := [zJ 207120869604]) (st := [zA 108]) (zdec eX10_lineHere 3 rfl) kM_X10_129 kV_X10_is ⟨by decide, rfl⟩ rfl rfl rfl rfl rfl (by omega) (r_isy (i := 7) (by omega) (by omega) wk_7 V p3 R w7) ?_
  refine zS_bipush (zdec eX10_lineHere 4 rfl) rfl rfl ?_
  refine zS_iconst (zdec eX10_lineHere 5 rfl) rfl ?_
  refine zvMI (M' := mX10_isRoom) (As := [zI 1, zI 6, zI 4]) (st := []) (zdec eX10_lineHere 6 rfl) kM_X10_182 kV_X10_isRoom ⟨by decide, rfl⟩ rfl rfl rfl rfl rfl (by omega) (r_roomF (by omega) V p3 R (by omega) (by omega) hm (by omega)) (fun r1 h1 ⟨e1, R1, f1⟩ => ?_)
  subst e1
  refine zS_if_eq (tgt := 58) (zdec eX10_lineHere 7 rfl) rfl (fun cz => ?_) (fun cz => absurd (by decide) cz)
  refine zS_aload_n (zdec eX10_lineHere 30 rfl) rfl rfl ?_
  refine zS_getfieldE (x := 12) (v := 3) (zdec eX10_lineHere 31 rfl) kF_X10_123 ⟨by decide, rfl⟩ rfl rfl rfl (R1.2.1.trans q3) ?_
  refine zS_if_ne (tgt := 89) (zdec eX10_lineHere 32 rfl) rfl (fun cz => ?_) (fun cz => absurd cz (by decide))
  refine zS_aload_n (zdec eX10_lineHere 44 rfl) rfl rfl ?_
  refine zS_getfieldE (x := 12) (v := 3) (zdec eX10_lineHere 45 rfl) kF_X10_123 ⟨by decide, rfl⟩ rfl rfl rfl (R1.2.1.trans q3) ?_
  refine zS_if_ne (tgt := 121) (zdec eX10_lineHere 46 rfl) rfl (fun cz => ?_) (fun cz => absurd cz (by decide))
  refine zS_aload_n (zdec eX10_lineHere 58 rfl) rfl rfl ?_
  refine zS_getfieldE (x := 12) (v := 3) (zdec eX10_lineHere 59 rfl) kF_X10_123 ⟨by decide, rfl⟩ rfl rfl rfl (R1.2.1.trans q3) ?_
  refine zS_if_ne (tgt := 133) (zdec eX10_lineHere 60 rfl) rfl (fun cz => ?_) (fun cz => absurd cz (by decide))
  exact zlMV (zdec eX10_lineHere 64 rfl) rfl ⟨R1, fun _ => RD.fr f1 (fun k j z => by omega), f1.mono (fun k j z => Or.inl z)⟩
theorem r_lh_spY {d : Nat} {h : zH} {B : Int → Int} {L : Int} {P : Tp} {D : Dk} (hd : 10 ≤ d) (V : TV L P) (p3 : P 3 = 0) (R : PR h B L P) (RD : DR h 4 D) (c : CT D) (w7 : isW B P 7 = true) (hf : ¬ D 0 7 = 4) : zMV d mX10_lineHere [zA 108] h (fun h' => PR h' B L (spP B L P) ∧ ((spP B L P) 3 = 0 → DR h' 4 (spD D (spV B L P))) ∧ Fr sLH h h') := by
  have c7 := c.1
  have c8 := c.2.1
  have c9 := c.2.2.1
  have q3 : rfu P 3 3 = 3 := rfu_3 p3
  have hm : h 115 (40 + 6) = D 0 7 := RD.2.1 6 (by omega) (by omega)
  have hm6 : h 115 46 = D 0 7 := RD.2.1 6 (by omega) (by omega)
  have hm7 : h 115 47 = D 0 8 := RD.2.1 7 (by omega) (by omega)
  refine zmet rfl rfl rfl ?_
  refine zS_aload_n (zdec eX10_lineHere 0 rfl) rfl rfl ?_
  refine zS_aload_n (zdec eX10_lineHere 1 rfl) rfl rfl ?_
  refine zS_ldc2_w (zdec eX10_lineHere 2 rfl) kj_X10_180 rfl ?_
  refine zvI (M' := mX10_is) (As := [zJ 207120869604]) (st := [zA 108]) (zdec eX10_lineHere 3 rfl) kM_X10_129 kV_X10_is ⟨by decide, rfl⟩ rfl rfl rfl rfl rfl (by omega) (r_isy (i := 7) (by omega) (by omega) wk_7 V p3 R w7) ?_
  refine zS_bipush (zdec eX10_lineHere 4 rfl) rfl rfl ?_
  refine zS_iconst (zdec eX10_lineHere 5 rfl) rfl ?_
  refine zvMI (M' := mX10_isRoom) (As := [zI 1, zI 6, zI 4]) (st := []) (zdec eX10_lineHere 6 rfl) kM_X10_182 kV_X10_isRoom ⟨by decide, rfl⟩ rfl rfl rfl rfl rfl (by omega) (r_roomY (by omega) V p3 R (by omega) (by omega) hm (by omega)) (fun r1 h1 ⟨e1, R1, f1⟩ => ?_)
  subst e1
  refine zS_if_eq (tgt := 58) (zdec eX10_lineHere 7 rfl) rfl (fun cz => absurd cz (by decide)) (fun cz => ?_)
  refine zS_aload_n (zdec eX10_lineHere 8 rfl) rfl rfl ?_
  refine zS_getref (i := 62) (zdec eX10_lineHere 9 rfl) kF_X10_37 ⟨by decide, rfl⟩ rfl rfl rfl rfl rfl ?_
  refine zS_bipush (zdec eX10_lineHere 10 rfl) rfl rfl ?_
  refine zS_aload_n (zdec eX10_lineHere 11 rfl) rfl rfl ?_
  refine zS_bipush (zdec eX10_lineHere 12 rfl) rfl rfl ?_
  refine zvI (M' := mX10_hasRead) (As := [zI 6]) (st := [zI 16, zA 116]) (zdec eX10_lineHere 13 rfl) kM_X10_153 kV_X10_hasRead ⟨by decide, rfl⟩ rfl rfl rfl rfl rfl (by omega) (r_hasRead (x := 6) (v := D 0 7) (by omega) (by omega) ((f1 _ _ (by omega)).trans hm)) ?_
  refine zS_iadd (zdec eX10_lineHere 14 rfl) ⟨by omega, by omega⟩ ?_
  refine zS_aload_n (zdec eX10_lineHere 15 rfl) rfl rfl ?_
  refine zS_ldc2_w (zdec eX10_lineHere 16 rfl) kj_X10_186 rfl ?_
  refine zS_iconst (zdec eX10_lineHere 17 rfl) rfl ?_
  refine zS_bipush (zdec eX10_lineHere 18 rfl) rfl rfl ?_
  refine zvMI (M' := mX10_number_) (As := [zJ 355412, zI 0, zI 9]) (st := [zI (16 + (D 0 7)), zA 116]) (zdec eX10_lineHere 19 rfl) kM_X10_159 kV_X10_number_ ⟨by decide, rfl⟩ rfl rfl rfl rfl rfl (by omega) (r_number_ (i := 8) (by omega) (by omega) (by omega) (by omega) (by omega) wk_8 (V.nx B) R1) (fun r2 h2 ⟨e2, R2, f2⟩ => ?_)
  subst e2
  refine zS_iastore (zdec eX10_lineHere 20 rfl) ⟨by decide, rfl⟩ (by omega) (by omega) ?_
  refine zS_aload_n (zdec eX10_lineHere 21 rfl) rfl rfl ?_
  refine zS_bipush (zdec eX10_lineHere 22 rfl) rfl rfl ?_
  refine zS_aload_n (zdec eX10_lineHere 23 rfl) rfl rfl ?_
  refine zS_bipush (zdec eX10_lineHere 24 rfl) rfl rfl ?_
  refine zvI (M' := mX10_hasRead) (As := [zI 6]) (st := [zI 6, zA 108]) (zdec eX10_lineHere 25 rfl) kM_X10_153 kV_X10_hasRead ⟨by decide, rfl⟩ rfl rfl rfl rfl rfl (by omega) (r_hasRead (x := 6) (v := D 0 7) (by omega) (by omega) ((zset_n (by omega)).trans ((f2 _ _ (by omega)).trans ((f1 _ _ (by omega)).trans hm)))) ?_
  refine zS_iconst (zdec eX10_lineHere 26 rfl) rfl ?_
  refine zS_iadd (zdec eX10_lineHere 27 rfl) ⟨by omega, by omega⟩ ?_
  refine zvMV (M' := mX10_tells) (As := [zI 6, zI ((D 0 7) + 1)]) (st := []) (zdec eX10_lineHere 28 rfl) kM_X10_174 kV_X10_tells ⟨by decide, rfl⟩ rfl rfl rfl rfl rfl (by omega) (r_tells (x := 6) (v := D 0 7 + 1) (by omega) (by omega)) (fun h4 e4 => ?_)
  subst e4
  refine zS_goto (tgt := 133) (zdec eX10_lineHere 29 rfl) rfl ?_
  have F : Fr (fun k j => sPR k j ∨ (k = 116 ∧ j = 16 + D 0 7) ∨ (k = 115 ∧ j = 46)) h _ := (((f1.tr f2 (fun k j z => z) (fun k j z => z)).mono (S' := (fun k j => sPR k j ∨ (k = 116 ∧ j = 16 + D 0 7) ∨ (k = 115 ∧ j = 46))) (fun k j z => Or.inl z)).set (k := 116) (j := 16 + D 0 7) (v := nvR (twP B L (nxP B L P) 8) 0 9) (by omega)).set (k := 115) (j := 40 + 6) (v := D 0 7 + 1) (by omega)
  exact zlMV (zdec eX10_lineHere 64 rfl) rfl ⟨R2.of (fun k j z => (zset_n (by omega)).trans (zset_n (by omega))), fun z => RD.sp4 c ((zset_n (by omega)).trans ((zset_s _ _ _ _).trans (tf_ok z).2.1)) (zset_s _ _ _ _) F, F.mono (fun k j z => z.elim Or.inl (fun q => Or.inr (by unfold blk; omega)))⟩
theorem r_lh_blF {d : Nat} {h : zH} {B : Int → Int} {L : Int} {P : Tp} {D : Dk} (hd : 10 ≤ d) (V : TV L P) (p3 : P 3 = 0) (R : PR h B L P) (RD : DR h 4 D) (c : CT D) (w7 : isW B P 7 = false) (w9 : isW B P 9 = true) (hf : D 0 8 = 5) : zMV d mX10_lineHere [zA 108] h (fun h' => PR h' B L (rfu P 3) ∧ ((rfu P 3) 3 = 0 → DR h' 4 D) ∧ Fr sLH h h') := by
  have c7 := c.1
  have c8 := c.2.1
  have c9 := c.2.2.1
  have q3 : rfu P 3 3 = 3 := rfu_3 p3
  have hm : h 115 (40 + 7) = D 0 8 := RD.2.1 7 (by omega) (by omega)
  have hm6 : h 115 46 = D 0 7 := RD.2.1 6 (by omega) (by omega)
  have hm7 : h 115 47 = D 0 8 := RD.2.1 7 (by omega) (by omega)
  refine zmet rfl rfl rfl ?_
  refine zS_aload_n (zdec eX10_lineHere 0 rfl) rfl rfl ?_
  refine zS_aload_n (zdec eX10_lineHere 1 rfl) rfl rfl ?_
  refine zS_ldc2_w (zdec eX10_lineHere 2 rfl) kj_X10_180 rfl ?_
  refine zvI (M' := mX10_is) (As := [zJ 207120869604]) (st := [zA 108]) (zdec eX10_lineHere 3 rfl) kM_X10_129 kV_X10_is ⟨by decide, rfl⟩ rfl rfl rfl rfl rfl (by omega) (r_isn (i := 7) (by omega) (by omega) wk_7 V p3 R w7) ?_
  refine zS_bipush (zdec eX10_lineHere 4 rfl) rfl rfl ?_
  refine zS_iconst (zdec eX10_lineHere 5 rfl) rfl ?_
  refine zvI (M' := mX10_isRoom) (As := [zI 0, zI 6, zI 4]) (st := []) (zdec eX10_lineHere 6 rfl) kM_X10_182 kV_X10_isRoom ⟨by decide, rfl⟩ rfl rfl rfl rfl rfl (by omega) r_room0 ?_
  refine zS_if_eq (tgt := 58) (zdec eX10_lineHere 7 rfl) rfl (fun cz => ?_) (fun cz => absurd (by decide) cz)
  refine zS_aload_n (zdec eX10_lineHere 30 rfl) rfl rfl ?_
  refine zS_getfieldE (x := 12) (v := 0) (zdec eX10_lineHere 31 rfl) kF_X10_123 ⟨by decide, rfl⟩ rfl rfl rfl (R.2.1.trans p3) ?_
  refine zS_if_ne (tgt := 89) (zdec eX10_lineHere 32 rfl) rfl (fun cz => absurd cz (by decide)) (fun cz => ?_)
  refine zS_aload_n (zdec eX10_lineHere 33 rfl) rfl rfl ?_
  refine zS_aload_n (zdec eX10_lineHere 34 rfl) rfl rfl ?_
  refine zS_ldc2_w (zdec eX10_lineHere 35 rfl) kj_X10_188 rfl ?_
  refine zvI (M' := mX10_is) (As := [zJ 46263]) (st := [zA 108]) (zdec eX10_lineHere 36 rfl) kM_X10_129 kV_X10_is ⟨by decide, rfl⟩ rfl rfl rfl rfl rfl (by omega) (r_isy (i := 9) (by omega) (by omega) wk_9 V p3 R w9) ?_
  refine zS_bipush (zdec eX10_lineHere 37 rfl) rfl rfl ?_
  refine zS_iconst (zdec eX10_lineHere 38 rfl) rfl ?_
  refine zvMI (M' := mX10_isRoom) (As := [zI 1, zI 7, zI 5]) (st := []) (zdec eX10_lineHere 39 rfl) kM_X10_182 kV_X10_isRoom ⟨by decide, rfl⟩ rfl rfl rfl rfl rfl (by omega) (r_roomF (by omega) V p3 R (by omega) (by omega) hm (by omega)) (fun r1 h1 ⟨e1, R1, f1⟩ => ?_)
  subst e1
  refine zS_if_eq (tgt := 89) (zdec eX10_lineHere 40 rfl) rfl (fun cz => ?_) (fun cz => absurd (by decide) cz)
  refine zS_aload_n (zdec eX10_lineHere 44 rfl) rfl rfl ?_
  refine zS_getfieldE (x := 12) (v := 3) (zdec eX10_lineHere 45 rfl) kF_X10_123 ⟨by decide, rfl⟩ rfl rfl rfl (R1.2.1.trans q3) ?_
  refine zS_if_ne (tgt := 121) (zdec eX10_lineHere 46 rfl) rfl (fun cz => ?_) (fun cz => absurd cz (by decide))
  refine zS_aload_n (zdec eX10_lineHere 58 rfl) rfl rfl ?_
  refine zS_getfieldE (x := 12) (v := 3) (zdec eX10_lineHere 59 rfl) kF_X10_123 ⟨by decide, rfl⟩ rfl rfl rfl (R1.2.1.trans q3) ?_
  refine zS_if_ne (tgt := 133) (zdec eX10_lineHere 60 rfl) rfl (fun cz => ?_) (fun cz => absurd cz (by decide))
  exact zlMV (zdec eX10_lineHere 64 rfl) rfl ⟨R1, fun _ => RD.fr f1 (fun k j z => by omega), f1.mono (fun k j z => Or.inl z)⟩
theorem r_lh_blY {d : Nat} {h : zH} {B : Int → Int} {L : Int} {P : Tp} {D : Dk} (hd : 10 ≤ d) (V : TV L P) (p3 : P 3 = 0) (R : PR h B L P) (RD : DR h 4 D) (c : CT D) (w7 : isW B P 7 = false) (w9 : isW B P 9 = true) (hf : ¬ D 0 8 = 5) : zMV d mX10_lineHere [zA 108] h (fun h' => PR h' B L (blP B L P D) ∧ ((blP B L P D) 3 = 0 → DR h' 4 (blD D (bvF B L P D))) ∧ Fr sLH h h') := by
  have c7 := c.1
  have c8 := c.2.1
  have c9 := c.2.2.1
  have q3 : rfu P 3 3 = 3 := rfu_3 p3
  have hm : h 115 (40 + 7) = D 0 8 := RD.2.1 7 (by omega) (by omega)
  have hm6 : h 115 46 = D 0 7 := RD.2.1 6 (by omega) (by omega)
  have hm7 : h 115 47 = D 0 8 := RD.2.1 7 (by omega) (by omega)
  refine zmet rfl rfl rfl ?_
  refine zS_aload_n (zdec eX10_lineHere 0 rfl) rfl rfl ?_
  refine zS_aload_n (zdec eX10_lineHere 1 rfl) rfl rfl ?_
  refine zS_ldc2_w (zdec eX10_lineHere 2 rfl) kj_X10_180 rfl ?_
  refine zvI (M' := mX10_is) (As := [zJ 207120869604]) (st := [zA 108]) (zdec eX10_lineHere 3 rfl) kM_X10_129 kV_X10_is ⟨by decide, rfl⟩ rfl rfl rfl rfl rfl (by omega) (r_isn (i := 7) (by omega) (by omega) wk_7 V p3 R w7) ?_
  refine zS_bipush (zdec eX10_lineHere 4 rfl) rfl rfl ?_
  refine zS_iconst (zdec eX10_lineHere 5 rfl) rfl ?_
  refine zvI (M' := mX10_isRoom) (As := [zI 0, zI 6, zI 4]) (st := []) (zdec eX10_lineHere 6 rfl) kM_X10_182 kV_X10_isRoom ⟨by decide, rfl⟩ rfl rfl rfl rfl rfl (by omega) r_room0 ?_
  refine zS_if_eq (tgt := 58) (zdec eX10_lineHere 7 rfl) rfl (fun cz => ?_) (fun cz => absurd (by decide) cz)
  refine zS_aload_n (zdec eX10_lineHere 30 rfl) rfl rfl ?_
  refine zS_getfieldE (x := 12) (v := 0) (zdec eX10_lineHere 31 rfl) kF_X10_123 ⟨by decide, rfl⟩ rfl rfl rfl (R.2.1.trans p3) ?_
  refine zS_if_ne (tgt := 89) (zdec eX10_lineHere 32 rfl) rfl (fun cz => absurd cz (by decide)) (fun cz => ?_)
  refine zS_aload_n (zdec eX10_lineHere 33 rfl) rfl rfl ?_
  refine zS_aload_n (zdec eX10_lineHere 34 rfl) rfl rfl ?_
  refine zS_ldc2_w (zdec eX10_lineHere 35 rfl) kj_X10_188 rfl ?_
  refine zvI (M' := mX10_is) (As := [zJ 46263]) (st := [zA 108]) (zdec eX10_lineHere 36 rfl) kM_X10_129 kV_X10_is ⟨by decide, rfl⟩ rfl rfl rfl rfl rfl (by omega) (r_isy (i := 9) (by omega) (by omega) wk_9 V p3 R w9) ?_
  refine zS_bipush (zdec eX10_lineHere 37 rfl) rfl rfl ?_
  refine zS_iconst (zdec eX10_lineHere 38 rfl) rfl ?_
  refine zvMI (M' := mX10_isRoom) (As := [zI 1, zI 7, zI 5]) (st := []) (zdec eX10_lineHere 39 rfl) kM_X10_182 kV_X10_isRoom ⟨by decide, rfl⟩ rfl rfl rfl rfl rfl (by omega) (r_roomY (by omega) V p3 R (by omega) (by omega) hm (by omega)) (fun r1 h1 ⟨e1, R1, f1⟩ => ?_)
  subst e1
  refine zS_if_eq (tgt := 89) (zdec eX10_lineHere 40 rfl) rfl (fun cz => absurd cz (by decide)) (fun cz => ?_)
  refine zS_aload_n (zdec eX10_lineHere 41 rfl) rfl rfl ?_
  refine zvMV (M' := mX10_billLine) (As := []) (st := []) (zdec eX10_lineHere 42 rfl) kM_X10_190 kV_X10_billLine ⟨by decide, rfl⟩ rfl rfl rfl rfl rfl (by omega) (r_billLine (by omega) V R1 c (by omega) ((f1 _ _ (by omega)).trans hm6) ((f1 _ _ (by omega)).trans hm7)) (fun h2 ⟨R2, U2, k2, f2⟩ => ?_)
  refine zS_goto (tgt := 133) (zdec eX10_lineHere 43 rfl) rfl ?_
  have F := (f1.mono (S' := (fun k j => sPR k j ∨ (k = 117 ∧ 7 * (20 + D 0 8) ≤ j ∧ j < 7 * (20 + D 0 8) + 7) ∨ (k = 115 ∧ j = 47))) (fun k j z => Or.inl z)).tr f2 (fun k j z => z) (fun k j z => z)
  exact zlMV (zdec eX10_lineHere 64 rfl) rfl ⟨R2, fun z => RD.bl4 c (by omega) (fun w w0 w1 => (U2 w w0 w1).trans ((bl_ok z).1 w w0 w1)) k2 F, F.mono (fun k j z => z.elim Or.inl (fun q => Or.inr (by unfold blk; omega)))⟩
theorem r_lh_loF {d : Nat} {h : zH} {B : Int → Int} {L : Int} {P : Tp} {D : Dk} (hd : 10 ≤ d) (V : TV L P) (p3 : P 3 = 0) (R : PR h B L P) (RD : DR h 4 D) (c : CT D) (w7 : isW B P 7 = false) (w9 : isW B P 9 = false) (w4 : isW B P 4 = true) (hf : D 0 9 = 6) : zMV d mX10_lineHere [zA 108] h (fun h' => PR h' B L (rfu P 3) ∧ ((rfu P 3) 3 = 0 → DR h' 4 D) ∧ Fr sLH h h') := by
  have c7 := c.1
  have c8 := c.2.1
  have c9 := c.2.2.1
  have q3 : rfu P 3 3 = 3 := rfu_3 p3
  have hm : h 115 (40 + 8) = D 0 9 := RD.2.1 8 (by omega) (by omega)
  have hm6 : h 115 46 = D 0 7 := RD.2.1 6 (by omega) (by omega)
  have hm7 : h 115 47 = D 0 8 := RD.2.1 7 (by omega) (by omega)
  refine zmet rfl rfl rfl ?_
  refine zS_aload_n (zdec eX10_lineHere 0 rfl) rfl rfl ?_
  refine zS_aload_n (zdec eX10_lineHere 1 rfl) rfl rfl ?_
  refine zS_ldc2_w (zdec eX10_lineHere 2 rfl) kj_X10_180 rfl ?_
  refine zvI (M' := mX10_is) (As := [zJ 207120869604]) (st := [zA 108]) (zdec eX10_lineHere 3 rfl) kM_X10_129 kV_X10_is ⟨by decide, rfl⟩ rfl rfl rfl rfl rfl (by omega) (r_isn (i := 7) (by omega) (by omega) wk_7 V p3 R w7) ?_
  refine zS_bipush (zdec eX10_lineHere 4 rfl) rfl rfl ?_
  refine zS_iconst (zdec eX10_lineHere 5 rfl) rfl ?_
  refine zvI (M' := mX10_isRoom) (As := [zI 0, zI 6, zI 4]) (st := []) (zdec eX10_lineHere 6 rfl) kM_X10_182 kV_X10_isRoom ⟨by decide, rfl⟩ rfl rfl rfl rfl rfl (by omega) r_room0 ?_
  refine zS_if_eq (tgt := 58) (zdec eX10_lineHere 7 rfl) rfl (fun cz => ?_) (fun cz => absurd (by decide) cz)
  refine zS_aload_n (zdec eX10_lineHere 30 rfl) rfl rfl ?_
  refine zS_getfieldE (x := 12) (v := 0) (zdec eX10_lineHere 31 rfl) kF_X10_123 ⟨by decide, rfl⟩ rfl rfl rfl (R.2.1.trans p3) ?_
  refine zS_if_ne (tgt := 89) (zdec eX10_lineHere 32 rfl) rfl (fun cz => absurd cz (by decide)) (fun cz => ?_)
  refine zS_aload_n (zdec eX10_lineHere 33 rfl) rfl rfl ?_
  refine zS_aload_n (zdec eX10_lineHere 34 rfl) rfl rfl ?_
  refine zS_ldc2_w (zdec eX10_lineHere 35 rfl) kj_X10_188 rfl ?_
  refine zvI (M' := mX10_is) (As := [zJ 46263]) (st := [zA 108]) (zdec eX10_lineHere 36 rfl) kM_X10_129 kV_X10_is ⟨by decide, rfl⟩ rfl rfl rfl rfl rfl (by omega) (r_isn (i := 9) (by omega) (by omega) wk_9 V p3 R w9) ?_
  refine zS_bipush (zdec eX10_lineHere 37 rfl) rfl rfl ?_
  refine zS_iconst (zdec eX10_lineHere 38 rfl) rfl ?_
  refine zvI (M' := mX10_isRoom) (As := [zI 0, zI 7, zI 5]) (st := []) (zdec eX10_lineHere 39 rfl) kM_X10_182 kV_X10_isRoom ⟨by decide, rfl⟩ rfl rfl rfl rfl rfl (by omega) r_room0 ?_
  refine zS_if_eq (tgt := 89) (zdec eX10_lineHere 40 rfl) rfl (fun cz => ?_) (fun cz => absurd (by decide) cz)
  refine zS_aload_n (zdec eX10_lineHere 44 rfl) rfl rfl ?_
  refine zS_getfieldE (x := 12) (v := 0) (zdec eX10_lineHere 45 rfl) kF_X10_123 ⟨by decide, rfl⟩ rfl rfl rfl (R.2.1.trans p3) ?_
  refine zS_if_ne (tgt := 121) (zdec eX10_lineHere 46 rfl) rfl (fun cz => absurd cz (by decide)) (fun cz => ?_)
  refine zS_aload_n (zdec eX10_lineHere 47 rfl) rfl rfl ?_
  refine zS_aload_n (zdec eX10_lineHere 48 rfl) rfl rfl ?_
  refine zS_ldc2_w (zdec eX10_lineHere 49 rfl) kj_X10_193 rfl ?_
  refine zvI (M' := mX10_is) (As := [zJ 60299]) (st := [zA 108]) (zdec eX10_lineHere 50 rfl) kM_X10_129 kV_X10_is ⟨by decide, rfl⟩ rfl rfl rfl rfl rfl (by omega) (r_isy (i := 4) (by omega) (by omega) wk_4 V p3 R w4) ?_
  refine zS_bipush (zdec eX10_lineHere 51 rfl) rfl rfl ?_
  refine zS_bipush (zdec eX10_lineHere 52 rfl) rfl rfl ?_
  refine zvMI (M' := mX10_isRoom) (As := [zI 1, zI 8, zI 6]) (st := []) (zdec eX10_lineHere 53 rfl) kM_X10_182 kV_X10_isRoom ⟨by decide, rfl⟩ rfl rfl rfl rfl rfl (by omega) (r_roomF (by omega) V p3 R (by omega) (by omega) hm (by omega)) (fun r1 h1 ⟨e1, R1, f1⟩ => ?_)
  subst e1
  refine zS_if_eq (tgt := 121) (zdec eX10_lineHere 54 rfl) rfl (fun cz => ?_) (fun cz => absurd (by decide) cz)
  refine zS_aload_n (zdec eX10_lineHere 58 rfl) rfl rfl ?_
  refine zS_getfieldE (x := 12) (v := 3) (zdec eX10_lineHere 59 rfl) kF_X10_123 ⟨by decide, rfl⟩ rfl rfl rfl (R1.2.1.trans q3) ?_
  refine zS_if_ne (tgt := 133) (zdec eX10_lineHere 60 rfl) rfl (fun cz => ?_) (fun cz => absurd cz (by decide))
  exact zlMV (zdec eX10_lineHere 64 rfl) rfl ⟨R1, fun _ => RD.fr f1 (fun k j z => by omega), f1.mono (fun k j z => Or.inl z)⟩
theorem r_lh_loY {d : Nat} {h : zH} {B : Int → Int} {L : Int} {P : Tp} {D : Dk} (hd : 10 ≤ d) (V : TV L P) (p3 : P 3 = 0) (R : PR h B L P) (RD : DR h 4 D) (c : CT D) (w7 : isW B P 7 = false) (w9 : isW B P 9 = false) (w4 : isW B P 4 = true) (hf : ¬ D 0 9 = 6) : zMV d mX10_lineHere [zA 108] h (fun h' => PR h' B L (lnP B L P) ∧ ((lnP B L P) 3 = 0 → DR h' 4 (lnD D (lnA B L P) (lnO B L P))) ∧ Fr sLH h h') := by
  have c7 := c.1
  have c8 := c.2.1
  have c9 := c.2.2.1
  have q3 : rfu P 3 3 = 3 := rfu_3 p3
  have hm : h 115 (40 + 8) = D 0 9 := RD.2.1 8 (by omega) (by omega)
  have hm6 : h 115 46 = D 0 7 := RD.2.1 6 (by omega) (by omega)
  have hm7 : h 115 47 = D 0 8 := RD.2.1 7 (by omega) (by omega)
  refine zmet rfl rfl rfl ?_
  refine zS_aload_n (zdec eX10_lineHere 0 rfl) rfl rfl ?_
  refine zS_aload_n (zdec eX10_lineHere 1 rfl) rfl rfl ?_
  refine zS_ldc2_w (zdec eX10_lineHere 2 rfl) kj_X10_180 rfl ?_
  refine zvI (M' := mX10_is) (As := [zJ 207120869604]) (st := [zA 108]) (zdec eX10_lineHere 3 rfl) kM_X10_129 kV_X10_is ⟨by decide, rfl⟩ rfl rfl rfl rfl rfl (by omega) (r_isn (i := 7) (by omega) (by omega) wk_7 V p3 R w7) ?_
  refine zS_bipush (zdec eX10_lineHere 4 rfl) rfl rfl ?_
  refine zS_iconst (zdec eX10_lineHere 5 rfl) rfl ?_
  refine zvI (M' := mX10_isRoom) (As := [zI 0, zI 6, zI 4]) (st := []) (zdec eX10_lineHere 6 rfl) kM_X10_182 kV_X10_isRoom ⟨by decide, rfl⟩ rfl rfl rfl rfl rfl (by omega) r_room0 ?_
  refine zS_if_eq (tgt := 58) (zdec eX10_lineHere 7 rfl) rfl (fun cz => ?_) (fun cz => absurd (by decide) cz)
  refine zS_aload_n (zdec eX10_lineHere 30 rfl) rfl rfl ?_
  refine zS_getfieldE (x := 12) (v := 0) (zdec eX10_lineHere 31 rfl) kF_X10_123 ⟨by decide, rfl⟩ rfl rfl rfl (R.2.1.trans p3) ?_
  refine zS_if_ne (tgt := 89) (zdec eX10_lineHere 32 rfl) rfl (fun cz => absurd cz (by decide)) (fun cz => ?_)
  refine zS_aload_n (zdec eX10_lineHere 33 rfl) rfl rfl ?_
  refine zS_aload_n (zdec eX10_lineHere 34 rfl) rfl rfl ?_
  refine zS_ldc2_w (zdec eX10_lineHere 35 rfl) kj_X10_188 rfl ?_
  refine zvI (M' := mX10_is) (As := [zJ 46263]) (st := [zA 108]) (zdec eX10_lineHere 36 rfl) kM_X10_129 kV_X10_is ⟨by decide, rfl⟩ rfl rfl rfl rfl rfl (by omega) (r_isn (i := 9) (by omega) (by omega) wk_9 V p3 R w9) ?_
  refine zS_bipush (zdec eX10_lineHere 37 rfl) rfl rfl ?_
  refine zS_iconst (zdec eX10_lineHere 38 rfl) rfl ?_
  refine zvI (M' := mX10_isRoom) (As := [zI 0, zI 7, zI 5]) (st := []) (zdec eX10_lineHere 39 rfl) kM_X10_182 kV_X10_isRoom ⟨by decide, rfl⟩ rfl rfl rfl rfl rfl (by omega) r_room0 ?_
  refine zS_if_eq (tgt := 89) (zdec eX10_lineHere 40 rfl) rfl (fun cz => ?_) (fun cz => absurd (by decide) cz)
  refine zS_aload_n (zdec eX10_lineHere 44 rfl) rfl rfl ?_
  refine zS_getfieldE (x := 12) (v := 0) (zdec eX10_lineHere 45 rfl) kF_X10_123 ⟨by decide, rfl⟩ rfl rfl rfl (R.2.1.trans p3) ?_
  refine zS_if_ne (tgt := 121) (zdec eX10_lineHere 46 rfl) rfl (fun cz => absurd cz (by decide)) (fun cz => ?_)
  refine zS_aload_n (zdec eX10_lineHere 47 rfl) rfl rfl ?_
  refine zS_aload_n (zdec eX10_lineHere 48 rfl) rfl rfl ?_
  refine zS_ldc2_w (zdec eX10_lineHere 49 rfl) kj_X10_193 rfl ?_
  refine zvI (M' := mX10_is) (As := [zJ 60299]) (st := [zA 108]) (zdec eX10_lineHere 50 rfl) kM_X10_129 kV_X10_is ⟨by decide, rfl⟩ rfl rfl rfl rfl rfl (by omega) (r_isy (i := 4) (by omega) (by omega) wk_4 V p3 R w4) ?_
  refine zS_bipush (zdec eX10_lineHere 51 rfl) rfl rfl ?_
  refine zS_bipush (zdec eX10_lineHere 52 rfl) rfl rfl ?_
  refine zvMI (M' := mX10_isRoom) (As := [zI 1, zI 8, zI 6]) (st := []) (zdec eX10_lineHere 53 rfl) kM_X10_182 kV_X10_isRoom ⟨by decide, rfl⟩ rfl rfl rfl rfl rfl (by omega) (r_roomY (by omega) V p3 R (by omega) (by omega) hm (by omega)) (fun r1 h1 ⟨e1, R1, f1⟩ => ?_)
  subst e1
  refine zS_if_eq (tgt := 121) (zdec eX10_lineHere 54 rfl) rfl (fun cz => absurd cz (by decide)) (fun cz => ?_)
  refine zS_aload_n (zdec eX10_lineHere 55 rfl) rfl rfl ?_
  refine zvMV (M' := mX10_loadLine) (As := []) (st := []) (zdec eX10_lineHere 56 rfl) kM_X10_195 kV_X10_loadLine ⟨by decide, rfl⟩ rfl rfl rfl rfl rfl (by omega) (r_loadLine (m := D 0 9) (by omega) (V.nx B) R1 (by omega) (by omega) ((f1 _ _ (by omega)).trans hm)) (fun h2 ⟨R2, u2, v2, k2, f2⟩ => ?_)
  refine zS_goto (tgt := 133) (zdec eX10_lineHere 57 rfl) rfl ?_
  have F := (f1.mono (S' := (fun k j => sPR k j ∨ (k = 118 ∧ 2 * (24 + D 0 9) ≤ j ∧ j < 2 * (24 + D 0 9) + 2) ∨ (k = 115 ∧ j = 48))) (fun k j z => Or.inl z)).tr f2 (fun k j z => z) (fun k j z => z)
  exact zlMV (zdec eX10_lineHere 64 rfl) rfl ⟨R2, fun z => RD.lo4 c (u2.trans (tn_ok (tf_ok z).1).2.1) (v2.trans (tf_ok z).2.1) k2 F, F.mono (fun k j z => z.elim Or.inl (fun q => Or.inr (by unfold blk; omega)))⟩
theorem r_lh_no {d : Nat} {h : zH} {B : Int → Int} {L : Int} {P : Tp} {D : Dk} (hd : 10 ≤ d) (V : TV L P) (p3 : P 3 = 0) (R : PR h B L P) (RD : DR h 4 D) (c : CT D) (w7 : isW B P 7 = false) (w9 : isW B P 9 = false) (w4 : isW B P 4 = false) : zMV d mX10_lineHere [zA 108] h (fun h' => PR h' B L (rfu P 1) ∧ ((rfu P 1) 3 = 0 → DR h' 4 D) ∧ Fr sLH h h') := by
  have c7 := c.1
  have c8 := c.2.1
  have c9 := c.2.2.1
  have q3 : rfu P 3 3 = 3 := rfu_3 p3
  have hm6 : h 115 46 = D 0 7 := RD.2.1 6 (by omega) (by omega)
  have hm7 : h 115 47 = D 0 8 := RD.2.1 7 (by omega) (by omega)
  refine zmet rfl rfl rfl ?_
  refine zS_aload_n (zdec eX10_lineHere 0 rfl) rfl rfl ?_
  refine zS_aload_n (zdec eX10_lineHere 1 rfl) rfl rfl ?_
  refine zS_ldc2_w (zdec eX10_lineHere 2 rfl) kj_X10_180 rfl ?_
  refine zvI (M' := mX10_is) (As := [zJ 207120869604]) (st := [zA 108]) (zdec eX10_lineHere 3 rfl) kM_X10_129 kV_X10_is ⟨by decide, rfl⟩ rfl rfl rfl rfl rfl (by omega) (r_isn (i := 7) (by omega) (by omega) wk_7 V p3 R w7) ?_
  refine zS_bipush (zdec eX10_lineHere 4 rfl) rfl rfl ?_
  refine zS_iconst (zdec eX10_lineHere 5 rfl) rfl ?_
  refine zvI (M' := mX10_isRoom) (As := [zI 0, zI 6, zI 4]) (st := []) (zdec eX10_lineHere 6 rfl) kM_X10_182 kV_X10_isRoom ⟨by decide, rfl⟩ rfl rfl rfl rfl rfl (by omega) r_room0 ?_
  refine zS_if_eq (tgt := 58) (zdec eX10_lineHere 7 rfl) rfl (fun cz => ?_) (fun cz => absurd (by decide) cz)
  refine zS_aload_n (zdec eX10_lineHere 30 rfl) rfl rfl ?_
  refine zS_getfieldE (x := 12) (v := 0) (zdec eX10_lineHere 31 rfl) kF_X10_123 ⟨by decide, rfl⟩ rfl rfl rfl (R.2.1.trans p3) ?_
  refine zS_if_ne (tgt := 89) (zdec eX10_lineHere 32 rfl) rfl (fun cz => absurd cz (by decide)) (fun cz => ?_)
  refine zS_aload_n (zdec eX10_lineHere 33 rfl) rfl rfl ?_
  refine zS_aload_n (zdec eX10_lineHere 34 rfl) rfl rfl ?_
  refine zS_ldc2_w (zdec eX10_lineHere 35 rfl) kj_X10_188 rfl ?_
  refine zvI (M' := mX10_is) (As := [zJ 46263]) (st := [zA 108]) (zdec eX10_lineHere 36 rfl) kM_X10_129 kV_X10_is ⟨by decide, rfl⟩ rfl rfl rfl rfl rfl (by omega) (r_isn (i := 9) (by omega) (by omega) wk_9 V p3 R w9) ?_
  refine zS_bipush (zdec eX10_lineHere 37 rfl) rfl rfl ?_
  refine zS_iconst (zdec eX10_lineHere 38 rfl) rfl ?_
  refine zvI (M' := mX10_isRoom) (As := [zI 0, zI 7, zI 5]) (st := []) (zdec eX10_lineHere 39 rfl) kM_X10_182 kV_X10_isRoom ⟨by decide, rfl⟩ rfl rfl rfl rfl rfl (by omega) r_room0 ?_
  refine zS_if_eq (tgt := 89) (zdec eX10_lineHere 40 rfl) rfl (fun cz => ?_) (fun cz => absurd (by decide) cz)
  refine zS_aload_n (zdec eX10_lineHere 44 rfl) rfl rfl ?_
  refine zS_getfieldE (x := 12) (v := 0) (zdec eX10_lineHere 45 rfl) kF_X10_123 ⟨by decide, rfl⟩ rfl rfl rfl (R.2.1.trans p3) ?_
  refine zS_if_ne (tgt := 121) (zdec eX10_lineHere 46 rfl) rfl (fun cz => absurd cz (by decide)) (fun cz => ?_)
  refine zS_aload_n (zdec eX10_lineHere 47 rfl) rfl rfl ?_
  refine zS_aload_n (zdec eX10_lineHere 48 rfl) rfl rfl ?_
  refine zS_ldc2_w (zdec eX10_lineHere 49 rfl) kj_X10_193 rfl ?_
  refine zvI (M' := mX10_is) (As := [zJ 60299]) (st := [zA 108]) (zdec eX10_lineHere 50 rfl) kM_X10_129 kV_X10_is ⟨by decide, rfl⟩ rfl rfl rfl rfl rfl (by omega) (r_isn (i := 4) (by omega) (by omega) wk_4 V p3 R w4) ?_
  refine zS_bipush (zdec eX10_lineHere 51 rfl) rfl rfl ?_
  refine zS_bipush (zdec eX10_lineHere 52 rfl) rfl rfl ?_
  refine zvI (M' := mX10_isRoom) (As := [zI 0, zI 8, zI 6]) (st := []) (zdec eX10_lineHere 53 rfl) kM_X10_182 kV_X10_isRoom ⟨by decide, rfl⟩ rfl rfl rfl rfl rfl (by omega) r_room0 ?_
  refine zS_if_eq (tgt := 121) (zdec eX10_lineHere 54 rfl) rfl (fun cz => ?_) (fun cz => absurd (by decide) cz)
  refine zS_aload_n (zdec eX10_lineHere 58 rfl) rfl rfl ?_
  refine zS_getfieldE (x := 12) (v := 0) (zdec eX10_lineHere 59 rfl) kF_X10_123 ⟨by decide, rfl⟩ rfl rfl rfl (R.2.1.trans p3) ?_
  refine zS_if_ne (tgt := 133) (zdec eX10_lineHere 60 rfl) rfl (fun cz => absurd cz (by decide)) (fun cz => ?_)
  refine zS_aload_n (zdec eX10_lineHere 61 rfl) rfl rfl ?_
  refine zS_iconst (zdec eX10_lineHere 62 rfl) rfl ?_
  refine zvMV (M' := mX10_errs) (As := [zI 1]) (st := []) (zdec eX10_lineHere 63 rfl) kM_X10_139 kV_X10_errs ⟨by decide, rfl⟩ rfl rfl rfl rfl rfl (by omega) (r_errs (c := 1) (by omega) R) (fun h2 ⟨R2, f2⟩ => ?_)
  exact zlMV (zdec eX10_lineHere 64 rfl) rfl ⟨R2, fun _ => RD.fr f2 (fun k j z => by omega), f2.mono (fun k j z => Or.inl (by omega))⟩
theorem r_lineHere {d : Nat} {h : zH} {B : Int → Int} {L : Int} {P : Tp} {D : Dk} (hd : 10 ≤ d) (V : TV L P) (p3 : P 3 = 0) (R : PR h B L P) (RD : DR h 4 D) (c : CT D) (d0 : D 0 0 ≠ 0) : zMV d mX10_lineHere [zA 108] h (fun h' => PR h' B L (lnQ B L P D).1 ∧ ((lnQ B L P D).1 3 = 0 → DR h' 4 (lnQ B L P D).2) ∧ Fr sLH h h') := by
  have c7 := c.1
  have c8 := c.2.1
  have c9 := c.2.2.1
  unfold lnQ
  rw [if_neg d0]
  by_cases w7 : isW B P 7 = true
  · rw [if_pos w7]
    by_cases f : D 0 7 = 4
    · rw [if_pos (show 4 ≤ D 0 7 by omega), if_pos (show 4 ≤ D 0 7 by omega)]; exact r_lh_spF hd V p3 R RD c w7 f
    · rw [if_neg (show ¬ 4 ≤ D 0 7 by omega), if_neg (show ¬ 4 ≤ D 0 7 by omega)]; exact r_lh_spY hd V p3 R RD c w7 f
  · rw [if_neg w7]
    have w7' := Bool.eq_false_iff.mpr w7
    by_cases w9 : isW B P 9 = true
    · rw [if_pos w9]
      by_cases f : D 0 8 = 5
      · rw [if_pos (show 5 ≤ D 0 8 by omega), if_pos (show 5 ≤ D 0 8 by omega)]; exact r_lh_blF hd V p3 R RD c w7' w9 f
      · rw [if_neg (show ¬ 5 ≤ D 0 8 by omega), if_neg (show ¬ 5 ≤ D 0 8 by omega)]; exact r_lh_blY hd V p3 R RD c w7' w9 f
    · rw [if_neg w9]
      have w9' := Bool.eq_false_iff.mpr w9
      by_cases w4 : isW B P 4 = true
      · rw [if_pos w4]
        by_cases f : D 0 9 = 6
        · rw [if_pos (show 6 ≤ D 0 9 by omega), if_pos (show 6 ≤ D 0 9 by omega)]; exact r_lh_loF hd V p3 R RD c w7' w9' w4 f
        · rw [if_neg (show ¬ 6 ≤ D 0 9 by omega), if_neg (show ¬ 6 ≤ D 0 9 by omega)]; exact r_lh_loY hd V p3 R RD c w7' w9' w4 f
      · rw [if_neg w4]; exact r_lh_no hd V p3 R RD c w7' w9' (Bool.eq_false_iff.mpr w4)

theorem r_begins {d : Nat} {h : zH} {B : Int → Int} {L : Int} (hd : 2 ≤ d) (l0 : 0 ≤ L ∧ L ≤ 700) (RB : BR h B L) : zMV d mX10_begins [zA 108] h (fun h' => PR h' B L (nxP B L ini) ∧ Fr sPR h h') := by
  refine zmet rfl rfl rfl ?_
  refine zS_aload_n (zdec eX10_begins 0 rfl) rfl rfl ?_
  refine zS_iconst (zdec eX10_begins 1 rfl) rfl ?_
  refine zS_putfield (x := 12) (zdec eX10_begins 2 rfl) kF_X10_123 (Or.inl kf10_12) ⟨by decide, rfl⟩ rfl rfl rfl (Or.inl (fun q => by cases q)) ?_
  refine zS_aload_n (zdec eX10_begins 3 rfl) rfl rfl ?_
  refine zS_iconst (zdec eX10_begins 4 rfl) rfl ?_
  refine zS_putfield (x := 13) (zdec eX10_begins 5 rfl) kF_X10_126 (Or.inl kf10_13) ⟨by decide, rfl⟩ rfl rfl rfl (Or.inl (fun q => by cases q)) ?_
  refine zS_aload_n (zdec eX10_begins 6 rfl) rfl rfl ?_
  refine zS_iconst (zdec eX10_begins 7 rfl) rfl ?_
  refine zS_putfield (x := 7) (zdec eX10_begins 8 rfl) kF_X10_95 (Or.inl kf10_7) ⟨by decide, rfl⟩ rfl rfl rfl (Or.inl (fun q => by cases q)) ?_
  refine zS_aload_n (zdec eX10_begins 9 rfl) rfl rfl ?_
  refine zvMV (M' := mX10_next) (As := []) (st := []) (zdec eX10_begins 10 rfl) kM_X10_133 kV_X10_next ⟨by decide, rfl⟩ rfl rfl rfl rfl rfl (by omega) (r_next (B := B) (L := L) (a := 0) (by omega) l0.2 (((RB.set (by omega) (by omega)).set (by omega) (by omega)).set (by omega) (by omega)) (by omega) (by omega) (zset_s _ _ _ _)) (fun h2 ⟨N2, f2⟩ => ?_)
  have e : nxP B L ini = tkP B L ini (skI B L 0) := by unfold nxP; rw [if_pos (show ini 3 = 0 from rfl)]; rfl
  exact zlMV (zdec eX10_begins 11 rfl) rfl ⟨by rw [e]; exact ⟨(((RB.set (by omega) (by omega)).set (by omega) (by omega)).set (by omega) (by omega)).fr f2 (fun k j z => by omega), (f2 _ _ (by omega)).trans ((zset_n (by omega)).trans ((zset_n (by omega)).trans (zset_s _ _ _ _))), (f2 _ _ (by omega)).trans ((zset_n (by omega)).trans (zset_s _ _ _ _)), fun _ => N2⟩, (((Fr.rf.set (by omega)).set (by omega)).set (by omega)).tr f2 (fun k j z => z) (fun k j z => by omega)⟩
theorem r_isOver {d : Nat} {h : zH} {B : Int → Int} {L : Int} {P : Tp} (R : PR h B L P) : zMV d mX10_isOver [zA 108] h (fun h' => h' 108 6 = 0 ∧ h' 108 14 = P 3 ∧ h' 108 15 = (if P 3 = 0 then -1 else P 4) ∧ h' 108 12 = P 3 ∧ Fr (fun k j => k = 108 ∧ (j = 6 ∨ j = 14 ∨ j = 15)) h h') := by
  refine zmet rfl rfl rfl ?_
  refine zS_aload_n (zdec eX10_isOver 0 rfl) rfl rfl ?_
  refine zS_iconst (zdec eX10_isOver 1 rfl) rfl ?_
  refine zS_putfield (x := 6) (zdec eX10_isOver 2 rfl) kF_X10_88 (Or.inl kf10_6) ⟨by decide, rfl⟩ rfl rfl rfl (Or.inl (fun q => by cases q)) ?_
  refine zS_aload_n (zdec eX10_isOver 3 rfl) rfl rfl ?_
  refine zS_aload_n (zdec eX10_isOver 4 rfl) rfl rfl ?_
  refine zS_getfieldE (x := 12) (v := (P 3)) (zdec eX10_isOver 5 rfl) kF_X10_123 ⟨by decide, rfl⟩ rfl rfl rfl ((zset_j (by decide)).trans R.2.1) ?_
  refine zS_putfield (x := 14) (zdec eX10_isOver 6 rfl) kF_X10_150 (Or.inl kf10_14) ⟨by decide, rfl⟩ rfl rfl rfl (Or.inl (fun q => by cases q)) ?_
  refine zS_aload_n (zdec eX10_isOver 7 rfl) rfl rfl ?_
  refine zS_aload_n (zdec eX10_isOver 8 rfl) rfl rfl ?_
  refine zS_getfieldE (x := 12) (v := (P 3)) (zdec eX10_isOver 9 rfl) kF_X10_123 ⟨by decide, rfl⟩ rfl rfl rfl ((zset_j (by decide)).trans ((zset_j (by decide)).trans R.2.1)) ?_
  refine zS_if_ne (tgt := 25) (zdec eX10_isOver 10 rfl) rfl (fun c1 => ?_) (fun c1 => ?_)
  · refine zS_aload_n (zdec eX10_isOver 13 rfl) rfl rfl ?_
    refine zS_getfieldE (x := 13) (v := (P 4)) (zdec eX10_isOver 14 rfl) kF_X10_126 ⟨by decide, rfl⟩ rfl rfl rfl ((zset_j (by decide)).trans ((zset_j (by decide)).trans R.2.2.1)) ?_
    refine zS_putfield (x := 15) (zdec eX10_isOver 15 rfl) kF_X10_27 (Or.inl kf10_15) ⟨by decide, rfl⟩ rfl rfl rfl (Or.inl (fun q => by cases q)) ?_
    exact zlMV (zdec eX10_isOver 16 rfl) rfl ⟨(zset_n (by omega)).trans ((zset_n (by omega)).trans (zset_s _ _ _ _)), (zset_n (by omega)).trans (zset_s _ _ _ _), by rw [if_neg (by omega)]; exact zset_s _ _ _ _, (zset_n (by omega)).trans ((zset_n (by omega)).trans ((zset_n (by omega)).trans R.2.1)), ((Fr.rf.set (by omega)).set (by omega)).set (by omega)⟩
  · refine zS_iconst (zdec eX10_isOver 11 rfl) rfl ?_
    refine zS_goto (tgt := 29) (zdec eX10_isOver 12 rfl) rfl ?_
    refine zS_putfield (x := 15) (zdec eX10_isOver 15 rfl) kF_X10_27 (Or.inl kf10_15) ⟨by decide, rfl⟩ rfl rfl rfl (Or.inl (fun q => by cases q)) ?_
    exact zlMV (zdec eX10_isOver 16 rfl) rfl ⟨(zset_n (by omega)).trans ((zset_n (by omega)).trans (zset_s _ _ _ _)), (zset_n (by omega)).trans (zset_s _ _ _ _), by rw [if_pos (by omega)]; exact zset_s _ _ _ _, (zset_n (by omega)).trans ((zset_n (by omega)).trans ((zset_n (by omega)).trans R.2.1)), ((Fr.rf.set (by omega)).set (by omega)).set (by omega)⟩
theorem r_isRoom {d : Nat} {h : zH} {B : Int → Int} {L : Int} {P : Tp} {g : Bool} {w n m : Int} (hd : 3 ≤ d) (V : TV L P) (p3 : P 3 = 0) (R : PR h B L P) (w0 : 0 ≤ w) (w1 : w ≤ 9) (hw : h 115 (40 + w) = m) : zMI d mX10_isRoom [zA 108, zI (b2i g), zI w, zI n] h (fun r h' => r = b2i (g && decide (m ≠ n)) ∧ PR h' B L (if g = true then (if m = n then rfu P 3 else nxP B L P) else P) ∧ Fr sPR h h') := by
  have q3 : rfu P 3 3 = 3 := rfu_3 p3
  have n3 : nxP B L P 3 = 0 := (nxP_3 B L P).trans p3
  refine zmet rfl rfl rfl ?_
  refine zS_iload_n (zdec eX10_isRoom 0 rfl) rfl ?_
  refine zS_if_eq (tgt := 18) (zdec eX10_isRoom 1 rfl) rfl (fun c1 => ?_) (fun c1 => ?_)
  · have z1 := b2i_0.mp c1
    refine zS_iload_n (zdec eX10_isRoom 10 rfl) rfl ?_
    refine zS_if_eq (tgt := 33) (zdec eX10_isRoom 11 rfl) rfl (fun cz => ?_) (fun cz => absurd (by omega) cz)
    refine zS_iload_n (zdec eX10_isRoom 17 rfl) rfl ?_
    refine zS_if_eq (tgt := 48) (zdec eX10_isRoom 18 rfl) rfl (fun cz => ?_) (fun cz => absurd (by omega) cz)
    refine zS_iconst (zdec eX10_isRoom 24 rfl) rfl ?_
    exact zlMZ (zdec eX10_isRoom 25 rfl) rfl (Or.inl rfl) ⟨by rw [z1]; rfl, by rw [if_neg (by rw [z1]; decide)]; exact R, Fr.rf⟩
  · have z1 := b2i_n.mp c1
    refine zS_aload_n (zdec eX10_isRoom 2 rfl) rfl rfl ?_
    refine zS_iload_n (zdec eX10_isRoom 3 rfl) rfl ?_
    refine zvI (M' := mX10_hasRead) (As := [zI w]) (st := []) (zdec eX10_isRoom 4 rfl) kM_X10_153 kV_X10_hasRead ⟨by decide, rfl⟩ rfl rfl rfl rfl rfl (by omega) (r_hasRead w0 w1 hw) ?_
    refine zS_iload_n (zdec eX10_isRoom 5 rfl) rfl ?_
    refine zS_icmp_ne (tgt := 18) (zdec eX10_isRoom 6 rfl) rfl (fun c2 => ?_) (fun c2 => ?_)
    · refine zS_iload_n (zdec eX10_isRoom 10 rfl) rfl ?_
      refine zS_if_eq (tgt := 33) (zdec eX10_isRoom 11 rfl) rfl (fun cz => absurd cz (by omega)) (fun cz => ?_)
      refine zS_aload_n (zdec eX10_isRoom 12 rfl) rfl rfl ?_
      refine zS_getfieldE (x := 12) (v := (P 3)) (zdec eX10_isRoom 13 rfl) kF_X10_123 ⟨by decide, rfl⟩ rfl rfl rfl R.2.1 ?_
      refine zS_if_ne (tgt := 33) (zdec eX10_isRoom 14 rfl) rfl (fun cz => absurd cz (by omega)) (fun cz => ?_)
      refine zS_aload_n (zdec eX10_isRoom 15 rfl) rfl rfl ?_
      refine zvMV (M' := mX10_next) (As := []) (st := []) (zdec eX10_isRoom 16 rfl) kM_X10_133 kV_X10_next ⟨by decide, rfl⟩ rfl rfl rfl rfl rfl (by omega) (r_nx (by omega) V p3 R) (fun h2 ⟨R2, f2⟩ => ?_)
      refine zS_iload_n (zdec eX10_isRoom 17 rfl) rfl ?_
      refine zS_if_eq (tgt := 48) (zdec eX10_isRoom 18 rfl) rfl (fun cz => absurd cz (by omega)) (fun cz => ?_)
      refine zS_aload_n (zdec eX10_isRoom 19 rfl) rfl rfl ?_
      refine zS_getfieldE (x := 12) (v := (nxP B L P 3)) (zdec eX10_isRoom 20 rfl) kF_X10_123 ⟨by decide, rfl⟩ rfl rfl rfl R2.2.1 ?_
      refine zS_if_ne (tgt := 48) (zdec eX10_isRoom 21 rfl) rfl (fun cz => absurd cz (by omega)) (fun cz => ?_)
      refine zS_iconst (zdec eX10_isRoom 22 rfl) rfl ?_
      refine zS_goto (tgt := 49) (zdec eX10_isRoom 23 rfl) rfl ?_
      exact zlMZ (zdec eX10_isRoom 25 rfl) rfl (Or.inr rfl) ⟨by rw [z1, decide_eq_true (show m ≠ n by omega)]; rfl, by rw [if_pos z1, if_neg (by omega)]; exact R2, f2⟩
    · refine zS_aload_n (zdec eX10_isRoom 7 rfl) rfl rfl ?_
      refine zS_iconst (zdec eX10_isRoom 8 rfl) rfl ?_
      refine zvMV (M' := mX10_errs) (As := [zI 3]) (st := []) (zdec eX10_isRoom 9 rfl) kM_X10_139 kV_X10_errs ⟨by decide, rfl⟩ rfl rfl rfl rfl rfl (by omega) (r_errs (c := 3) (by omega) R) (fun h2 ⟨R2, f2⟩ => ?_)
      refine zS_iload_n (zdec eX10_isRoom 10 rfl) rfl ?_
      refine zS_if_eq (tgt := 33) (zdec eX10_isRoom 11 rfl) rfl (fun cz => absurd cz (by omega)) (fun cz => ?_)
      refine zS_aload_n (zdec eX10_isRoom 12 rfl) rfl rfl ?_
      refine zS_getfieldE (x := 12) (v := (rfu P 3 3)) (zdec eX10_isRoom 13 rfl) kF_X10_123 ⟨by decide, rfl⟩ rfl rfl rfl R2.2.1 ?_
      refine zS_if_ne (tgt := 33) (zdec eX10_isRoom 14 rfl) rfl (fun cz => ?_) (fun cz => absurd cz (by omega))
      refine zS_iload_n (zdec eX10_isRoom 17 rfl) rfl ?_
      refine zS_if_eq (tgt := 48) (zdec eX10_isRoom 18 rfl) rfl (fun cz => absurd cz (by omega)) (fun cz => ?_)
      refine zS_aload_n (zdec eX10_isRoom 19 rfl) rfl rfl ?_
      refine zS_getfieldE (x := 12) (v := (rfu P 3 3)) (zdec eX10_isRoom 20 rfl) kF_X10_123 ⟨by decide, rfl⟩ rfl rfl rfl R2.2.1 ?_
      refine zS_if_ne (tgt := 48) (zdec eX10_isRoom 21 rfl) rfl (fun cz => ?_) (fun cz => absurd cz (by omega))
      refine zS_iconst (zdec eX10_isRoom 24 rfl) rfl ?_
      exact zlMZ (zdec eX10_isRoom 25 rfl) rfl (Or.inl rfl) ⟨by rw [z1, decide_eq_false (show ¬ m ≠ n by omega)]; rfl, by rw [if_pos z1, if_pos (by omega)]; exact R2, f2.mono (fun k j z => by omega)⟩
theorem tn_ok {B : Int → Int} {L lo hi : Int} {P : Tp} (h : tnP B L P lo hi 3 = 0) : P 3 = 0 ∧ nvR P lo hi = tnV P lo hi ∧ lo ≤ tnV P lo hi ∧ tnV P lo hi ≤ hi := by
  have q : tnQ P lo hi 3 = 0 := (nxP_3 B L _).symm.trans h
  have p3 : P 3 = 0 := by
    by_cases c : P 3 = 0
    · exact c
    · rw [tnQ_f c] at q; exact absurd q c
  refine ⟨p3, by unfold nvR tnV; rw [if_pos q, if_pos q], ?_⟩
  unfold tnV
  rw [if_pos q]
  unfold tnQ at q
  split at q
  · rw [rfu_3 p3] at q; omega
  · split at q
    · rw [rfu_3 p3] at q; omega
    · omega
theorem tw_ok {B : Int → Int} {L i : Int} {P : Tp} (h : twP B L P i 3 = 0) : P 3 = 0 := by
  by_cases c : P 3 = 0
  · exact c
  · rw [twP_n (by rw [decide_eq_false c, Bool.false_and]), rfu_f c] at h; exact absurd h c
theorem tf_ok {B : Int → Int} {L i lo hi : Int} {P : Tp} (h : tfP B L P i lo hi 3 = 0) : P 3 = 0 ∧ nvR (twP B L P i) lo hi = tfV B L P i lo hi ∧ lo ≤ tfV B L P i lo hi ∧ tfV B L P i lo hi ≤ hi :=
  have k := tn_ok (P := twP B L P i) h
  ⟨tw_ok k.1, k.2⟩
theorem r_loadLine {d : Nat} {h : zH} {B : Int → Int} {L : Int} {P : Tp} {m : Int} (hd : 8 ≤ d) (V : TV L P) (R : PR h B L P) (m0 : 0 ≤ m) (m1 : m < 6) (hm : h 115 48 = m) : zMV d mX10_loadLine [zA 108] h (fun h' => PR h' B L (tfP B L (tnP B L P 1 3000) 17 0 6) ∧ h' 118 (2 * (24 + m)) = nvR P 1 3000 ∧ h' 118 (2 * (24 + m) + 1) = nvR (twP B L (tnP B L P 1 3000) 17) 0 6 ∧ h' 115 48 = m + 1 ∧ Fr (fun k j => sPR k j ∨ (k = 118 ∧ 2 * (24 + m) ≤ j ∧ j < 2 * (24 + m) + 2) ∨ (k = 115 ∧ j = 48)) h h') := by
  refine zmet rfl rfl rfl ?_
  refine zS_iconst (zdec eX10_loadLine 0 rfl) rfl ?_
  refine zS_bipush (zdec eX10_loadLine 1 rfl) rfl rfl ?_
  refine zS_aload_n (zdec eX10_loadLine 2 rfl) rfl rfl ?_
  refine zS_bipush (zdec eX10_loadLine 3 rfl) rfl rfl ?_
  refine zvI (M' := mX10_hasRead) (As := [zI 8]) (st := [zI 24, zI 2]) (zdec eX10_loadLine 4 rfl) kM_X10_153 kV_X10_hasRead ⟨by decide, rfl⟩ rfl rfl rfl rfl rfl (by omega) (r_hasRead (x := 8) (v := m) (by omega) (by omega) hm) ?_
  refine zS_iadd (zdec eX10_loadLine 5 rfl) ⟨by omega, by omega⟩ ?_
  refine zS_imul (zdec eX10_loadLine 6 rfl) ⟨by omega, by omega⟩ ?_
  refine zS_istore_n (zdec eX10_loadLine 7 rfl) rfl ?_
  refine zS_aload_n (zdec eX10_loadLine 8 rfl) rfl rfl ?_
  refine zS_getref (i := 64) (zdec eX10_loadLine 9 rfl) kF_X10_43 ⟨by decide, rfl⟩ rfl rfl rfl rfl rfl ?_
  refine zS_iload_n (zdec eX10_loadLine 10 rfl) rfl ?_
  refine zS_aload_n (zdec eX10_loadLine 11 rfl) rfl rfl ?_
  refine zS_iconst (zdec eX10_loadLine 12 rfl) rfl ?_
  refine zS_sipush (zdec eX10_loadLine 13 rfl) rfl rfl ?_
  refine zvMI (M' := mX10_number) (As := [zI 1, zI 3000]) (st := [zI (2 * (24 + m)), zA 118]) (zdec eX10_loadLine 14 rfl) kM_X10_146 kV_X10_number ⟨by decide, rfl⟩ rfl rfl rfl rfl rfl (by omega) (r_number (by omega) (by omega) (by omega) V R) (fun r2 h2 ⟨e2, R2, f2⟩ => ?_)
  subst e2
  refine zS_iastore (zdec eX10_loadLine 15 rfl) ⟨by decide, rfl⟩ (by omega) (by omega) ?_
  refine zS_aload_n (zdec eX10_loadLine 16 rfl) rfl rfl ?_
  refine zS_getref (i := 64) (zdec eX10_loadLine 17 rfl) kF_X10_43 ⟨by decide, rfl⟩ rfl rfl rfl rfl rfl ?_
  refine zS_iload_n (zdec eX10_loadLine 18 rfl) rfl ?_
  refine zS_iconst (zdec eX10_loadLine 19 rfl) rfl ?_
  refine zS_iadd (zdec eX10_loadLine 20 rfl) ⟨by omega, by omega⟩ ?_
  refine zS_aload_n (zdec eX10_loadLine 21 rfl) rfl rfl ?_
  refine zS_ldc2_w (zdec eX10_loadLine 22 rfl) kj_X10_178 rfl ?_
  refine zS_iconst (zdec eX10_loadLine 23 rfl) rfl ?_
  refine zS_bipush (zdec eX10_loadLine 24 rfl) rfl rfl ?_
  refine zvMI (M' := mX10_number_) (As := [zJ 419, zI 0, zI 6]) (st := [zI ((2 * (24 + m)) + 1), zA 118]) (zdec eX10_loadLine 25 rfl) kM_X10_159 kV_X10_number_ ⟨by decide, rfl⟩ rfl rfl rfl rfl rfl (by omega) (r_number_ (i := 17) (by omega) (by omega) (by omega) (by omega) (by omega) wk_17 (V.tn B 1 3000) (R2.of (fun k j z => zset_n (by omega)))) (fun r3 h3 ⟨e3, R3, f3⟩ => ?_)
  subst e3
  refine zS_iastore (zdec eX10_loadLine 26 rfl) ⟨by decide, rfl⟩ (by omega) (by omega) ?_
  refine zS_aload_n (zdec eX10_loadLine 27 rfl) rfl rfl ?_
  refine zS_bipush (zdec eX10_loadLine 28 rfl) rfl rfl ?_
  refine zS_aload_n (zdec eX10_loadLine 29 rfl) rfl rfl ?_
  refine zS_bipush (zdec eX10_loadLine 30 rfl) rfl rfl ?_
  refine zvI (M' := mX10_hasRead) (As := [zI 8]) (st := [zI 8, zA 108]) (zdec eX10_loadLine 31 rfl) kM_X10_153 kV_X10_hasRead ⟨by decide, rfl⟩ rfl rfl rfl rfl rfl (by omega) (r_hasRead (x := 8) (v := m) (by omega) (by omega) ((zset_n (by omega)).trans ((f3 _ _ (by omega)).trans ((zset_n (by omega)).trans ((f2 _ _ (by omega)).trans hm))))) ?_
  refine zS_iconst (zdec eX10_loadLine 32 rfl) rfl ?_
  refine zS_iadd (zdec eX10_loadLine 33 rfl) ⟨by omega, by omega⟩ ?_
  refine zvMV (M' := mX10_tells) (As := [zI 8, zI (m + 1)]) (st := []) (zdec eX10_loadLine 34 rfl) kM_X10_174 kV_X10_tells ⟨by decide, rfl⟩ rfl rfl rfl rfl rfl (by omega) (r_tells (x := 8) (v := m + 1) (by omega) (by omega)) (fun h4 e4 => ?_)
  subst e4
  exact zlMV (zdec eX10_loadLine 35 rfl) rfl ⟨R3.of (fun k j z => (zset_n (by omega)).trans (zset_n (by omega))), (zset_n (by omega)).trans ((zset_n (by omega)).trans ((f3 _ _ (by omega)).trans (zset_s _ _ _ _))), (zset_n (by omega)).trans (zset_s _ _ _ _), zset_s _ _ _ _, ((((f2.mono (S' := (fun k j => sPR k j ∨ (k = 118 ∧ 2 * (24 + m) ≤ j ∧ j < 2 * (24 + m) + 2) ∨ (k = 115 ∧ j = 48))) (fun k j z => Or.inl z)).set (by omega)).tr f3 (fun k j z => z) (fun k j z => Or.inl z)).set (by omega)).set (by omega)⟩

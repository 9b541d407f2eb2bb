theorem twP_y {B : Int → Int} {L : Int} {P : Tp} {i : Int} (h : (decide (P 3 = 0) && isW B P i) = true) : twP B L P i = nxP B L P := by
  rw [Bool.and_eq_true] at h
  unfold twP; rw [if_pos h.2]
theorem nxP_rfu {B : Int → Int} {L : Int} {P : Tp} {c : Int} (h : 1 ≤ c) : nxP B L (rfu P c) = rfu P c := by
  by_cases q : P 3 = 0
  · exact nxP_f (by rw [rfu_3 q]; omega)
  · rw [rfu_f q]; exact nxP_f q
theorem twP_n {B : Int → Int} {L : Int} {P : Tp} {i : Int} (h : (decide (P 3 = 0) && isW B P i) = false) : twP B L P i = rfu P 1 := by
  unfold twP
  by_cases q : P 3 = 0
  · rw [decide_eq_true q, Bool.true_and] at h
    rw [if_neg (by rw [h]; decide), nxP_rfu (by omega)]
  · split
    · rw [nxP_f q, rfu_f q]
    · rw [nxP_rfu (by omega)]
theorem tnP_n {B : Int → Int} {L lo hi : Int} {P : Tp} (h : tnQ P lo hi 3 ≠ 0) : tnP B L P lo hi = tnQ P lo hi := nxP_f h
def nvR (P : Tp) (lo hi : Int) : Int := if tnQ P lo hi 3 = 0 then P 8 else lo
theorem tnQ_f {P : Tp} {lo hi : Int} (h : P 3 ≠ 0) : tnQ P lo hi = P := by
  unfold tnQ
  rw [rfu_f h, rfu_f h]
  split
  · rfl
  · split <;> rfl
theorem nvR_b {L : Int} {P : Tp} (V : TV L P) {lo hi : Int} (l0 : 0 ≤ lo) (l1 : lo ≤ 100000) : 0 ≤ nvR P lo hi ∧ nvR P lo hi ≤ 100000 := by
  have := V.2.2.1
  unfold nvR; split <;> omega
theorem r_asks {d : Nat} {h : zH} {B : Int → Int} {L : Int} {P : Tp} {c i : Int} (hd : 4 ≤ d) (i0 : 0 ≤ i) (i1 : i < 18) (hc : wkI i = c) (V : TV L P) (R : PR h B L P) : zMV d mX10_asks [zA 108, zJ c] h (fun h' => PR h' B L (twP B L P i) ∧ Fr sPR h h') := by
  refine zmet rfl rfl rfl ?_
  refine zS_aload_n (zdec eX10_asks 0 rfl) rfl rfl ?_
  refine zS_lload_n (zdec eX10_asks 1 rfl) rfl ?_
  refine zvMI (M' := mX10_takesWord) (As := [zJ c]) (st := []) (zdec eX10_asks 2 rfl) kM_X10_136 kV_X10_takesWord ⟨by decide, rfl⟩ rfl rfl rfl rfl rfl (by omega) (r_takesWord (by omega) i0 i1 hc V R) (fun r1 h1 ⟨e1, R1, f1⟩ => ?_)
  subst e1
  refine zS_if_ne (tgt := 13) (zdec eX10_asks 3 rfl) rfl (fun c1 => ?_) (fun c1 => ?_)
  · have z1 := b2i_n.mp c1
    exact zlMV (zdec eX10_asks 7 rfl) rfl ⟨by rw [twP_y z1]; rw [if_pos z1] at R1; exact R1, f1⟩
  · have z1 := b2i_0.mp c1
    refine zS_aload_n (zdec eX10_asks 4 rfl) rfl rfl ?_
    refine zS_iconst (zdec eX10_asks 5 rfl) rfl ?_
    refine zvMV (M' := mX10_errs) (As := [zI 1]) (st := []) (zdec eX10_asks 6 rfl) kM_X10_139 kV_X10_errs ⟨by decide, rfl⟩ rfl rfl rfl rfl rfl (by omega) (r_errs (by omega) R1) (fun h2 ⟨R2, f2⟩ => ?_)
    exact zlMV (zdec eX10_asks 7 rfl) rfl ⟨by rw [twP_n z1]; rw [if_neg (by rw [z1]; decide)] at R2; exact R2, f1.tr f2 (fun k j z => z) (fun k j z => by omega)⟩
theorem r_number {d : Nat} {h : zH} {B : Int → Int} {L : Int} {P : Tp} {lo hi : Int} (hd : 3 ≤ d) (l0 : 0 ≤ lo) (h1 : hi < 100000) (V : TV L P) (R : PR h B L P) : zMI d mX10_number [zA 108, zI lo, zI hi] h (fun r h' => r = nvR P lo hi ∧ PR h' B L (tnP B L P lo hi) ∧ Fr sPR h h') := by
  refine zmet rfl rfl rfl ?_
  refine zS_aload_n (zdec eX10_number 0 rfl) rfl rfl ?_
  refine zS_getfieldE (x := 12) (v := (P 3)) (zdec eX10_number 1 rfl) kF_X10_123 ⟨by decide, rfl⟩ rfl rfl rfl R.2.1 ?_
  refine zS_if_eq (tgt := 9) (zdec eX10_number 2 rfl) rfl (fun c1 => ?_) (fun c1 => ?_)
  · refine zS_aload_n (zdec eX10_number 5 rfl) rfl rfl ?_
    refine zS_getfieldE (x := 8) (v := (P 7)) (zdec eX10_number 6 rfl) kF_X10_112 ⟨by decide, rfl⟩ rfl rfl rfl (R.2.2.2 (by omega)).2.1 ?_
    refine zS_iconst (zdec eX10_number 7 rfl) rfl ?_
    refine zS_icmp_eq (tgt := 24) (zdec eX10_number 8 rfl) rfl (fun c2 => ?_) (fun c2 => ?_)
    · have vb := ((R.2.2.2 (by omega)).2.2.2.1 (by omega))
      refine zS_aload_n (zdec eX10_number 14 rfl) rfl rfl ?_
      refine zS_getfieldE (x := 10) (v := (h 108 10)) (zdec eX10_number 15 rfl) kF_X10_105 ⟨by decide, rfl⟩ rfl rfl rfl rfl ?_
      refine zS_i2l (zdec eX10_number 16 rfl) ?_
      refine zS_iload_n (zdec eX10_number 17 rfl) rfl ?_
      refine zS_i2l (zdec eX10_number 18 rfl) ?_
      refine zS_iload_n (zdec eX10_number 19 rfl) rfl ?_
      refine zS_i2l (zdec eX10_number 20 rfl) ?_
      refine zsI (M' := mX10_in) (As := [zJ (h 108 10), zJ lo, zJ hi]) (st := []) (zdec eX10_number 21 rfl) kM_X10_76 kS_X10_in rfl rfl rfl (by omega) r_in ?_
      refine zS_if_ne (tgt := 46) (zdec eX10_number 22 rfl) rfl (fun c3 => ?_) (fun c3 => ?_)
      · have z3 := d2i_n.mp c3
        have p3 : P 3 = 0 := by omega
        refine zS_aload_n (zdec eX10_number 28 rfl) rfl rfl ?_
        refine zS_getfieldE (x := 10) (v := (h 108 10)) (zdec eX10_number 29 rfl) kF_X10_105 ⟨by decide, rfl⟩ rfl rfl rfl rfl ?_
        refine zS_istore_n (zdec eX10_number 30 rfl) rfl ?_
        refine zS_aload_n (zdec eX10_number 31 rfl) rfl rfl ?_
        refine zvMV (M' := mX10_next) (As := []) (st := []) (zdec eX10_number 32 rfl) kM_X10_133 kV_X10_next ⟨by decide, rfl⟩ rfl rfl rfl rfl rfl (by omega) (r_nx (by omega) V p3 R) (fun h2 ⟨R2, f2⟩ => ?_)
        refine zS_iload_n (zdec eX10_number 33 rfl) rfl ?_
        have q : tnQ P lo hi = P := by unfold tnQ; rw [if_neg (by omega), if_neg (by omega)]
        exact zlMI (zdec eX10_number 34 rfl) rfl ⟨by unfold nvR; rw [q, if_pos p3]; omega, by unfold tnP; rw [q]; exact R2, f2⟩
      · have z3 := d2i_0.mp c3
        refine zS_aload_n (zdec eX10_number 23 rfl) rfl rfl ?_
        refine zS_iconst (zdec eX10_number 24 rfl) rfl ?_
        refine zvMV (M' := mX10_errs) (As := [zI 2]) (st := []) (zdec eX10_number 25 rfl) kM_X10_139 kV_X10_errs ⟨by decide, rfl⟩ rfl rfl rfl rfl rfl (by omega) (r_errs (c := 2) (by omega) R) (fun h2 ⟨R2, f2⟩ => ?_)
        refine zS_iload_n (zdec eX10_number 26 rfl) rfl ?_
        have q : tnQ P lo hi = rfu P 2 := by unfold tnQ; rw [if_neg (by omega), if_pos (by omega)]
        have q3 : tnQ P lo hi 3 ≠ 0 := by rw [q, rfu_3 (by omega)]; decide
        exact zlMI (zdec eX10_number 27 rfl) rfl ⟨by unfold nvR; rw [if_neg q3], by rw [tnP_n q3, q]; exact R2, f2.mono (fun k j z => by omega)⟩
    · refine zS_aload_n (zdec eX10_number 9 rfl) rfl rfl ?_
      refine zS_iconst (zdec eX10_number 10 rfl) rfl ?_
      refine zvMV (M' := mX10_errs) (As := [zI 1]) (st := []) (zdec eX10_number 11 rfl) kM_X10_139 kV_X10_errs ⟨by decide, rfl⟩ rfl rfl rfl rfl rfl (by omega) (r_errs (c := 1) (by omega) R) (fun h2 ⟨R2, f2⟩ => ?_)
      refine zS_iload_n (zdec eX10_number 12 rfl) rfl ?_
      have q : tnQ P lo hi = rfu P 1 := by unfold tnQ; rw [if_pos (by omega)]
      have q3 : tnQ P lo hi 3 ≠ 0 := by rw [q, rfu_3 (by omega)]; decide
      exact zlMI (zdec eX10_number 13 rfl) rfl ⟨by unfold nvR; rw [if_neg q3], by rw [tnP_n q3, q]; exact R2, f2.mono (fun k j z => by omega)⟩
  · refine zS_iload_n (zdec eX10_number 3 rfl) rfl ?_
    exact zlMI (zdec eX10_number 4 rfl) rfl ⟨by unfold nvR; rw [tnQ_f (by omega), if_neg (by omega)], by unfold tnP; rw [tnQ_f (by omega), nxP_f (by omega)]; exact R, Fr.rf⟩
theorem r_number_ {d : Nat} {h : zH} {B : Int → Int} {L : Int} {P : Tp} {c i lo hi : Int} (hd : 6 ≤ d) (l0 : 0 ≤ lo) (h1 : hi < 100000) (i0 : 0 ≤ i) (i1 : i < 18) (hc : wkI i = c) (V : TV L P) (R : PR h B L P) : zMI d mX10_number_ [zA 108, zJ c, zI lo, zI hi] h (fun r h' => r = nvR (twP B L P i) lo hi ∧ PR h' B L (tfP B L P i lo hi) ∧ Fr sPR h h') := by
  refine zmet rfl rfl rfl ?_
  refine zS_aload_n (zdec eX10_number_ 0 rfl) rfl rfl ?_
  refine zS_lload_n (zdec eX10_number_ 1 rfl) rfl ?_
  refine zvMV (M' := mX10_asks) (As := [zJ c]) (st := []) (zdec eX10_number_ 2 rfl) kM_X10_142 kV_X10_asks ⟨by decide, rfl⟩ rfl rfl rfl rfl rfl (by omega) (r_asks (by omega) i0 i1 hc V R) (fun h2 ⟨R2, f2⟩ => ?_)
  refine zS_aload_n (zdec eX10_number_ 3 rfl) rfl rfl ?_
  refine zS_iload_n (zdec eX10_number_ 4 rfl) rfl ?_
  refine zS_iload (zdec eX10_number_ 5 rfl) rfl ?_
  refine zvMI (M' := mX10_number) (As := [zI lo, zI hi]) (st := []) (zdec eX10_number_ 6 rfl) kM_X10_146 kV_X10_number ⟨by decide, rfl⟩ rfl rfl rfl rfl rfl (by omega) (r_number (by omega) l0 h1 (V.tw B i) R2) (fun r3 h3 ⟨e3, R3, f3⟩ => ?_)
  subst e3
  exact zlMI (zdec eX10_number_ 7 rfl) rfl ⟨rfl, R3, f2.tr f3 (fun k j z => z) (fun k j z => z)⟩

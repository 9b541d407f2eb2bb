abbrev mL (nm : String) : zM := (⟨RL, nm, "([I)Z"⟩, code, 4, some .boolean)
abbrev zrl (d c s : Nat) : zB := (d, c, s, 600000, 7302250)
abbrev zOK : Option zV → zT → zH → Prop := fun rv _ _ => rv = some (zI 1)
theorem q_image_o {d : Nat} {h : zH} {x : Int} (hd : 200 ≤ d) (hx : x < 0 ∨ 3 ≤ x) : zMI d mX10_image [zA 108, zI x] h (fun r h' => r = -2 ∧ Fr (fun k j => k = 108 ∧ j = 0) h h') := by
  refine zmet rfl rfl rfl ?_
  refine zS_aload_n (zdec eX10_image 0 rfl) rfl rfl ?_
  refine zS_iconst (zdec eX10_image 1 rfl) rfl ?_
  refine zS_putfield (x := 0) (zdec eX10_image 2 rfl) kF_X10_71 (Or.inl kf10_0) ⟨by decide, rfl⟩ rfl rfl rfl (Or.inl (fun q => by cases q)) ?_
  have f0 : Fr (fun k j => k = 108 ∧ j = 0) h (zset h 108 0 0) := Fr.rf.set ⟨rfl, rfl⟩
  refine zS_iload_n (zdec eX10_image 3 rfl) rfl ?_
  refine zS_i2l (zdec eX10_image 4 rfl) ?_
  refine zS_lconst (zdec eX10_image 5 rfl) ?_
  refine zS_ldc2_w (zdec eX10_image 6 rfl) kj_X10_486 rfl ?_
  refine zsI (M' := mX10_in) (As := [zJ x, zJ 0, zJ 2]) (st := []) (zdec eX10_image 7 rfl) kM_X10_76 kS_X10_in rfl rfl rfl (by omega) r_in ?_
  refine zS_if_ne (tgt := 20) (zdec eX10_image 8 rfl) rfl (fun c1 => ?_) (fun c1 => ?_)
  · have z1 := d2i_n.mp c1
    omega
  · refine zS_bipush (zdec eX10_image 9 rfl) rfl rfl ?_
    exact zlMI (zdec eX10_image 10 rfl) rfl ⟨rfl, f0⟩
theorem cs_0 {nm : String} {d c s : Nat} {h : zH} {xs : Int → Int} {N i : Int} {D : Dk} {I : Int → Dk} {K : Int → Int} {W : Rw} {B : Int → Int} {L F Q : Int} (hd : 300 ≤ d) (i0 : 0 ≤ i) (i1 : i + 6 ≤ N) (U : SU h xs N D I K W B L F Q) (ih : ∀ h' D' I' K' W' B' L' F' Q', SU h' xs N D' I' K' W' B' L' F' Q' → zS (mL nm) (zrl d c s) 2083 [(6, 0), zA 0, zA 108, zI i] [] TT h' zOK) (hr : (Nat.ble c 600000 && Nat.ble s 7302250) = true) : zS (mL nm) (zrl d c s) 336 [(6, 0), zA 0, zA 108, zI i] [] TT h zOK := by
  have iN := U.1.1.2
  refine zS_aload_n (zdec eL0 22 rfl) rfl rfl ?_
  refine zS_aload_n (zdec eL0 23 rfl) rfl rfl ?_
  refine zS_iload_n (zdec eL0 24 rfl) rfl ?_
  refine zS_iconst (zdec eL0 25 rfl) rfl ?_
  refine zS_iadd (zdec eL0 26 rfl) ⟨by omega, by omega⟩ ?_
  refine zS_scr (v := (xs (i + 1))) (zdec eL0 27 rfl) U.1 (by omega) (by omega) rfl ?_
  refine zS_aload_n (zdec eL0 28 rfl) rfl rfl ?_
  refine zS_iload_n (zdec eL0 29 rfl) rfl ?_
  refine zS_iconst (zdec eL0 30 rfl) rfl ?_
  refine zS_iadd (zdec eL0 31 rfl) ⟨by omega, by omega⟩ ?_
  refine zS_scr (v := (xs (i + 2))) (zdec eL0 32 rfl) U.1 (by omega) (by omega) rfl ?_
  refine zS_aload_n (zdec eL0 33 rfl) rfl rfl ?_
  refine zS_iload_n (zdec eL0 34 rfl) rfl ?_
  refine zS_iconst (zdec eL0 35 rfl) rfl ?_
  refine zS_iadd (zdec eL0 36 rfl) ⟨by omega, by omega⟩ ?_
  refine zS_scr (v := (xs (i + 3))) (zdec eL0 37 rfl) U.1 (by omega) (by omega) rfl ?_
  refine zS_aload_n (zdec eL0 38 rfl) rfl rfl ?_
  refine zS_iload_n (zdec eL0 39 rfl) rfl ?_
  refine zS_iconst (zdec eL0 40 rfl) rfl ?_
  refine zS_iadd (zdec eL0 41 rfl) ⟨by omega, by omega⟩ ?_
  refine zS_scr (v := (xs (i + 4))) (zdec eL0 42 rfl) U.1 (by omega) (by omega) rfl ?_
  refine zS_aload_n (zdec eL0 43 rfl) rfl rfl ?_
  refine zS_iload_n (zdec eL0 44 rfl) rfl ?_
  refine zS_iconst (zdec eL0 45 rfl) rfl ?_
  refine zS_iadd (zdec eL0 46 rfl) ⟨by omega, by omega⟩ ?_
  refine zS_scr (v := (xs (i + 5))) (zdec eL0 47 rfl) U.1 (by omega) (by omega) rfl ?_
  refine zvMIr (M' := mX9_feed) (As := [zI (xs (i + 1)), zI (xs (i + 2)), zI (xs (i + 3)), zI (xs (i + 4)), zI (xs (i + 5))]) (st := []) hr (zdec eL0 48 rfl) kM_L_13 kV_X9_feed ⟨by decide, rfl⟩ rfl rfl rfl rfl rfl (by show 1 ≤ d; omega) (p_feed (by show _ ≤ d - 1; omega) U.2.1.2.2.2 U.2.2.2.2.2.2) (fun x2 h2 q2 => ?_)
  obtain ⟨rfl, g2, f2⟩ := q2
  have S2 := U.1.fr f2 (fun k j z => by omega)
  have C2 := U.2.1.t f2 (fun k j z => by omega) g2
  have R2 := U.2.2.1.c f2 (fun k j z => by omega)
  refine zS_aload_n (zdec eL0 49 rfl) rfl rfl ?_
  refine zS_aload_n (zdec eL0 50 rfl) rfl rfl ?_
  refine zS_iload_n (zdec eL0 51 rfl) rfl ?_
  refine zS_iconst (zdec eL0 52 rfl) rfl ?_
  refine zS_iadd (zdec eL0 53 rfl) ⟨by omega, by omega⟩ ?_
  refine zS_scr (v := (xs (i + 1))) (zdec eL0 54 rfl) S2 (by omega) (by omega) rfl ?_
  refine zS_aload_n (zdec eL0 55 rfl) rfl rfl ?_
  refine zS_iload_n (zdec eL0 56 rfl) rfl ?_
  refine zS_iconst (zdec eL0 57 rfl) rfl ?_
  refine zS_iadd (zdec eL0 58 rfl) ⟨by omega, by omega⟩ ?_
  refine zS_scr (v := (xs (i + 2))) (zdec eL0 59 rfl) S2 (by omega) (by omega) rfl ?_
  refine zS_aload_n (zdec eL0 60 rfl) rfl rfl ?_
  refine zS_iload_n (zdec eL0 61 rfl) rfl ?_
  refine zS_iconst (zdec eL0 62 rfl) rfl ?_
  refine zS_iadd (zdec eL0 63 rfl) ⟨by omega, by omega⟩ ?_
  refine zS_scr (v := (xs (i + 3))) (zdec eL0 64 rfl) S2 (by omega) (by omega) rfl ?_
  refine zS_aload_n (zdec eL0 65 rfl) rfl rfl ?_
  refine zS_iload_n (zdec eL0 66 rfl) rfl ?_
  refine zS_iconst (zdec eL0 67 rfl) rfl ?_
  refine zS_iadd (zdec eL0 68 rfl) ⟨by omega, by omega⟩ ?_
  refine zS_scr (v := (xs (i + 4))) (zdec eL0 69 rfl) S2 (by omega) (by omega) rfl ?_
  refine zS_aload_n (zdec eL0 70 rfl) rfl rfl ?_
  refine zS_iload_n (zdec eL0 71 rfl) rfl ?_
  refine zS_iconst (zdec eL0 72 rfl) rfl ?_
  refine zS_iadd (zdec eL0 73 rfl) ⟨by omega, by omega⟩ ?_
  refine zS_scr (v := (xs (i + 5))) (zdec eL0 74 rfl) S2 (by omega) (by omega) rfl ?_
  refine zvMIr (M' := mX10_feed) (As := [zI (xs (i + 1)), zI (xs (i + 2)), zI (xs (i + 3)), zI (xs (i + 4)), zI (xs (i + 5))]) (st := [zI (a_feed L)]) hr (zdec eL0 75 rfl) kM_L_17 kV_X10_feed ⟨by decide, rfl⟩ rfl rfl rfl rfl rfl (by show 1 ≤ d; omega) (q_feed (by show _ ≤ d - 1; omega) R2.2.2.2 U.2.2.2.2.2.2) (fun x3 h3 q3 => ?_)
  obtain ⟨rfl, g3, f3⟩ := q3
  have S3 := S2.fr f3 (fun k j z => by omega)
  have C3 := C2.c f3 (fun k j z => by omega)
  have R3 := R2.t f3 (fun k j z => by omega) g3
  refine zS_icmp_eq (tgt := 2083) (zdec eL0 76 rfl) rfl (fun _ => ?_) (fun c => absurd rfl c)
  exact ih _ _ _ _ _ _ _ _ _ ⟨S3, C3, R3, ⟨U.2.2.2.1, U.2.2.2.2.1, U.2.2.2.2.2.1, n_feedL_V U.2.2.2.2.2.2⟩⟩
theorem cs_1 {nm : String} {d c s : Nat} {h : zH} {xs : Int → Int} {N i : Int} {D : Dk} {I : Int → Dk} {K : Int → Int} {W : Rw} {B : Int → Int} {L F Q : Int} (hd : 300 ≤ d) (i0 : 0 ≤ i) (i1 : i + 6 ≤ N) (U : SU h xs N D I K W B L F Q) (ih : ∀ h' D' I' K' W' B' L' F' Q', SU h' xs N D' I' K' W' B' L' F' Q' → zS (mL nm) (zrl d c s) 2083 [(6, 0), zA 0, zA 108, zI i] [] TT h' zOK) (hr : (Nat.ble c 600000 && Nat.ble s 7302250) = true) : zS (mL nm) (zrl d c s) 399 [(6, 0), zA 0, zA 108, zI i] [] TT h zOK := by
  have iN := U.1.1.2
  refine zS_aload_n (zdec eL0 79 rfl) rfl rfl ?_
  refine zS_aload_n (zdec eL0 80 rfl) rfl rfl ?_
  refine zS_iload_n (zdec eL0 81 rfl) rfl ?_
  refine zS_iconst (zdec eL0 82 rfl) rfl ?_
  refine zS_iadd (zdec eL0 83 rfl) ⟨by omega, by omega⟩ ?_
  refine zS_scr (v := (xs (i + 1))) (zdec eL0 84 rfl) U.1 (by omega) (by omega) rfl ?_
  refine zvMIr (M' := mX9_end) (As := [zI (xs (i + 1))]) (st := []) hr (zdec eL0 85 rfl) kM_L_18 kV_X9_end ⟨by decide, rfl⟩ rfl rfl rfl rfl rfl (by show 1 ≤ d; omega) (p_end U.2.1.2.2.2) (fun x2 h2 q2 => ?_)
  obtain ⟨rfl, g2, f2⟩ := q2
  have S2 := U.1.fr f2 (fun k j z => by omega)
  have C2 := U.2.1.t f2 (fun k j z => by omega) g2
  have R2 := U.2.2.1.c f2 (fun k j z => by omega)
  refine zS_aload_n (zdec eL0 86 rfl) rfl rfl ?_
  refine zS_aload_n (zdec eL0 87 rfl) rfl rfl ?_
  refine zS_iload_n (zdec eL0 88 rfl) rfl ?_
  refine zS_iconst (zdec eL0 89 rfl) rfl ?_
  refine zS_iadd (zdec eL0 90 rfl) ⟨by omega, by omega⟩ ?_
  refine zS_scr (v := (xs (i + 1))) (zdec eL0 91 rfl) S2 (by omega) (by omega) rfl ?_
  refine zvMIr (M' := mX10_end) (As := [zI (xs (i + 1))]) (st := [zI (a_end L (xs (i + 1)))]) hr (zdec eL0 92 rfl) kM_L_22 kV_X10_end ⟨by decide, rfl⟩ rfl rfl rfl rfl rfl (by show 1 ≤ d; omega) (q_end (by show _ ≤ d - 1; omega) R2.2.2.2) (fun x3 h3 q3 => ?_)
  obtain ⟨rfl, g3, f3⟩ := q3
  have S3 := S2.fr f3 (fun k j z => by omega)
  have C3 := C2.c f3 (fun k j z => by omega)
  have R3 := R2.t f3 (fun k j z => by omega) g3
  refine zS_icmp_eq (tgt := 2083) (zdec eL0 93 rfl) rfl (fun _ => ?_) (fun c => absurd rfl c)
  exact ih _ _ _ _ _ _ _ _ _ ⟨S3, C3, R3, ⟨U.2.2.2.1, U.2.2.2.2.1, U.2.2.2.2.2.1, n_end_V U.2.2.2.2.2.2 (xs (i + 1))⟩⟩
theorem cs_2 {nm : String} {d c s : Nat} {h : zH} {xs : Int → Int} {N i : Int} {D : Dk} {I : Int → Dk} {K : Int → Int} {W : Rw} {B : Int → Int} {L F Q : Int} (hd : 300 ≤ d) (i0 : 0 ≤ i) (i1 : i + 6 ≤ N) (U : SU h xs N D I K W B L F Q) (ih : ∀ h' D' I' K' W' B' L' F' Q', SU h' xs N D' I' K' W' B' L' F' Q' → zS (mL nm) (zrl d c s) 2083 [(6, 0), zA 0, zA 108, zI i] [] TT h' zOK) (hr : (Nat.ble c 600000 && Nat.ble s 7302250) = true) : zS (mL nm) (zrl d c s) 422 [(6, 0), zA 0, zA 108, zI i] [] TT h zOK := by
  have iN := U.1.1.2
  refine zS_aload_n (zdec eL0 96 rfl) rfl rfl ?_
  refine zvMIr (M' := mX9_desk) (As := []) (st := []) hr (zdec eL0 97 rfl) kM_L_23 kV_X9_desk ⟨by decide, rfl⟩ rfl rfl rfl rfl rfl (by show 1 ≤ d; omega) (p_desk (by show _ ≤ d - 1; omega) U.2.2.2.2.2.2 U.2.1.2.2.2 U.2.1.1) (fun x2 h2 q2 => ?_)
  obtain ⟨rfl, e2, g2, f2⟩ := q2
  have S2 := U.1.fr f2 (fun k j z => by omega)
  have C2 := U.2.1.d f2 e2 g2
  have R2 := U.2.2.1.c f2 (fun k j z => by omega)
  refine zS_aload_n (zdec eL0 98 rfl) rfl rfl ?_
  refine zvMIr (M' := mX10_desk) (As := []) (st := [zI (a_desk B L)]) hr (zdec eL0 99 rfl) kM_L_27 kV_X10_desk ⟨by decide, rfl⟩ rfl rfl rfl rfl rfl (by show 1 ≤ d; omega) (q_desk (by show _ ≤ d - 1; omega) U.2.2.2.2.2.2 R2.2.2.2 R2.1) (fun x3 h3 q3 => ?_)
  obtain ⟨rfl, e3, g3, f3⟩ := q3
  have S3 := S2.fr f3 (fun k j z => by unfold sX blk at z; omega)
  have C3 := C2.c f3 (fun k j z => by unfold sX blk at z; omega)
  have R3 := R2.d f3 e3 g3
  refine zS_icmp_eq (tgt := 2083) (zdec eL0 100 rfl) rfl (fun _ => ?_) (fun c => absurd rfl c)
  exact ih _ _ _ _ _ _ _ _ _ ⟨S3, C3, R3, ⟨n_desk_V U.2.2.2.1 B L, U.2.2.2.2.1, U.2.2.2.2.2.1, by decide, by decide⟩⟩
theorem cs_3 {nm : String} {d c s : Nat} {h : zH} {xs : Int → Int} {N i : Int} {D : Dk} {I : Int → Dk} {K : Int → Int} {W : Rw} {B : Int → Int} {L F Q : Int} (hd : 300 ≤ d) (i0 : 0 ≤ i) (i1 : i + 6 ≤ N) (U : SU h xs N D I K W B L F Q) (ih : ∀ h' D' I' K' W' B' L' F' Q', SU h' xs N D' I' K' W' B' L' F' Q' → zS (mL nm) (zrl d c s) 2083 [(6, 0), zA 0, zA 108, zI i] [] TT h' zOK) (hr : (Nat.ble c 600000 && Nat.ble s 7302250) = true) : zS (mL nm) (zrl d c s) 435 [(6, 0), zA 0, zA 108, zI i] [] TT h zOK := by
  have iN := U.1.1.2
  refine zS_aload_n (zdec eL0 103 rfl) rfl rfl ?_
  refine zS_aload_n (zdec eL0 104 rfl) rfl rfl ?_
  refine zS_iload_n (zdec eL0 105 rfl) rfl ?_
  refine zS_iconst (zdec eL0 106 rfl) rfl ?_
  refine zS_iadd (zdec eL0 107 rfl) ⟨by omega, by omega⟩ ?_
  refine zS_scr (v := (xs (i + 1))) (zdec eL0 108 rfl) U.1 (by omega) (by omega) rfl ?_
  refine zvIr (M' := mX9_fault) (As := [zI (xs (i + 1))]) (st := []) hr (zdec eL0 109 rfl) kM_L_28 kV_X9_fault ⟨by decide, rfl⟩ rfl rfl rfl rfl rfl (by show 1 ≤ d; omega) (p_fault U.2.1.2.2.2) ?_
  refine zS_aload_n (zdec eL0 110 rfl) rfl rfl ?_
  refine zS_aload_n (zdec eL0 111 rfl) rfl rfl ?_
  refine zS_iload_n (zdec eL0 112 rfl) rfl ?_
  refine zS_iconst (zdec eL0 113 rfl) rfl ?_
  refine zS_iadd (zdec eL0 114 rfl) ⟨by omega, by omega⟩ ?_
  refine zS_scr (v := (xs (i + 1))) (zdec eL0 115 rfl) U.1 (by omega) (by omega) rfl ?_
  refine zvMIr (M' := mX10_fault) (As := [zI (xs (i + 1))]) (st := [zI (a_fault F Q (xs (i + 1)))]) hr (zdec eL0 116 rfl) kM_L_31 kV_X10_fault ⟨by decide, rfl⟩ rfl rfl rfl rfl rfl (by show 1 ≤ d; omega) (q_fault U.2.2.1.2.2.2) (fun x3 h3 q3 => ?_)
  obtain ⟨rfl, f3⟩ := q3
  have S2 := U.1
  have C2 := U.2.1
  have R2 := U.2.2.1
  have S3 := S2.fr f3 (fun k j z => by omega)
  have C3 := C2.c f3 (fun k j z => by omega)
  have R3 := R2.o f3
  refine zS_icmp_eq (tgt := 2083) (zdec eL0 117 rfl) rfl (fun _ => ?_) (fun c => absurd rfl c)
  exact ih _ _ _ _ _ _ _ _ _ ⟨S3, C3, R3, U.2.2.2⟩
theorem cs_4 {nm : String} {d c s : Nat} {h : zH} {xs : Int → Int} {N i : Int} {D : Dk} {I : Int → Dk} {K : Int → Int} {W : Rw} {B : Int → Int} {L F Q : Int} (hd : 300 ≤ d) (i0 : 0 ≤ i) (i1 : i + 6 ≤ N) (U : SU h xs N D I K W B L F Q) (ih : ∀ h' D' I' K' W' B' L' F' Q', SU h' xs N D' I' K' W' B' L' F' Q' → zS (mL nm) (zrl d c s) 2083 [(6, 0), zA 0, zA 108, zI i] [] TT h' zOK) (hr : (Nat.ble c 600000 && Nat.ble s 7302250) = true) : zS (mL nm) (zrl d c s) 458 [(6, 0), zA 0, zA 108, zI i] [] TT h zOK := by
  have iN := U.1.1.2
  refine zS_aload_n (zdec eL0 120 rfl) rfl rfl ?_
  refine zS_aload_n (zdec eL0 121 rfl) rfl rfl ?_
  refine zS_iload_n (zdec eL0 122 rfl) rfl ?_
  refine zS_iconst (zdec eL0 123 rfl) rfl ?_
  refine zS_iadd (zdec eL0 124 rfl) ⟨by omega, by omega⟩ ?_
  refine zS_scr (v := (xs (i + 1))) (zdec eL0 125 rfl) U.1 (by omega) (by omega) rfl ?_
  refine zvMIr (M' := mX9_rank) (As := [zI (xs (i + 1))]) (st := []) hr (zdec eL0 126 rfl) kM_L_32 kV_X9_rank ⟨by decide, rfl⟩ rfl rfl rfl rfl rfl (by show 1 ≤ d; omega) (p_rank (by show _ ≤ d - 1; omega) U.2.2.2.1 U.2.1.1) (fun x2 h2 q2 => ?_)
  obtain ⟨rfl, f2⟩ := q2
  have S2 := U.1.fr f2 (fun k j z => by omega)
  have C2 := U.2.1.q f2
  have R2 := U.2.2.1.c f2 (fun k j z => by omega)
  refine zS_aload_n (zdec eL0 127 rfl) rfl rfl ?_
  refine zS_aload_n (zdec eL0 128 rfl) rfl rfl ?_
  refine zS_iload_n (zdec eL0 129 rfl) rfl ?_
  refine zS_iconst (zdec eL0 130 rfl) rfl ?_
  refine zS_iadd (zdec eL0 131 rfl) ⟨by omega, by omega⟩ ?_
  refine zS_scr (v := (xs (i + 1))) (zdec eL0 132 rfl) S2 (by omega) (by omega) rfl ?_
  refine zvMIr (M' := mX10_rank) (As := [zI (xs (i + 1))]) (st := [zI (a_rank D (xs (i + 1)))]) hr (zdec eL0 133 rfl) kM_L_35 kV_X10_rank ⟨by decide, rfl⟩ rfl rfl rfl rfl rfl (by show 1 ≤ d; omega) (q_rank (by show _ ≤ d - 1; omega) U.2.2.2.1 R2.1) (fun x3 h3 q3 => ?_)
  obtain ⟨rfl, f3⟩ := q3
  have S3 := S2.fr f3 (fun k j z => by omega)
  have C3 := C2.c f3 (fun k j z => by omega)
  have R3 := R2.q f3
  refine zS_icmp_eq (tgt := 2083) (zdec eL0 134 rfl) rfl (fun _ => ?_) (fun c => absurd rfl c)
  exact ih _ _ _ _ _ _ _ _ _ ⟨S3, C3, R3, U.2.2.2⟩
theorem cs_5 {nm : String} {d c s : Nat} {h : zH} {xs : Int → Int} {N i : Int} {D : Dk} {I : Int → Dk} {K : Int → Int} {W : Rw} {B : Int → Int} {L F Q : Int} (hd : 300 ≤ d) (i0 : 0 ≤ i) (i1 : i + 6 ≤ N) (U : SU h xs N D I K W B L F Q) (ih : ∀ h' D' I' K' W' B' L' F' Q', SU h' xs N D' I' K' W' B' L' F' Q' → zS (mL nm) (zrl d c s) 2083 [(6, 0), zA 0, zA 108, zI i] [] TT h' zOK) (hr : (Nat.ble c 600000 && Nat.ble s 7302250) = true) : zS (mL nm) (zrl d c s) 481 [(6, 0), zA 0, zA 108, zI i] [] TT h zOK := by
  have iN := U.1.1.2
  refine zS_aload_n (zdec eL0 137 rfl) rfl rfl ?_
  refine zS_aload_n (zdec eL0 138 rfl) rfl rfl ?_
  refine zS_iload_n (zdec eL0 139 rfl) rfl ?_
  refine zS_iconst (zdec eL0 140 rfl) rfl ?_
  refine zS_iadd (zdec eL0 141 rfl) ⟨by omega, by omega⟩ ?_
  refine zS_scr (v := (xs (i + 1))) (zdec eL0 142 rfl) U.1 (by omega) (by omega) rfl ?_
  refine zS_aload_n (zdec eL0 143 rfl) rfl rfl ?_
  refine zS_iload_n (zdec eL0 144 rfl) rfl ?_
  refine zS_iconst (zdec eL0 145 rfl) rfl ?_
  refine zS_iadd (zdec eL0 146 rfl) ⟨by omega, by omega⟩ ?_
  refine zS_scr (v := (xs (i + 2))) (zdec eL0 147 rfl) U.1 (by omega) (by omega) rfl ?_
  refine zvMIr (M' := mX9_bill) (As := [zI (xs (i + 1)), zI (xs (i + 2))]) (st := []) hr (zdec eL0 148 rfl) kM_L_36 kV_X9_bill ⟨by decide, rfl⟩ rfl rfl rfl rfl rfl (by show 1 ≤ d; omega) (p_bill (by show _ ≤ d - 1; omega) U.2.2.2.1 U.2.1.1) (fun x2 h2 q2 => ?_)
  obtain ⟨rfl, f2⟩ := q2
  have S2 := U.1.fr f2 (fun k j z => by omega)
  have C2 := U.2.1.q f2
  have R2 := U.2.2.1.c f2 (fun k j z => by omega)
  refine zS_aload_n (zdec eL0 149 rfl) rfl rfl ?_
  refine zS_aload_n (zdec eL1 0 rfl) rfl rfl ?_
  refine zS_iload_n (zdec eL1 1 rfl) rfl ?_
  refine zS_iconst (zdec eL1 2 rfl) rfl ?_
  refine zS_iadd (zdec eL1 3 rfl) ⟨by omega, by omega⟩ ?_
  refine zS_scr (v := (xs (i + 1))) (zdec eL1 4 rfl) S2 (by omega) (by omega) rfl ?_
  refine zS_aload_n (zdec eL1 5 rfl) rfl rfl ?_
  refine zS_iload_n (zdec eL1 6 rfl) rfl ?_
  refine zS_iconst (zdec eL1 7 rfl) rfl ?_
  refine zS_iadd (zdec eL1 8 rfl) ⟨by omega, by omega⟩ ?_
  refine zS_scr (v := (xs (i + 2))) (zdec eL1 9 rfl) S2 (by omega) (by omega) rfl ?_
  refine zvMIr (M' := mX10_bill) (As := [zI (xs (i + 1)), zI (xs (i + 2))]) (st := [zI (a_bill D (xs (i + 1)) (xs (i + 2)))]) hr (zdec eL1 10 rfl) kM_L_40 kV_X10_bill ⟨by decide, rfl⟩ rfl rfl rfl rfl rfl (by show 1 ≤ d; omega) (q_bill (by show _ ≤ d - 1; omega) U.2.2.2.1 R2.1) (fun x3 h3 q3 => ?_)
  obtain ⟨rfl, f3⟩ := q3
  have S3 := S2.fr f3 (fun k j z => by omega)
  have C3 := C2.c f3 (fun k j z => by omega)
  have R3 := R2.q f3
  refine zS_icmp_eq (tgt := 2083) (zdec eL1 11 rfl) rfl (fun _ => ?_) (fun c => absurd rfl c)
  exact ih _ _ _ _ _ _ _ _ _ ⟨S3, C3, R3, U.2.2.2⟩
theorem cs_6 {nm : String} {d c s : Nat} {h : zH} {xs : Int → Int} {N i : Int} {D : Dk} {I : Int → Dk} {K : Int → Int} {W : Rw} {B : Int → Int} {L F Q : Int} (hd : 300 ≤ d) (i0 : 0 ≤ i) (i1 : i + 6 ≤ N) (U : SU h xs N D I K W B L F Q) (ih : ∀ h' D' I' K' W' B' L' F' Q', SU h' xs N D' I' K' W' B' L' F' Q' → zS (mL nm) (zrl d c s) 2083 [(6, 0), zA 0, zA 108, zI i] [] TT h' zOK) (hr : (Nat.ble c 600000 && Nat.ble s 7302250) = true) : zS (mL nm) (zrl d c s) 514 [(6, 0), zA 0, zA 108, zI i] [] TT h zOK := by
  have iN := U.1.1.2
  refine zS_aload_n (zdec eL1 14 rfl) rfl rfl ?_
  refine zS_aload_n (zdec eL1 15 rfl) rfl rfl ?_
  refine zS_iload_n (zdec eL1 16 rfl) rfl ?_
  refine zS_iconst (zdec eL1 17 rfl) rfl ?_
  refine zS_iadd (zdec eL1 18 rfl) ⟨by omega, by omega⟩ ?_
  refine zS_scr (v := (xs (i + 1))) (zdec eL1 19 rfl) U.1 (by omega) (by omega) rfl ?_
  refine zvMIr (M' := mX9_net) (As := [zI (xs (i + 1))]) (st := []) hr (zdec eL1 20 rfl) kM_L_41 kV_X9_net ⟨by decide, rfl⟩ rfl rfl rfl rfl rfl (by show 1 ≤ d; omega) (p_net (by show _ ≤ d - 1; omega) U.2.2.2.1 U.2.1.1) (fun x2 h2 q2 => ?_)
  obtain ⟨rfl, f2⟩ := q2
  have S2 := U.1.fr f2 (fun k j z => by omega)
  have C2 := U.2.1.q f2
  have R2 := U.2.2.1.c f2 (fun k j z => by omega)
  refine zS_aload_n (zdec eL1 21 rfl) rfl rfl ?_
  refine zS_aload_n (zdec eL1 22 rfl) rfl rfl ?_
  refine zS_iload_n (zdec eL1 23 rfl) rfl ?_
  refine zS_iconst (zdec eL1 24 rfl) rfl ?_
  refine zS_iadd (zdec eL1 25 rfl) ⟨by omega, by omega⟩ ?_
  refine zS_scr (v := (xs (i + 1))) (zdec eL1 26 rfl) S2 (by omega) (by omega) rfl ?_
  refine zvMIr (M' := mX10_net) (As := [zI (xs (i + 1))]) (st := [zI (a_net D (xs (i + 1)))]) hr (zdec eL1 27 rfl) kM_L_44 kV_X10_net ⟨by decide, rfl⟩ rfl rfl rfl rfl rfl (by show 1 ≤ d; omega) (q_net (by show _ ≤ d - 1; omega) U.2.2.2.1 R2.1) (fun x3 h3 q3 => ?_)
  obtain ⟨rfl, f3⟩ := q3
  have S3 := S2.fr f3 (fun k j z => by omega)
  have C3 := C2.c f3 (fun k j z => by omega)
  have R3 := R2.q f3
  refine zS_icmp_eq (tgt := 2083) (zdec eL1 28 rfl) rfl (fun _ => ?_) (fun c => absurd rfl c)
  exact ih _ _ _ _ _ _ _ _ _ ⟨S3, C3, R3, U.2.2.2⟩
theorem cs_7 {nm : String} {d c s : Nat} {h : zH} {xs : Int → Int} {N i : Int} {D : Dk} {I : Int → Dk} {K : Int → Int} {W : Rw} {B : Int → Int} {L F Q : Int} (hd : 300 ≤ d) (i0 : 0 ≤ i) (i1 : i + 6 ≤ N) (U : SU h xs N D I K W B L F Q) (ih : ∀ h' D' I' K' W' B' L' F' Q', SU h' xs N D' I' K' W' B' L' F' Q' → zS (mL nm) (zrl d c s) 2083 [(6, 0), zA 0, zA 108, zI i] [] TT h' zOK) (hr : (Nat.ble c 600000 && Nat.ble s 7302250) = true) : zS (mL nm) (zrl d c s) 537 [(6, 0), zA 0, zA 108, zI i] [] TT h zOK := by
  have iN := U.1.1.2
  refine zS_aload_n (zdec eL1 31 rfl) rfl rfl ?_
  refine zS_aload_n (zdec eL1 32 rfl) rfl rfl ?_
  refine zS_iload_n (zdec eL1 33 rfl) rfl ?_
  refine zS_iconst (zdec eL1 34 rfl) rfl ?_
  refine zS_iadd (zdec eL1 35 rfl) ⟨by omega, by omega⟩ ?_
  refine zS_scr (v := (xs (i + 1))) (zdec eL1 36 rfl) U.1 (by omega) (by omega) rfl ?_
  refine zS_aload_n (zdec eL1 37 rfl) rfl rfl ?_
  refine zS_iload_n (zdec eL1 38 rfl) rfl ?_
  refine zS_iconst (zdec eL1 39 rfl) rfl ?_
  refine zS_iadd (zdec eL1 40 rfl) ⟨by omega, by omega⟩ ?_
  refine zS_scr (v := (xs (i + 2))) (zdec eL1 41 rfl) U.1 (by omega) (by omega) rfl ?_
  refine zvMIr (M' := mX9_costs) (As := [zI (xs (i + 1)), zI (xs (i + 2))]) (st := []) hr (zdec eL1 42 rfl) kM_L_45 kV_X9_costs ⟨by decide, rfl⟩ rfl rfl rfl rfl rfl (by show 1 ≤ d; omega) (p_costs (by show _ ≤ d - 1; omega) U.2.2.2.1 U.2.1.1) (fun x2 h2 q2 => ?_)
  obtain ⟨rfl, f2⟩ := q2
  have S2 := U.1.fr f2 (fun k j z => by omega)
  have C2 := U.2.1.q f2
  have R2 := U.2.2.1.c f2 (fun k j z => by omega)
  refine zS_aload_n (zdec eL1 43 rfl) rfl rfl ?_
  refine zS_aload_n (zdec eL1 44 rfl) rfl rfl ?_
  refine zS_iload_n (zdec eL1 45 rfl) rfl ?_
  refine zS_iconst (zdec eL1 46 rfl) rfl ?_
  refine zS_iadd (zdec eL1 47 rfl) ⟨by omega, by omega⟩ ?_
  refine zS_scr (v := (xs (i + 1))) (zdec eL1 48 rfl) S2 (by omega) (by omega) rfl ?_
  refine zS_aload_n (zdec eL1 49 rfl) rfl rfl ?_
  refine zS_iload_n (zdec eL1 50 rfl) rfl ?_
  refine zS_iconst (zdec eL1 51 rfl) rfl ?_
  refine zS_iadd (zdec eL1 52 rfl) ⟨by omega, by omega⟩ ?_
  refine zS_scr (v := (xs (i + 2))) (zdec eL1 53 rfl) S2 (by omega) (by omega) rfl ?_
  refine zvMIr (M' := mX10_costs) (As := [zI (xs (i + 1)), zI (xs (i + 2))]) (st := [zI (a_costs D (xs (i + 1)) (xs (i + 2)))]) hr (zdec eL1 54 rfl) kM_L_48 kV_X10_costs ⟨by decide, rfl⟩ rfl rfl rfl rfl rfl (by show 1 ≤ d; omega) (q_costs (by show _ ≤ d - 1; omega) U.2.2.2.1 R2.1) (fun x3 h3 q3 => ?_)
  obtain ⟨rfl, f3⟩ := q3
  have S3 := S2.fr f3 (fun k j z => by omega)
  have C3 := C2.c f3 (fun k j z => by omega)
  have R3 := R2.q f3
  refine zS_icmp_eq (tgt := 2083) (zdec eL1 55 rfl) rfl (fun _ => ?_) (fun c => absurd rfl c)
  exact ih _ _ _ _ _ _ _ _ _ ⟨S3, C3, R3, U.2.2.2⟩
theorem cs_8 {nm : String} {d c s : Nat} {h : zH} {xs : Int → Int} {N i : Int} {D : Dk} {I : Int → Dk} {K : Int → Int} {W : Rw} {B : Int → Int} {L F Q : Int} (hd : 300 ≤ d) (i0 : 0 ≤ i) (i1 : i + 6 ≤ N) (U : SU h xs N D I K W B L F Q) (ih : ∀ h' D' I' K' W' B' L' F' Q', SU h' xs N D' I' K' W' B' L' F' Q' → zS (mL nm) (zrl d c s) 2083 [(6, 0), zA 0, zA 108, zI i] [] TT h' zOK) (hr : (Nat.ble c 600000 && Nat.ble s 7302250) = true) : zS (mL nm) (zrl d c s) 570 [(6, 0), zA 0, zA 108, zI i] [] TT h zOK := by
  have iN := U.1.1.2
  refine zS_aload_n (zdec eL1 58 rfl) rfl rfl ?_
  refine zS_aload_n (zdec eL1 59 rfl) rfl rfl ?_
  refine zS_iload_n (zdec eL1 60 rfl) rfl ?_
  refine zS_iconst (zdec eL1 61 rfl) rfl ?_
  refine zS_iadd (zdec eL1 62 rfl) ⟨by omega, by omega⟩ ?_
  refine zS_scr (v := (xs (i + 1))) (zdec eL1 63 rfl) U.1 (by omega) (by omega) rfl ?_
  refine zvMIr (M' := mX9_comes) (As := [zI (xs (i + 1))]) (st := []) hr (zdec eL1 64 rfl) kM_L_49 kV_X9_comes ⟨by decide, rfl⟩ rfl rfl rfl rfl rfl (by show 1 ≤ d; omega) (p_comes (by show _ ≤ d - 1; omega) U.2.2.2.1 U.2.1.1) (fun x2 h2 q2 => ?_)
  obtain ⟨rfl, f2⟩ := q2
  have S2 := U.1.fr f2 (fun k j z => by omega)
  have C2 := U.2.1.q f2
  have R2 := U.2.2.1.c f2 (fun k j z => by omega)
  refine zS_aload_n (zdec eL1 65 rfl) rfl rfl ?_
  refine zS_aload_n (zdec eL1 66 rfl) rfl rfl ?_
  refine zS_iload_n (zdec eL1 67 rfl) rfl ?_
  refine zS_iconst (zdec eL1 68 rfl) rfl ?_
  refine zS_iadd (zdec eL1 69 rfl) ⟨by omega, by omega⟩ ?_
  refine zS_scr (v := (xs (i + 1))) (zdec eL1 70 rfl) S2 (by omega) (by omega) rfl ?_
  refine zvMIr (M' := mX10_comes) (As := [zI (xs (i + 1))]) (st := [zI (a_comes D (xs (i + 1)))]) hr (zdec eL1 71 rfl) kM_L_52 kV_X10_comes ⟨by decide, rfl⟩ rfl rfl rfl rfl rfl (by show 1 ≤ d; omega) (q_comes (by show _ ≤ d - 1; omega) U.2.2.2.1 R2.1) (fun x3 h3 q3 => ?_)
  obtain ⟨rfl, f3⟩ := q3
  have S3 := S2.fr f3 (fun k j z => by omega)
  have C3 := C2.c f3 (fun k j z => by omega)
  have R3 := R2.q f3
  refine zS_icmp_eq (tgt := 2083) (zdec eL1 72 rfl) rfl (fun _ => ?_) (fun c => absurd rfl c)
  exact ih _ _ _ _ _ _ _ _ _ ⟨S3, C3, R3, U.2.2.2⟩
theorem cs_9 {nm : String} {d c s : Nat} {h : zH} {xs : Int → Int} {N i : Int} {D : Dk} {I : Int → Dk} {K : Int → Int} {W : Rw} {B : Int → Int} {L F Q : Int} (hd : 300 ≤ d) (i0 : 0 ≤ i) (i1 : i + 6 ≤ N) (U : SU h xs N D I K W B L F Q) (ih : ∀ h' D' I' K' W' B' L' F' Q', SU h' xs N D' I' K' W' B' L' F' Q' → zS (mL nm) (zrl d c s) 2083 [(6, 0), zA 0, zA 108, zI i] [] TT h' zOK) (hr : (Nat.ble c 600000 && Nat.ble s 7302250) = true) : zS (mL nm) (zrl d c s) 593 [(6, 0), zA 0, zA 108, zI i] [] TT h zOK := by
  have iN := U.1.1.2
  refine zS_aload_n (zdec eL1 75 rfl) rfl rfl ?_
  refine zvMIr (M' := mX9_closed) (As := []) (st := []) hr (zdec eL1 76 rfl) kM_L_53 kV_X9_closed ⟨by decide, rfl⟩ rfl rfl rfl rfl rfl (by show 1 ≤ d; omega) (p_closed (by show _ ≤ d - 1; omega) U.2.2.2.1 U.2.1.1) (fun x2 h2 q2 => ?_)
  obtain ⟨rfl, f2⟩ := q2
  have S2 := U.1.fr f2 (fun k j z => by omega)
  have C2 := U.2.1.q f2
  have R2 := U.2.2.1.c f2 (fun k j z => by omega)
  refine zS_aload_n (zdec eL1 77 rfl) rfl rfl ?_
  refine zvMIr (M' := mX10_closed) (As := []) (st := [zI (a_closed D)]) hr (zdec eL1 78 rfl) kM_L_56 kV_X10_closed ⟨by decide, rfl⟩ rfl rfl rfl rfl rfl (by show 1 ≤ d; omega) (q_closed (by show _ ≤ d - 1; omega) U.2.2.2.1 R2.1) (fun x3 h3 q3 => ?_)
  obtain ⟨rfl, f3⟩ := q3
  have S3 := S2.fr f3 (fun k j z => by omega)
  have C3 := C2.c f3 (fun k j z => by omega)
  have R3 := R2.q f3
  refine zS_icmp_eq (tgt := 2083) (zdec eL1 79 rfl) rfl (fun _ => ?_) (fun c => absurd rfl c)
  exact ih _ _ _ _ _ _ _ _ _ ⟨S3, C3, R3, U.2.2.2⟩
theorem cs_10 {nm : String} {d c s : Nat} {h : zH} {xs : Int → Int} {N i : Int} {D : Dk} {I : Int → Dk} {K : Int → Int} {W : Rw} {B : Int → Int} {L F Q : Int} (hd : 300 ≤ d) (i0 : 0 ≤ i) (i1 : i + 6 ≤ N) (U : SU h xs N D I K W B L F Q) (ih : ∀ h' D' I' K' W' B' L' F' Q', SU h' xs N D' I' K' W' B' L' F' Q' → zS (mL nm) (zrl d c s) 2083 [(6, 0), zA 0, zA 108, zI i] [] TT h' zOK) (hr : (Nat.ble c 600000 && Nat.ble s 7302250) = true) : zS (mL nm) (zrl d c s) 606 [(6, 0), zA 0, zA 108, zI i] [] TT h zOK := by
  have iN := U.1.1.2
  refine zS_aload_n (zdec eL1 82 rfl) rfl rfl ?_
  refine zS_aload_n (zdec eL1 83 rfl) rfl rfl ?_
  refine zS_iload_n (zdec eL1 84 rfl) rfl ?_
  refine zS_iconst (zdec eL1 85 rfl) rfl ?_
  refine zS_iadd (zdec eL1 86 rfl) ⟨by omega, by omega⟩ ?_
  refine zS_scr (v := (xs (i + 1))) (zdec eL1 87 rfl) U.1 (by omega) (by omega) rfl ?_
  refine zS_aload_n (zdec eL1 88 rfl) rfl rfl ?_
  refine zS_iload_n (zdec eL1 89 rfl) rfl ?_
  refine zS_iconst (zdec eL1 90 rfl) rfl ?_
  refine zS_iadd (zdec eL1 91 rfl) ⟨by omega, by omega⟩ ?_
  refine zS_scr (v := (xs (i + 2))) (zdec eL1 92 rfl) U.1 (by omega) (by omega) rfl ?_
  refine zvMIr (M' := mX9_rate) (As := [zI (xs (i + 1)), zI (xs (i + 2))]) (st := []) hr (zdec eL1 93 rfl) kM_L_57 kV_X9_rate ⟨by decide, rfl⟩ rfl rfl rfl rfl rfl (by show 1 ≤ d; omega) (p_rate (by show _ ≤ d - 1; omega) U.2.2.2.1 U.2.1.1) (fun x2 h2 q2 => ?_)
  obtain ⟨rfl, f2⟩ := q2
  have S2 := U.1.fr f2 (fun k j z => by omega)
  have C2 := U.2.1.q f2
  have R2 := U.2.2.1.c f2 (fun k j z => by omega)
  refine zS_aload_n (zdec eL1 94 rfl) rfl rfl ?_
  refine zS_aload_n (zdec eL1 95 rfl) rfl rfl ?_
  refine zS_iload_n (zdec eL1 96 rfl) rfl ?_
  refine zS_iconst (zdec eL1 97 rfl) rfl ?_
  refine zS_iadd (zdec eL1 98 rfl) ⟨by omega, by omega⟩ ?_
  refine zS_scr (v := (xs (i + 1))) (zdec eL1 99 rfl) S2 (by omega) (by omega) rfl ?_
  refine zS_aload_n (zdec eL1 100 rfl) rfl rfl ?_
  refine zS_iload_n (zdec eL1 101 rfl) rfl ?_
  refine zS_iconst (zdec eL1 102 rfl) rfl ?_
  refine zS_iadd (zdec eL1 103 rfl) ⟨by omega, by omega⟩ ?_
  refine zS_scr (v := (xs (i + 2))) (zdec eL1 104 rfl) S2 (by omega) (by omega) rfl ?_
  refine zvMIr (M' := mX10_rate) (As := [zI (xs (i + 1)), zI (xs (i + 2))]) (st := [zI (a_rate D (xs (i + 1)) (xs (i + 2)))]) hr (zdec eL1 105 rfl) kM_L_60 kV_X10_rate ⟨by decide, rfl⟩ rfl rfl rfl rfl rfl (by show 1 ≤ d; omega) (q_rate (by show _ ≤ d - 1; omega) U.2.2.2.1 R2.1) (fun x3 h3 q3 => ?_)
  obtain ⟨rfl, f3⟩ := q3
  have S3 := S2.fr f3 (fun k j z => by omega)
  have C3 := C2.c f3 (fun k j z => by omega)
  have R3 := R2.q f3
  refine zS_icmp_eq (tgt := 2083) (zdec eL1 106 rfl) rfl (fun _ => ?_) (fun c => absurd rfl c)
  exact ih _ _ _ _ _ _ _ _ _ ⟨S3, C3, R3, U.2.2.2⟩
theorem cs_11 {nm : String} {d c s : Nat} {h : zH} {xs : Int → Int} {N i : Int} {D : Dk} {I : Int → Dk} {K : Int → Int} {W : Rw} {B : Int → Int} {L F Q : Int} (hd : 300 ≤ d) (i0 : 0 ≤ i) (i1 : i + 6 ≤ N) (U : SU h xs N D I K W B L F Q) (ih : ∀ h' D' I' K' W' B' L' F' Q', SU h' xs N D' I' K' W' B' L' F' Q' → zS (mL nm) (zrl d c s) 2083 [(6, 0), zA 0, zA 108, zI i] [] TT h' zOK) (hr : (Nat.ble c 600000 && Nat.ble s 7302250) = true) : zS (mL nm) (zrl d c s) 639 [(6, 0), zA 0, zA 108, zI i] [] TT h zOK := by
  have iN := U.1.1.2
  refine zS_aload_n (zdec eL1 109 rfl) rfl rfl ?_
  refine zvMIr (M' := mX9_worthy) (As := []) (st := []) hr (zdec eL1 110 rfl) kM_L_61 kV_X9_worthy ⟨by decide, rfl⟩ rfl rfl rfl rfl rfl (by show 1 ≤ d; omega) (p_worthy (by show _ ≤ d - 1; omega) U.2.2.2.1 U.2.1.1) (fun x2 h2 q2 => ?_)
  obtain ⟨rfl, f2⟩ := q2
  have S2 := U.1.fr f2 (fun k j z => by omega)
  have C2 := U.2.1.q f2
  have R2 := U.2.2.1.c f2 (fun k j z => by omega)
  refine zS_aload_n (zdec eL1 111 rfl) rfl rfl ?_
  refine zvMIr (M' := mX10_worthy) (As := []) (st := [zI (a_worthy D)]) hr (zdec eL1 112 rfl) kM_L_64 kV_X10_worthy ⟨by decide, rfl⟩ rfl rfl rfl rfl rfl (by show 1 ≤ d; omega) (q_worthy (by show _ ≤ d - 1; omega) U.2.2.2.1 R2.1) (fun x3 h3 q3 => ?_)
  obtain ⟨rfl, f3⟩ := q3
  have S3 := S2.fr f3 (fun k j z => by omega)
  have C3 := C2.c f3 (fun k j z => by omega)
  have R3 := R2.q f3
  refine zS_icmp_eq (tgt := 2083) (zdec eL1 113 rfl) rfl (fun _ => ?_) (fun c => absurd rfl c)
  exact ih _ _ _ _ _ _ _ _ _ ⟨S3, C3, R3, U.2.2.2⟩
theorem cs_12 {nm : String} {d c s : Nat} {h : zH} {xs : Int → Int} {N i : Int} {D : Dk} {I : Int → Dk} {K : Int → Int} {W : Rw} {B : Int → Int} {L F Q : Int} (hd : 300 ≤ d) (i0 : 0 ≤ i) (i1 : i + 6 ≤ N) (U : SU h xs N D I K W B L F Q) (ih : ∀ h' D' I' K' W' B' L' F' Q', SU h' xs N D' I' K' W' B' L' F' Q' → zS (mL nm) (zrl d c s) 2083 [(6, 0), zA 0, zA 108, zI i] [] TT h' zOK) (hr : (Nat.ble c 600000 && Nat.ble s 7302250) = true) : zS (mL nm) (zrl d c s) 652 [(6, 0), zA 0, zA 108, zI i] [] TT h zOK := by
  have iN := U.1.1.2
  refine zS_aload_n (zdec eL1 116 rfl) rfl rfl ?_
  refine zS_aload_n (zdec eL1 117 rfl) rfl rfl ?_
  refine zS_iload_n (zdec eL1 118 rfl) rfl ?_
  refine zS_iconst (zdec eL1 119 rfl) rfl ?_
  refine zS_iadd (zdec eL1 120 rfl) ⟨by omega, by omega⟩ ?_
  refine zS_scr (v := (xs (i + 1))) (zdec eL1 121 rfl) U.1 (by omega) (by omega) rfl ?_
  refine zvMIr (M' := mX9_day) (As := [zI (xs (i + 1))]) (st := []) hr (zdec eL1 122 rfl) kM_L_65 kV_X9_day ⟨by decide, rfl⟩ rfl rfl rfl rfl rfl (by show 1 ≤ d; omega) (p_day (by show _ ≤ d - 1; omega) U.2.2.2.1 U.2.1.1) (fun x2 h2 q2 => ?_)
  obtain ⟨rfl, f2⟩ := q2
  have S2 := U.1.fr f2 (fun k j z => by omega)
  have C2 := U.2.1.q f2
  have R2 := U.2.2.1.c f2 (fun k j z => by omega)
  refine zS_aload_n (zdec eL1 123 rfl) rfl rfl ?_
  refine zS_aload_n (zdec eL1 124 rfl) rfl rfl ?_
  refine zS_iload_n (zdec eL1 125 rfl) rfl ?_
  refine zS_iconst (zdec eL1 126 rfl) rfl ?_
  refine zS_iadd (zdec eL1 127 rfl) ⟨by omega, by omega⟩ ?_
  refine zS_scr (v := (xs (i + 1))) (zdec eL1 128 rfl) S2 (by omega) (by omega) rfl ?_
  refine zvMIr (M' := mX10_day) (As := [zI (xs (i + 1))]) (st := [zI (a_day D (xs (i + 1)))]) hr (zdec eL1 129 rfl) kM_L_68 kV_X10_day ⟨by decide, rfl⟩ rfl rfl rfl rfl rfl (by show 1 ≤ d; omega) (q_day (by show _ ≤ d - 1; omega) U.2.2.2.1 R2.1) (fun x3 h3 q3 => ?_)
  obtain ⟨rfl, f3⟩ := q3
  have S3 := S2.fr f3 (fun k j z => by omega)
  have C3 := C2.c f3 (fun k j z => by omega)
  have R3 := R2.q f3
  refine zS_icmp_eq (tgt := 2083) (zdec eL1 130 rfl) rfl (fun _ => ?_) (fun c => absurd rfl c)
  exact ih _ _ _ _ _ _ _ _ _ ⟨S3, C3, R3, U.2.2.2⟩
theorem cs_13 {nm : String} {d c s : Nat} {h : zH} {xs : Int → Int} {N i : Int} {D : Dk} {I : Int → Dk} {K : Int → Int} {W : Rw} {B : Int → Int} {L F Q : Int} (hd : 300 ≤ d) (i0 : 0 ≤ i) (i1 : i + 6 ≤ N) (U : SU h xs N D I K W B L F Q) (ih : ∀ h' D' I' K' W' B' L' F' Q', SU h' xs N D' I' K' W' B' L' F' Q' → zS (mL nm) (zrl d c s) 2083 [(6, 0), zA 0, zA 108, zI i] [] TT h' zOK) (hr : (Nat.ble c 600000 && Nat.ble s 7302250) = true) : zS (mL nm) (zrl d c s) 675 [(6, 0), zA 0, zA 108, zI i] [] TT h zOK := by
  have iN := U.1.1.2
  refine zS_aload_n (zdec eL1 133 rfl) rfl rfl ?_
  refine zS_aload_n (zdec eL1 134 rfl) rfl rfl ?_
  refine zS_iload_n (zdec eL1 135 rfl) rfl ?_
  refine zS_iconst (zdec eL1 136 rfl) rfl ?_
  refine zS_iadd (zdec eL1 137 rfl) ⟨by omega, by omega⟩ ?_
  refine zS_scr (v := (xs (i + 1))) (zdec eL1 138 rfl) U.1 (by omega) (by omega) rfl ?_
  refine zvMIr (M' := mX9_order) (As := [zI (xs (i + 1))]) (st := []) hr (zdec eL1 139 rfl) kM_L_69 kV_X9_order ⟨by decide, rfl⟩ rfl rfl rfl rfl rfl (by show 1 ≤ d; omega) (p_order (by show _ ≤ d - 1; omega) U.2.2.2.1 U.2.1.1) (fun x2 h2 q2 => ?_)
  obtain ⟨rfl, f2⟩ := q2
  have S2 := U.1.fr f2 (fun k j z => by omega)
  have C2 := U.2.1.q f2
  have R2 := U.2.2.1.c f2 (fun k j z => by omega)
  refine zS_aload_n (zdec eL1 140 rfl) rfl rfl ?_
  refine zS_aload_n (zdec eL1 141 rfl) rfl rfl ?_
  refine zS_iload_n (zdec eL1 142 rfl) rfl ?_
  refine zS_iconst (zdec eL1 143 rfl) rfl ?_
  refine zS_iadd (zdec eL1 144 rfl) ⟨by omega, by omega⟩ ?_
  refine zS_scr (v := (xs (i + 1))) (zdec eL1 145 rfl) S2 (by omega) (by omega) rfl ?_
  refine zvMIr (M' := mX10_order) (As := [zI (xs (i + 1))]) (st := [zI (a_order D (xs (i + 1)))]) hr (zdec eL1 146 rfl) kM_L_72 kV_X10_order ⟨by decide, rfl⟩ rfl rfl rfl rfl rfl (by show 1 ≤ d; omega) (q_order (by show _ ≤ d - 1; omega) U.2.2.2.1 R2.1) (fun x3 h3 q3 => ?_)
  obtain ⟨rfl, f3⟩ := q3
  have S3 := S2.fr f3 (fun k j z => by omega)
  have C3 := C2.c f3 (fun k j z => by omega)
  have R3 := R2.q f3
  refine zS_icmp_eq (tgt := 2083) (zdec eL1 147 rfl) rfl (fun _ => ?_) (fun c => absurd rfl c)
  exact ih _ _ _ _ _ _ _ _ _ ⟨S3, C3, R3, U.2.2.2⟩
theorem cs_14 {nm : String} {d c s : Nat} {h : zH} {xs : Int → Int} {N i : Int} {D : Dk} {I : Int → Dk} {K : Int → Int} {W : Rw} {B : Int → Int} {L F Q : Int} (hd : 300 ≤ d) (i0 : 0 ≤ i) (i1 : i + 6 ≤ N) (U : SU h xs N D I K W B L F Q) (ih : ∀ h' D' I' K' W' B' L' F' Q', SU h' xs N D' I' K' W' B' L' F' Q' → zS (mL nm) (zrl d c s) 2083 [(6, 0), zA 0, zA 108, zI i] [] TT h' zOK) (hr : (Nat.ble c 600000 && Nat.ble s 7302250) = true) : zS (mL nm) (zrl d c s) 698 [(6, 0), zA 0, zA 108, zI i] [] TT h zOK := by
  have iN := U.1.1.2
  refine zS_aload_n (zdec eL2 0 rfl) rfl rfl ?_
  refine zS_aload_n (zdec eL2 1 rfl) rfl rfl ?_
  refine zS_iload_n (zdec eL2 2 rfl) rfl ?_
  refine zS_iconst (zdec eL2 3 rfl) rfl ?_
  refine zS_iadd (zdec eL2 4 rfl) ⟨by omega, by omega⟩ ?_
  refine zS_scr (v := (xs (i + 1))) (zdec eL2 5 rfl) U.1 (by omega) (by omega) rfl ?_
  refine zvMIr (M' := mX9_file) (As := [zI (xs (i + 1))]) (st := []) hr (zdec eL2 6 rfl) kM_L_73 kV_X9_file ⟨by decide, rfl⟩ rfl rfl rfl rfl rfl (by show 1 ≤ d; omega) (p_file (by show _ ≤ d - 1; omega) U.2.2.2.1 U.2.1.1) (fun x2 h2 q2 => ?_)
  obtain ⟨rfl, f2⟩ := q2
  have S2 := U.1.fr f2 (fun k j z => by omega)
  have C2 := U.2.1.q f2
  have R2 := U.2.2.1.c f2 (fun k j z => by omega)
  refine zS_aload_n (zdec eL2 7 rfl) rfl rfl ?_
  refine zS_aload_n (zdec eL2 8 rfl) rfl rfl ?_
  refine zS_iload_n (zdec eL2 9 rfl) rfl ?_
  refine zS_iconst (zdec eL2 10 rfl) rfl ?_
  refine zS_iadd (zdec eL2 11 rfl) ⟨by omega, by omega⟩ ?_
  refine zS_scr (v := (xs (i + 1))) (zdec eL2 12 rfl) S2 (by omega) (by omega) rfl ?_
  refine zvMIr (M' := mX10_file) (As := [zI (xs (i + 1))]) (st := [zI (a_file D (xs (i + 1)))]) hr (zdec eL2 13 rfl) kM_L_76 kV_X10_file ⟨by decide, rfl⟩ rfl rfl rfl rfl rfl (by show 1 ≤ d; omega) (q_file (by show _ ≤ d - 1; omega) U.2.2.2.1 R2.1) (fun x3 h3 q3 => ?_)
  obtain ⟨rfl, f3⟩ := q3
  have S3 := S2.fr f3 (fun k j z => by omega)
  have C3 := C2.c f3 (fun k j z => by omega)
  have R3 := R2.q f3
  refine zS_icmp_eq (tgt := 2083) (zdec eL2 14 rfl) rfl (fun _ => ?_) (fun c => absurd rfl c)
  exact ih _ _ _ _ _ _ _ _ _ ⟨S3, C3, R3, U.2.2.2⟩
theorem cs_15 {nm : String} {d c s : Nat} {h : zH} {xs : Int → Int} {N i : Int} {D : Dk} {I : Int → Dk} {K : Int → Int} {W : Rw} {B : Int → Int} {L F Q : Int} (hd : 300 ≤ d) (i0 : 0 ≤ i) (i1 : i + 6 ≤ N) (U : SU h xs N D I K W B L F Q) (ih : ∀ h' D' I' K' W' B' L' F' Q', SU h' xs N D' I' K' W' B' L' F' Q' → zS (mL nm) (zrl d c s) 2083 [(6, 0), zA 0, zA 108, zI i] [] TT h' zOK) (hr : (Nat.ble c 600000 && Nat.ble s 7302250) = true) : zS (mL nm) (zrl d c s) 721 [(6, 0), zA 0, zA 108, zI i] [] TT h zOK := by
  have iN := U.1.1.2
  refine zS_aload_n (zdec eL2 17 rfl) rfl rfl ?_
  refine zS_aload_n (zdec eL2 18 rfl) rfl rfl ?_
  refine zS_iload_n (zdec eL2 19 rfl) rfl ?_
  refine zS_iconst (zdec eL2 20 rfl) rfl ?_
  refine zS_iadd (zdec eL2 21 rfl) ⟨by omega, by omega⟩ ?_
  refine zS_scr (v := (xs (i + 1))) (zdec eL2 22 rfl) U.1 (by omega) (by omega) rfl ?_
  refine zvMIr (M' := mX9_pays) (As := [zI (xs (i + 1))]) (st := []) hr (zdec eL2 23 rfl) kM_L_77 kV_X9_pays ⟨by decide, rfl⟩ rfl rfl rfl rfl rfl (by show 1 ≤ d; omega) (p_pays (by show _ ≤ d - 1; omega) U.2.2.2.1 U.2.1.1) (fun x2 h2 q2 => ?_)
  obtain ⟨rfl, f2⟩ := q2
  have S2 := U.1.fr f2 (fun k j z => by omega)
  have C2 := U.2.1.q f2
  have R2 := U.2.2.1.c f2 (fun k j z => by omega)
  refine zS_aload_n (zdec eL2 24 rfl) rfl rfl ?_
  refine zS_aload_n (zdec eL2 25 rfl) rfl rfl ?_
  refine zS_iload_n (zdec eL2 26 rfl) rfl ?_
  refine zS_iconst (zdec eL2 27 rfl) rfl ?_
  refine zS_iadd (zdec eL2 28 rfl) ⟨by omega, by omega⟩ ?_
  refine zS_scr (v := (xs (i + 1))) (zdec eL2 29 rfl) S2 (by omega) (by omega) rfl ?_
  refine zvMIr (M' := mX10_pays) (As := [zI (xs (i + 1))]) (st := [zI (a_pays D (xs (i + 1)))]) hr (zdec eL2 30 rfl) kM_L_80 kV_X10_pays ⟨by decide, rfl⟩ rfl rfl rfl rfl rfl (by show 1 ≤ d; omega) (q_pays (by show _ ≤ d - 1; omega) U.2.2.2.1 R2.1) (fun x3 h3 q3 => ?_)
  obtain ⟨rfl, f3⟩ := q3
  have S3 := S2.fr f3 (fun k j z => by omega)
  have C3 := C2.c f3 (fun k j z => by omega)
  have R3 := R2.q f3
  refine zS_icmp_eq (tgt := 2083) (zdec eL2 31 rfl) rfl (fun _ => ?_) (fun c => absurd rfl c)
  exact ih _ _ _ _ _ _ _ _ _ ⟨S3, C3, R3, U.2.2.2⟩
theorem cs_16 {nm : String} {d c s : Nat} {h : zH} {xs : Int → Int} {N i : Int} {D : Dk} {I : Int → Dk} {K : Int → Int} {W : Rw} {B : Int → Int} {L F Q : Int} (hd : 300 ≤ d) (i0 : 0 ≤ i) (i1 : i + 6 ≤ N) (U : SU h xs N D I K W B L F Q) (ih : ∀ h' D' I' K' W' B' L' F' Q', SU h' xs N D' I' K' W' B' L' F' Q' → zS (mL nm) (zrl d c s) 2083 [(6, 0), zA 0, zA 108, zI i] [] TT h' zOK) (hr : (Nat.ble c 600000 && Nat.ble s 7302250) = true) : zS (mL nm) (zrl d c s) 744 [(6, 0), zA 0, zA 108, zI i] [] TT h zOK := by
  have iN := U.1.1.2
  refine zS_aload_n (zdec eL2 34 rfl) rfl rfl ?_
  refine zS_aload_n (zdec eL2 35 rfl) rfl rfl ?_
  refine zS_iload_n (zdec eL2 36 rfl) rfl ?_
  refine zS_iconst (zdec eL2 37 rfl) rfl ?_
  refine zS_iadd (zdec eL2 38 rfl) ⟨by omega, by omega⟩ ?_
  refine zS_scr (v := (xs (i + 1))) (zdec eL2 39 rfl) U.1 (by omega) (by omega) rfl ?_
  refine zvMIr (M' := mX9_cash) (As := [zI (xs (i + 1))]) (st := []) hr (zdec eL2 40 rfl) kM_L_81 kV_X9_cash ⟨by decide, rfl⟩ rfl rfl rfl rfl rfl (by show 1 ≤ d; omega) (p_cash (by show _ ≤ d - 1; omega) U.2.2.2.1 U.2.1.1) (fun x2 h2 q2 => ?_)
  obtain ⟨rfl, f2⟩ := q2
  have S2 := U.1.fr f2 (fun k j z => by omega)
  have C2 := U.2.1.q f2
  have R2 := U.2.2.1.c f2 (fun k j z => by omega)
  refine zS_aload_n (zdec eL2 41 rfl) rfl rfl ?_
  refine zS_aload_n (zdec eL2 42 rfl) rfl rfl ?_
  refine zS_iload_n (zdec eL2 43 rfl) rfl ?_
  refine zS_iconst (zdec eL2 44 rfl) rfl ?_
  refine zS_iadd (zdec eL2 45 rfl) ⟨by omega, by omega⟩ ?_
  refine zS_scr (v := (xs (i + 1))) (zdec eL2 46 rfl) S2 (by omega) (by omega) rfl ?_
  refine zvMIr (M' := mX10_cash) (As := [zI (xs (i + 1))]) (st := [zI (a_cash D (xs (i + 1)))]) hr (zdec eL2 47 rfl) kM_L_84 kV_X10_cash ⟨by decide, rfl⟩ rfl rfl rfl rfl rfl (by show 1 ≤ d; omega) (q_cash (by show _ ≤ d - 1; omega) U.2.2.2.1 R2.1) (fun x3 h3 q3 => ?_)
  obtain ⟨rfl, f3⟩ := q3
  have S3 := S2.fr f3 (fun k j z => by omega)
  have C3 := C2.c f3 (fun k j z => by omega)
  have R3 := R2.q f3
  refine zS_icmp_eq (tgt := 2083) (zdec eL2 48 rfl) rfl (fun _ => ?_) (fun c => absurd rfl c)
  exact ih _ _ _ _ _ _ _ _ _ ⟨S3, C3, R3, U.2.2.2⟩
theorem cs_17 {nm : String} {d c s : Nat} {h : zH} {xs : Int → Int} {N i : Int} {D : Dk} {I : Int → Dk} {K : Int → Int} {W : Rw} {B : Int → Int} {L F Q : Int} (hd : 300 ≤ d) (i0 : 0 ≤ i) (i1 : i + 6 ≤ N) (U : SU h xs N D I K W B L F Q) (ih : ∀ h' D' I' K' W' B' L' F' Q', SU h' xs N D' I' K' W' B' L' F' Q' → zS (mL nm) (zrl d c s) 2083 [(6, 0), zA 0, zA 108, zI i] [] TT h' zOK) (hr : (Nat.ble c 600000 && Nat.ble s 7302250) = true) : zS (mL nm) (zrl d c s) 767 [(6, 0), zA 0, zA 108, zI i] [] TT h zOK := by
  have iN := U.1.1.2
  refine zS_aload_n (zdec eL2 51 rfl) rfl rfl ?_
  refine zvMIr (M' := mX9_room) (As := []) (st := []) hr (zdec eL2 52 rfl) kM_L_85 kV_X9_room ⟨by decide, rfl⟩ rfl rfl rfl rfl rfl (by show 1 ≤ d; omega) (p_room (by show _ ≤ d - 1; omega) U.2.2.2.1 U.2.1.1) (fun x2 h2 q2 => ?_)
  obtain ⟨rfl, f2⟩ := q2
  have S2 := U.1.fr f2 (fun k j z => by omega)
  have C2 := U.2.1.q f2
  have R2 := U.2.2.1.c f2 (fun k j z => by omega)
  refine zS_aload_n (zdec eL2 53 rfl) rfl rfl ?_
  refine zvMIr (M' := mX10_room) (As := []) (st := [zI (a_room D)]) hr (zdec eL2 54 rfl) kM_L_88 kV_X10_room ⟨by decide, rfl⟩ rfl rfl rfl rfl rfl (by show 1 ≤ d; omega) (q_room (by show _ ≤ d - 1; omega) U.2.2.2.1 R2.1) (fun x3 h3 q3 => ?_)
  obtain ⟨rfl, f3⟩ := q3
  have S3 := S2.fr f3 (fun k j z => by omega)
  have C3 := C2.c f3 (fun k j z => by omega)
  have R3 := R2.q f3
  refine zS_icmp_eq (tgt := 2083) (zdec eL2 55 rfl) rfl (fun _ => ?_) (fun c => absurd rfl c)
  exact ih _ _ _ _ _ _ _ _ _ ⟨S3, C3, R3, U.2.2.2⟩
theorem cs_18 {nm : String} {d c s : Nat} {h : zH} {xs : Int → Int} {N i : Int} {D : Dk} {I : Int → Dk} {K : Int → Int} {W : Rw} {B : Int → Int} {L F Q : Int} (hd : 300 ≤ d) (i0 : 0 ≤ i) (i1 : i + 6 ≤ N) (U : SU h xs N D I K W B L F Q) (ih : ∀ h' D' I' K' W' B' L' F' Q', SU h' xs N D' I' K' W' B' L' F' Q' → zS (mL nm) (zrl d c s) 2083 [(6, 0), zA 0, zA 108, zI i] [] TT h' zOK) (hr : (Nat.ble c 600000 && Nat.ble s 7302250) = true) : zS (mL nm) (zrl d c s) 780 [(6, 0), zA 0, zA 108, zI i] [] TT h zOK := by
  have iN := U.1.1.2
  refine zS_aload_n (zdec eL2 58 rfl) rfl rfl ?_
  refine zvMIr (M' := mX9_tight) (As := []) (st := []) hr (zdec eL2 59 rfl) kM_L_89 kV_X9_tight ⟨by decide, rfl⟩ rfl rfl rfl rfl rfl (by show 1 ≤ d; omega) (p_tight (by show _ ≤ d - 1; omega) U.2.2.2.1 U.2.1.1) (fun x2 h2 q2 => ?_)
  obtain ⟨rfl, f2⟩ := q2
  have S2 := U.1.fr f2 (fun k j z => by omega)
  have C2 := U.2.1.q f2
  have R2 := U.2.2.1.c f2 (fun k j z => by omega)
  refine zS_aload_n (zdec eL2 60 rfl) rfl rfl ?_
  refine zvMIr (M' := mX10_tight) (As := []) (st := [zI (a_tight D)]) hr (zdec eL2 61 rfl) kM_L_92 kV_X10_tight ⟨by decide, rfl⟩ rfl rfl rfl rfl rfl (by show 1 ≤ d; omega) (q_tight (by show _ ≤ d - 1; omega) U.2.2.2.1 R2.1) (fun x3 h3 q3 => ?_)
  obtain ⟨rfl, f3⟩ := q3
  have S3 := S2.fr f3 (fun k j z => by omega)
  have C3 := C2.c f3 (fun k j z => by omega)
  have R3 := R2.q f3
  refine zS_icmp_eq (tgt := 2083) (zdec eL2 62 rfl) rfl (fun _ => ?_) (fun c => absurd rfl c)
  exact ih _ _ _ _ _ _ _ _ _ ⟨S3, C3, R3, U.2.2.2⟩
theorem cs_19 {nm : String} {d c s : Nat} {h : zH} {xs : Int → Int} {N i : Int} {D : Dk} {I : Int → Dk} {K : Int → Int} {W : Rw} {B : Int → Int} {L F Q : Int} (hd : 300 ≤ d) (i0 : 0 ≤ i) (i1 : i + 6 ≤ N) (U : SU h xs N D I K W B L F Q) (ih : ∀ h' D' I' K' W' B' L' F' Q', SU h' xs N D' I' K' W' B' L' F' Q' → zS (mL nm) (zrl d c s) 2083 [(6, 0), zA 0, zA 108, zI i] [] TT h' zOK) (hr : (Nat.ble c 600000 && Nat.ble s 7302250) = true) : zS (mL nm) (zrl d c s) 793 [(6, 0), zA 0, zA 108, zI i] [] TT h zOK := by
  have iN := U.1.1.2
  refine zS_aload_n (zdec eL2 65 rfl) rfl rfl ?_
  refine zvMIr (M' := mX9_fees) (As := []) (st := []) hr (zdec eL2 66 rfl) kM_L_93 kV_X9_fees ⟨by decide, rfl⟩ rfl rfl rfl rfl rfl (by show 1 ≤ d; omega) (p_fees (by show _ ≤ d - 1; omega) U.2.2.2.1 U.2.1.1) (fun x2 h2 q2 => ?_)
  obtain ⟨rfl, f2⟩ := q2
  have S2 := U.1.fr f2 (fun k j z => by omega)
  have C2 := U.2.1.q f2
  have R2 := U.2.2.1.c f2 (fun k j z => by omega)
  refine zS_aload_n (zdec eL2 67 rfl) rfl rfl ?_
  refine zvMIr (M' := mX10_fees) (As := []) (st := [zI (a_fees D)]) hr (zdec eL2 68 rfl) kM_L_96 kV_X10_fees ⟨by decide, rfl⟩ rfl rfl rfl rfl rfl (by show 1 ≤ d; omega) (q_fees (by show _ ≤ d - 1; omega) U.2.2.2.1 R2.1) (fun x3 h3 q3 => ?_)
  obtain ⟨rfl, f3⟩ := q3
  have S3 := S2.fr f3 (fun k j z => by omega)
  have C3 := C2.c f3 (fun k j z => by omega)
  have R3 := R2.q f3
  refine zS_icmp_eq (tgt := 2083) (zdec eL2 69 rfl) rfl (fun _ => ?_) (fun c => absurd rfl c)
  exact ih _ _ _ _ _ _ _ _ _ ⟨S3, C3, R3, U.2.2.2⟩
theorem cs_20 {nm : String} {d c s : Nat} {h : zH} {xs : Int → Int} {N i : Int} {D : Dk} {I : Int → Dk} {K : Int → Int} {W : Rw} {B : Int → Int} {L F Q : Int} (hd : 300 ≤ d) (i0 : 0 ≤ i) (i1 : i + 6 ≤ N) (U : SU h xs N D I K W B L F Q) (ih : ∀ h' D' I' K' W' B' L' F' Q', SU h' xs N D' I' K' W' B' L' F' Q' → zS (mL nm) (zrl d c s) 2083 [(6, 0), zA 0, zA 108, zI i] [] TT h' zOK) (hr : (Nat.ble c 600000 && Nat.ble s 7302250) = true) : zS (mL nm) (zrl d c s) 806 [(6, 0), zA 0, zA 108, zI i] [] TT h zOK := by
  have iN := U.1.1.2
  refine zS_aload_n (zdec eL2 72 rfl) rfl rfl ?_
  refine zvMIr (M' := mX9_open) (As := []) (st := []) hr (zdec eL2 73 rfl) kM_L_97 kV_X9_open ⟨by decide, rfl⟩ rfl rfl rfl rfl rfl (by show 1 ≤ d; omega) (p_open (by show _ ≤ d - 1; omega) U.2.2.2.1 U.2.1.1) (fun x2 h2 q2 => ?_)
  obtain ⟨rfl, f2⟩ := q2
  have S2 := U.1.fr f2 (fun k j z => by omega)
  have C2 := U.2.1.q f2
  have R2 := U.2.2.1.c f2 (fun k j z => by omega)
  refine zS_aload_n (zdec eL2 74 rfl) rfl rfl ?_
  refine zvMIr (M' := mX10_open) (As := []) (st := [zI (a_open D)]) hr (zdec eL2 75 rfl) kM_L_100 kV_X10_open ⟨by decide, rfl⟩ rfl rfl rfl rfl rfl (by show 1 ≤ d; omega) (q_open (by show _ ≤ d - 1; omega) U.2.2.2.1 R2.1) (fun x3 h3 q3 => ?_)
  obtain ⟨rfl, f3⟩ := q3
  have S3 := S2.fr f3 (fun k j z => by omega)
  have C3 := C2.c f3 (fun k j z => by omega)
  have R3 := R2.q f3
  refine zS_icmp_eq (tgt := 2083) (zdec eL2 76 rfl) rfl (fun _ => ?_) (fun c => absurd rfl c)
  exact ih _ _ _ _ _ _ _ _ _ ⟨S3, C3, R3, U.2.2.2⟩
theorem cs_21 {nm : String} {d c s : Nat} {h : zH} {xs : Int → Int} {N i : Int} {D : Dk} {I : Int → Dk} {K : Int → Int} {W : Rw} {B : Int → Int} {L F Q : Int} (hd : 300 ≤ d) (i0 : 0 ≤ i) (i1 : i + 6 ≤ N) (U : SU h xs N D I K W B L F Q) (ih : ∀ h' D' I' K' W' B' L' F' Q', SU h' xs N D' I' K' W' B' L' F' Q' → zS (mL nm) (zrl d c s) 2083 [(6, 0), zA 0, zA 108, zI i] [] TT h' zOK) (hr : (Nat.ble c 600000 && Nat.ble s 7302250) = true) : zS (mL nm) (zrl d c s) 819 [(6, 0), zA 0, zA 108, zI i] [] TT h zOK := by
  have iN := U.1.1.2
  refine zS_aload_n (zdec eL2 79 rfl) rfl rfl ?_
  refine zvMIr (M' := mX9_caught) (As := []) (st := []) hr (zdec eL2 80 rfl) kM_L_101 kV_X9_caught ⟨by decide, rfl⟩ rfl rfl rfl rfl rfl (by show 1 ≤ d; omega) (p_caught (by show _ ≤ d - 1; omega) U.2.2.2.1 U.2.1.1) (fun x2 h2 q2 => ?_)
  obtain ⟨rfl, f2⟩ := q2
  have S2 := U.1.fr f2 (fun k j z => by omega)
  have C2 := U.2.1.q f2
  have R2 := U.2.2.1.c f2 (fun k j z => by omega)
  refine zS_aload_n (zdec eL2 81 rfl) rfl rfl ?_
  refine zvMIr (M' := mX10_caught) (As := []) (st := [zI (a_caught D)]) hr (zdec eL2 82 rfl) kM_L_104 kV_X10_caught ⟨by decide, rfl⟩ rfl rfl rfl rfl rfl (by show 1 ≤ d; omega) (q_caught (by show _ ≤ d - 1; omega) U.2.2.2.1 R2.1) (fun x3 h3 q3 => ?_)
  obtain ⟨rfl, f3⟩ := q3
  have S3 := S2.fr f3 (fun k j z => by omega)
  have C3 := C2.c f3 (fun k j z => by omega)
  have R3 := R2.q f3
  refine zS_icmp_eq (tgt := 2083) (zdec eL2 83 rfl) rfl (fun _ => ?_) (fun c => absurd rfl c)
  exact ih _ _ _ _ _ _ _ _ _ ⟨S3, C3, R3, U.2.2.2⟩
theorem cs_22 {nm : String} {d c s : Nat} {h : zH} {xs : Int → Int} {N i : Int} {D : Dk} {I : Int → Dk} {K : Int → Int} {W : Rw} {B : Int → Int} {L F Q : Int} (hd : 300 ≤ d) (i0 : 0 ≤ i) (i1 : i + 6 ≤ N) (U : SU h xs N D I K W B L F Q) (ih : ∀ h' D' I' K' W' B' L' F' Q', SU h' xs N D' I' K' W' B' L' F' Q' → zS (mL nm) (zrl d c s) 2083 [(6, 0), zA 0, zA 108, zI i] [] TT h' zOK) (hr : (Nat.ble c 600000 && Nat.ble s 7302250) = true) : zS (mL nm) (zrl d c s) 832 [(6, 0), zA 0, zA 108, zI i] [] TT h zOK := by
  have iN := U.1.1.2
  refine zS_aload_n (zdec eL2 86 rfl) rfl rfl ?_
  refine zvMIr (M' := mX9_late) (As := []) (st := []) hr (zdec eL2 87 rfl) kM_L_105 kV_X9_late ⟨by decide, rfl⟩ rfl rfl rfl rfl rfl (by show 1 ≤ d; omega) (p_late (by show _ ≤ d - 1; omega) U.2.2.2.1 U.2.1.1) (fun x2 h2 q2 => ?_)
  obtain ⟨rfl, f2⟩ := q2
  have S2 := U.1.fr f2 (fun k j z => by omega)
  have C2 := U.2.1.q f2
  have R2 := U.2.2.1.c f2 (fun k j z => by omega)
  refine zS_aload_n (zdec eL2 88 rfl) rfl rfl ?_
  refine zvMIr (M' := mX10_late) (As := []) (st := [zI (a_late D)]) hr (zdec eL2 89 rfl) kM_L_108 kV_X10_late ⟨by decide, rfl⟩ rfl rfl rfl rfl rfl (by show 1 ≤ d; omega) (q_late (by show _ ≤ d - 1; omega) U.2.2.2.1 R2.1) (fun x3 h3 q3 => ?_)
  obtain ⟨rfl, f3⟩ := q3
  have S3 := S2.fr f3 (fun k j z => by omega)
  have C3 := C2.c f3 (fun k j z => by omega)
  have R3 := R2.q f3
  refine zS_icmp_eq (tgt := 2083) (zdec eL2 90 rfl) rfl (fun _ => ?_) (fun c => absurd rfl c)
  exact ih _ _ _ _ _ _ _ _ _ ⟨S3, C3, R3, U.2.2.2⟩
theorem cs_23 {nm : String} {d c s : Nat} {h : zH} {xs : Int → Int} {N i : Int} {D : Dk} {I : Int → Dk} {K : Int → Int} {W : Rw} {B : Int → Int} {L F Q : Int} (hd : 300 ≤ d) (i0 : 0 ≤ i) (i1 : i + 6 ≤ N) (U : SU h xs N D I K W B L F Q) (ih : ∀ h' D' I' K' W' B' L' F' Q', SU h' xs N D' I' K' W' B' L' F' Q' → zS (mL nm) (zrl d c s) 2083 [(6, 0), zA 0, zA 108, zI i] [] TT h' zOK) (hr : (Nat.ble c 600000 && Nat.ble s 7302250) = true) : zS (mL nm) (zrl d c s) 845 [(6, 0), zA 0, zA 108, zI i] [] TT h zOK := by
  have iN := U.1.1.2
  refine zS_aload_n (zdec eL2 93 rfl) rfl rfl ?_
  refine zvMIr (M' := mX9_saved) (As := []) (st := []) hr (zdec eL2 94 rfl) kM_L_109 kV_X9_saved ⟨by decide, rfl⟩ rfl rfl rfl rfl rfl (by show 1 ≤ d; omega) (p_saved (by show _ ≤ d - 1; omega) U.2.2.2.1 U.2.1.1) (fun x2 h2 q2 => ?_)
  obtain ⟨rfl, f2⟩ := q2
  have S2 := U.1.fr f2 (fun k j z => by omega)
  have C2 := U.2.1.q f2
  have R2 := U.2.2.1.c f2 (fun k j z => by omega)
  refine zS_aload_n (zdec eL2 95 rfl) rfl rfl ?_
  refine zvMIr (M' := mX10_saved) (As := []) (st := [zI (a_saved D)]) hr (zdec eL2 96 rfl) kM_L_112 kV_X10_saved ⟨by decide, rfl⟩ rfl rfl rfl rfl rfl (by show 1 ≤ d; omega) (q_saved (by show _ ≤ d - 1; omega) U.2.2.2.1 R2.1) (fun x3 h3 q3 => ?_)
  obtain ⟨rfl, f3⟩ := q3
  have S3 := S2.fr f3 (fun k j z => by omega)
  have C3 := C2.c f3 (fun k j z => by omega)
  have R3 := R2.q f3
  refine zS_icmp_eq (tgt := 2083) (zdec eL2 97 rfl) rfl (fun _ => ?_) (fun c => absurd rfl c)
  exact ih _ _ _ _ _ _ _ _ _ ⟨S3, C3, R3, U.2.2.2⟩
theorem cs_24 {nm : String} {d c s : Nat} {h : zH} {xs : Int → Int} {N i : Int} {D : Dk} {I : Int → Dk} {K : Int → Int} {W : Rw} {B : Int → Int} {L F Q : Int} (hd : 300 ≤ d) (i0 : 0 ≤ i) (i1 : i + 6 ≤ N) (U : SU h xs N D I K W B L F Q) (ih : ∀ h' D' I' K' W' B' L' F' Q', SU h' xs N D' I' K' W' B' L' F' Q' → zS (mL nm) (zrl d c s) 2083 [(6, 0), zA 0, zA 108, zI i] [] TT h' zOK) (hr : (Nat.ble c 600000 && Nat.ble s 7302250) = true) : zS (mL nm) (zrl d c s) 858 [(6, 0), zA 0, zA 108, zI i] [] TT h zOK := by
  have iN := U.1.1.2
  refine zS_aload_n (zdec eL2 100 rfl) rfl rfl ?_
  refine zvMIr (M' := mX9_lost) (As := []) (st := []) hr (zdec eL2 101 rfl) kM_L_113 kV_X9_lost ⟨by decide, rfl⟩ rfl rfl rfl rfl rfl (by show 1 ≤ d; omega) (p_lost (by show _ ≤ d - 1; omega) U.2.2.2.1 U.2.1.1) (fun x2 h2 q2 => ?_)
  obtain ⟨rfl, f2⟩ := q2
  have S2 := U.1.fr f2 (fun k j z => by omega)
  have C2 := U.2.1.q f2
  have R2 := U.2.2.1.c f2 (fun k j z => by omega)
  refine zS_aload_n (zdec eL2 102 rfl) rfl rfl ?_
  refine zvMIr (M' := mX10_lost) (As := []) (st := [zI (a_lost D)]) hr (zdec eL2 103 rfl) kM_L_116 kV_X10_lost ⟨by decide, rfl⟩ rfl rfl rfl rfl rfl (by show 1 ≤ d; omega) (q_lost (by show _ ≤ d - 1; omega) U.2.2.2.1 R2.1) (fun x3 h3 q3 => ?_)
  obtain ⟨rfl, f3⟩ := q3
  have S3 := S2.fr f3 (fun k j z => by omega)
  have C3 := C2.c f3 (fun k j z => by omega)
  have R3 := R2.q f3
  refine zS_icmp_eq (tgt := 2083) (zdec eL2 104 rfl) rfl (fun _ => ?_) (fun c => absurd rfl c)
  exact ih _ _ _ _ _ _ _ _ _ ⟨S3, C3, R3, U.2.2.2⟩
theorem cs_25 {nm : String} {d c s : Nat} {h : zH} {xs : Int → Int} {N i : Int} {D : Dk} {I : Int → Dk} {K : Int → Int} {W : Rw} {B : Int → Int} {L F Q : Int} (hd : 300 ≤ d) (i0 : 0 ≤ i) (i1 : i + 6 ≤ N) (U : SU h xs N D I K W B L F Q) (ih : ∀ h' D' I' K' W' B' L' F' Q', SU h' xs N D' I' K' W' B' L' F' Q' → zS (mL nm) (zrl d c s) 2083 [(6, 0), zA 0, zA 108, zI i] [] TT h' zOK) (hr : (Nat.ble c 600000 && Nat.ble s 7302250) = true) : zS (mL nm) (zrl d c s) 871 [(6, 0), zA 0, zA 108, zI i] [] TT h zOK := by
  have iN := U.1.1.2
  refine zS_aload_n (zdec eL2 107 rfl) rfl rfl ?_
  refine zvMIr (M' := mX9_total) (As := []) (st := []) hr (zdec eL2 108 rfl) kM_L_117 kV_X9_total ⟨by decide, rfl⟩ rfl rfl rfl rfl rfl (by show 1 ≤ d; omega) (p_total (by show _ ≤ d - 1; omega) U.2.2.2.1 U.2.1.1) (fun x2 h2 q2 => ?_)
  obtain ⟨rfl, f2⟩ := q2
  have S2 := U.1.fr f2 (fun k j z => by omega)
  have C2 := U.2.1.q f2
  have R2 := U.2.2.1.c f2 (fun k j z => by omega)
  refine zS_aload_n (zdec eL2 109 rfl) rfl rfl ?_
  refine zvMIr (M' := mX10_total) (As := []) (st := [zI (a_total D)]) hr (zdec eL2 110 rfl) kM_L_120 kV_X10_total ⟨by decide, rfl⟩ rfl rfl rfl rfl rfl (by show 1 ≤ d; omega) (q_total (by show _ ≤ d - 1; omega) U.2.2.2.1 R2.1) (fun x3 h3 q3 => ?_)
  obtain ⟨rfl, f3⟩ := q3
  have S3 := S2.fr f3 (fun k j z => by omega)
  have C3 := C2.c f3 (fun k j z => by omega)
  have R3 := R2.q f3
  refine zS_icmp_eq (tgt := 2083) (zdec eL2 111 rfl) rfl (fun _ => ?_) (fun c => absurd rfl c)
  exact ih _ _ _ _ _ _ _ _ _ ⟨S3, C3, R3, U.2.2.2⟩
theorem cs_26 {nm : String} {d c s : Nat} {h : zH} {xs : Int → Int} {N i : Int} {D : Dk} {I : Int → Dk} {K : Int → Int} {W : Rw} {B : Int → Int} {L F Q : Int} (hd : 300 ≤ d) (i0 : 0 ≤ i) (i1 : i + 6 ≤ N) (U : SU h xs N D I K W B L F Q) (ih : ∀ h' D' I' K' W' B' L' F' Q', SU h' xs N D' I' K' W' B' L' F' Q' → zS (mL nm) (zrl d c s) 2083 [(6, 0), zA 0, zA 108, zI i] [] TT h' zOK) (hr : (Nat.ble c 600000 && Nat.ble s 7302250) = true) : zS (mL nm) (zrl d c s) 884 [(6, 0), zA 0, zA 108, zI i] [] TT h zOK := by
  have iN := U.1.1.2
  refine zS_aload_n (zdec eL2 114 rfl) rfl rfl ?_
  refine zS_aload_n (zdec eL2 115 rfl) rfl rfl ?_
  refine zS_iload_n (zdec eL2 116 rfl) rfl ?_
  refine zS_iconst (zdec eL2 117 rfl) rfl ?_
  refine zS_iadd (zdec eL2 118 rfl) ⟨by omega, by omega⟩ ?_
  refine zS_scr (v := (xs (i + 1))) (zdec eL2 119 rfl) U.1 (by omega) (by omega) rfl ?_
  refine zvMIr (M' := mX9_early) (As := [zI (xs (i + 1))]) (st := []) hr (zdec eL2 120 rfl) kM_L_121 kV_X9_early ⟨by decide, rfl⟩ rfl rfl rfl rfl rfl (by show 1 ≤ d; omega) (p_early (by show _ ≤ d - 1; omega) U.2.2.2.1 U.2.1.1) (fun x2 h2 q2 => ?_)
  obtain ⟨rfl, f2⟩ := q2
  have S2 := U.1.fr f2 (fun k j z => by omega)
  have C2 := U.2.1.q f2
  have R2 := U.2.2.1.c f2 (fun k j z => by omega)
  refine zS_aload_n (zdec eL2 121 rfl) rfl rfl ?_
  refine zS_aload_n (zdec eL2 122 rfl) rfl rfl ?_
  refine zS_iload_n (zdec eL2 123 rfl) rfl ?_
  refine zS_iconst (zdec eL2 124 rfl) rfl ?_
  refine zS_iadd (zdec eL2 125 rfl) ⟨by omega, by omega⟩ ?_
  refine zS_scr (v := (xs (i + 1))) (zdec eL2 126 rfl) S2 (by omega) (by omega) rfl ?_
  refine zvMIr (M' := mX10_early) (As := [zI (xs (i + 1))]) (st := [zI (a_early D (xs (i + 1)))]) hr (zdec eL2 127 rfl) kM_L_124 kV_X10_early ⟨by decide, rfl⟩ rfl rfl rfl rfl rfl (by show 1 ≤ d; omega) (q_early (by show _ ≤ d - 1; omega) U.2.2.2.1 R2.1) (fun x3 h3 q3 => ?_)
  obtain ⟨rfl, f3⟩ := q3
  have S3 := S2.fr f3 (fun k j z => by omega)
  have C3 := C2.c f3 (fun k j z => by omega)
  have R3 := R2.q f3
  refine zS_icmp_eq (tgt := 2083) (zdec eL2 128 rfl) rfl (fun _ => ?_) (fun c => absurd rfl c)
  exact ih _ _ _ _ _ _ _ _ _ ⟨S3, C3, R3, U.2.2.2⟩
theorem cs_27 {nm : String} {d c s : Nat} {h : zH} {xs : Int → Int} {N i : Int} {D : Dk} {I : Int → Dk} {K : Int → Int} {W : Rw} {B : Int → Int} {L F Q : Int} (hd : 300 ≤ d) (i0 : 0 ≤ i) (i1 : i + 6 ≤ N) (U : SU h xs N D I K W B L F Q) (ih : ∀ h' D' I' K' W' B' L' F' Q', SU h' xs N D' I' K' W' B' L' F' Q' → zS (mL nm) (zrl d c s) 2083 [(6, 0), zA 0, zA 108, zI i] [] TT h' zOK) (hr : (Nat.ble c 600000 && Nat.ble s 7302250) = true) : zS (mL nm) (zrl d c s) 907 [(6, 0), zA 0, zA 108, zI i] [] TT h zOK := by
  have iN := U.1.1.2
  refine zS_aload_n (zdec eL2 131 rfl) rfl rfl ?_
  refine zS_aload_n (zdec eL2 132 rfl) rfl rfl ?_
  refine zS_iload_n (zdec eL2 133 rfl) rfl ?_
  refine zS_iconst (zdec eL2 134 rfl) rfl ?_
  refine zS_iadd (zdec eL2 135 rfl) ⟨by omega, by omega⟩ ?_
  refine zS_scr (v := (xs (i + 1))) (zdec eL2 136 rfl) U.1 (by omega) (by omega) rfl ?_
  refine zvMIr (M' := mX9_gets) (As := [zI (xs (i + 1))]) (st := []) hr (zdec eL2 137 rfl) kM_L_125 kV_X9_gets ⟨by decide, rfl⟩ rfl rfl rfl rfl rfl (by show 1 ≤ d; omega) (p_gets (by show _ ≤ d - 1; omega) U.2.2.2.1 U.2.1.1) (fun x2 h2 q2 => ?_)
  obtain ⟨rfl, f2⟩ := q2
  have S2 := U.1.fr f2 (fun k j z => by omega)
  have C2 := U.2.1.q f2
  have R2 := U.2.2.1.c f2 (fun k j z => by omega)
  refine zS_aload_n (zdec eL2 138 rfl) rfl rfl ?_
  refine zS_aload_n (zdec eL2 139 rfl) rfl rfl ?_
  refine zS_iload_n (zdec eL2 140 rfl) rfl ?_
  refine zS_iconst (zdec eL2 141 rfl) rfl ?_
  refine zS_iadd (zdec eL2 142 rfl) ⟨by omega, by omega⟩ ?_
  refine zS_scr (v := (xs (i + 1))) (zdec eL2 143 rfl) S2 (by omega) (by omega) rfl ?_
  refine zvMIr (M' := mX10_gets) (As := [zI (xs (i + 1))]) (st := [zI (a_gets D (xs (i + 1)))]) hr (zdec eL2 144 rfl) kM_L_128 kV_X10_gets ⟨by decide, rfl⟩ rfl rfl rfl rfl rfl (by show 1 ≤ d; omega) (q_gets (by show _ ≤ d - 1; omega) U.2.2.2.1 R2.1) (fun x3 h3 q3 => ?_)
  obtain ⟨rfl, f3⟩ := q3
  have S3 := S2.fr f3 (fun k j z => by omega)
  have C3 := C2.c f3 (fun k j z => by omega)
  have R3 := R2.q f3
  refine zS_icmp_eq (tgt := 2083) (zdec eL2 145 rfl) rfl (fun _ => ?_) (fun c => absurd rfl c)
  exact ih _ _ _ _ _ _ _ _ _ ⟨S3, C3, R3, U.2.2.2⟩
theorem cs_28 {nm : String} {d c s : Nat} {h : zH} {xs : Int → Int} {N i : Int} {D : Dk} {I : Int → Dk} {K : Int → Int} {W : Rw} {B : Int → Int} {L F Q : Int} (hd : 300 ≤ d) (i0 : 0 ≤ i) (i1 : i + 6 ≤ N) (U : SU h xs N D I K W B L F Q) (ih : ∀ h' D' I' K' W' B' L' F' Q', SU h' xs N D' I' K' W' B' L' F' Q' → zS (mL nm) (zrl d c s) 2083 [(6, 0), zA 0, zA 108, zI i] [] TT h' zOK) (hr : (Nat.ble c 600000 && Nat.ble s 7302250) = true) : zS (mL nm) (zrl d c s) 930 [(6, 0), zA 0, zA 108, zI i] [] TT h zOK := by
  have iN := U.1.1.2
  refine zS_aload_n (zdec eL2 148 rfl) rfl rfl ?_
  refine zvMIr (M' := mX9_dear) (As := []) (st := []) hr (zdec eL2 149 rfl) kM_L_129 kV_X9_dear ⟨by decide, rfl⟩ rfl rfl rfl rfl rfl (by show 1 ≤ d; omega) (p_dear (by show _ ≤ d - 1; omega) U.2.2.2.1 U.2.1.1) (fun x2 h2 q2 => ?_)
  obtain ⟨rfl, f2⟩ := q2
  have S2 := U.1.fr f2 (fun k j z => by omega)
  have C2 := U.2.1.q f2
  have R2 := U.2.2.1.c f2 (fun k j z => by omega)
  refine zS_aload_n (zdec eL3 0 rfl) rfl rfl ?_
  refine zvMIr (M' := mX10_dear) (As := []) (st := [zI (a_dear D)]) hr (zdec eL3 1 rfl) kM_L_132 kV_X10_dear ⟨by decide, rfl⟩ rfl rfl rfl rfl rfl (by show 1 ≤ d; omega) (q_dear (by show _ ≤ d - 1; omega) U.2.2.2.1 R2.1) (fun x3 h3 q3 => ?_)
  obtain ⟨rfl, f3⟩ := q3
  have S3 := S2.fr f3 (fun k j z => by omega)
  have C3 := C2.c f3 (fun k j z => by omega)
  have R3 := R2.q f3
  refine zS_icmp_eq (tgt := 2083) (zdec eL3 2 rfl) rfl (fun _ => ?_) (fun c => absurd rfl c)
  exact ih _ _ _ _ _ _ _ _ _ ⟨S3, C3, R3, U.2.2.2⟩
theorem cs_29 {nm : String} {d c s : Nat} {h : zH} {xs : Int → Int} {N i : Int} {D : Dk} {I : Int → Dk} {K : Int → Int} {W : Rw} {B : Int → Int} {L F Q : Int} (hd : 300 ≤ d) (i0 : 0 ≤ i) (i1 : i + 6 ≤ N) (U : SU h xs N D I K W B L F Q) (ih : ∀ h' D' I' K' W' B' L' F' Q', SU h' xs N D' I' K' W' B' L' F' Q' → zS (mL nm) (zrl d c s) 2083 [(6, 0), zA 0, zA 108, zI i] [] TT h' zOK) (hr : (Nat.ble c 600000 && Nat.ble s 7302250) = true) : zS (mL nm) (zrl d c s) 943 [(6, 0), zA 0, zA 108, zI i] [] TT h zOK := by
  have iN := U.1.1.2
  refine zS_aload_n (zdec eL3 5 rfl) rfl rfl ?_
  refine zvMIr (M' := mX9_busy) (As := []) (st := []) hr (zdec eL3 6 rfl) kM_L_133 kV_X9_busy ⟨by decide, rfl⟩ rfl rfl rfl rfl rfl (by show 1 ≤ d; omega) (p_busy (by show _ ≤ d - 1; omega) U.2.2.2.1 U.2.1.1) (fun x2 h2 q2 => ?_)
  obtain ⟨rfl, f2⟩ := q2
  have S2 := U.1.fr f2 (fun k j z => by omega)
  have C2 := U.2.1.q f2
  have R2 := U.2.2.1.c f2 (fun k j z => by omega)
  refine zS_aload_n (zdec eL3 7 rfl) rfl rfl ?_
  refine zvMIr (M' := mX10_busy) (As := []) (st := [zI (a_busy D)]) hr (zdec eL3 8 rfl) kM_L_136 kV_X10_busy ⟨by decide, rfl⟩ rfl rfl rfl rfl rfl (by show 1 ≤ d; omega) (q_busy (by show _ ≤ d - 1; omega) U.2.2.2.1 R2.1) (fun x3 h3 q3 => ?_)
  obtain ⟨rfl, f3⟩ := q3
  have S3 := S2.fr f3 (fun k j z => by omega)
  have C3 := C2.c f3 (fun k j z => by omega)
  have R3 := R2.q f3
  refine zS_icmp_eq (tgt := 2083) (zdec eL3 9 rfl) rfl (fun _ => ?_) (fun c => absurd rfl c)
  exact ih _ _ _ _ _ _ _ _ _ ⟨S3, C3, R3, U.2.2.2⟩
theorem cs_30 {nm : String} {d c s : Nat} {h : zH} {xs : Int → Int} {N i : Int} {D : Dk} {I : Int → Dk} {K : Int → Int} {W : Rw} {B : Int → Int} {L F Q : Int} (hd : 300 ≤ d) (i0 : 0 ≤ i) (i1 : i + 6 ≤ N) (U : SU h xs N D I K W B L F Q) (ih : ∀ h' D' I' K' W' B' L' F' Q', SU h' xs N D' I' K' W' B' L' F' Q' → zS (mL nm) (zrl d c s) 2083 [(6, 0), zA 0, zA 108, zI i] [] TT h' zOK) (hr : (Nat.ble c 600000 && Nat.ble s 7302250) = true) : zS (mL nm) (zrl d c s) 956 [(6, 0), zA 0, zA 108, zI i] [] TT h zOK := by
  have iN := U.1.1.2
  refine zS_aload_n (zdec eL3 12 rfl) rfl rfl ?_
  refine zS_aload_n (zdec eL3 13 rfl) rfl rfl ?_
  refine zS_iload_n (zdec eL3 14 rfl) rfl ?_
  refine zS_iconst (zdec eL3 15 rfl) rfl ?_
  refine zS_iadd (zdec eL3 16 rfl) ⟨by omega, by omega⟩ ?_
  refine zS_scr (v := (xs (i + 1))) (zdec eL3 17 rfl) U.1 (by omega) (by omega) rfl ?_
  refine zvMIr (M' := mX9_lawful) (As := [zI (xs (i + 1))]) (st := []) hr (zdec eL3 18 rfl) kM_L_137 kV_X9_lawful ⟨by decide, rfl⟩ rfl rfl rfl rfl rfl (by show 1 ≤ d; omega) (p_lawful (by show _ ≤ d - 1; omega) U.2.2.2.1 U.2.1.1 U.2.1.2.2.1 U.2.2.2.2.2.1) (fun x2 h2 q2 => ?_)
  obtain ⟨rfl, f2⟩ := q2
  have S2 := U.1.fr f2 (fun k j z => by omega)
  have C2 := U.2.1.q f2
  have R2 := U.2.2.1.c f2 (fun k j z => by omega)
  refine zS_aload_n (zdec eL3 19 rfl) rfl rfl ?_
  refine zS_aload_n (zdec eL3 20 rfl) rfl rfl ?_
  refine zS_iload_n (zdec eL3 21 rfl) rfl ?_
  refine zS_iconst (zdec eL3 22 rfl) rfl ?_
  refine zS_iadd (zdec eL3 23 rfl) ⟨by omega, by omega⟩ ?_
  refine zS_scr (v := (xs (i + 1))) (zdec eL3 24 rfl) S2 (by omega) (by omega) rfl ?_
  refine zvMIr (M' := mX10_lawful) (As := [zI (xs (i + 1))]) (st := [zI (a_lawful D W (xs (i + 1)))]) hr (zdec eL3 25 rfl) kM_L_140 kV_X10_lawful ⟨by decide, rfl⟩ rfl rfl rfl rfl rfl (by show 1 ≤ d; omega) (q_lawful (by show _ ≤ d - 1; omega) U.2.2.2.1 R2.1 R2.2.2.1 U.2.2.2.2.2.1) (fun x3 h3 q3 => ?_)
  obtain ⟨rfl, f3⟩ := q3
  have S3 := S2.fr f3 (fun k j z => by omega)
  have C3 := C2.c f3 (fun k j z => by omega)
  have R3 := R2.q f3
  refine zS_icmp_eq (tgt := 2083) (zdec eL3 26 rfl) rfl (fun _ => ?_) (fun c => absurd rfl c)
  exact ih _ _ _ _ _ _ _ _ _ ⟨S3, C3, R3, U.2.2.2⟩
theorem cs_31 {nm : String} {d c s : Nat} {h : zH} {xs : Int → Int} {N i : Int} {D : Dk} {I : Int → Dk} {K : Int → Int} {W : Rw} {B : Int → Int} {L F Q : Int} (hd : 300 ≤ d) (i0 : 0 ≤ i) (i1 : i + 6 ≤ N) (U : SU h xs N D I K W B L F Q) (ih : ∀ h' D' I' K' W' B' L' F' Q', SU h' xs N D' I' K' W' B' L' F' Q' → zS (mL nm) (zrl d c s) 2083 [(6, 0), zA 0, zA 108, zI i] [] TT h' zOK) (hr : (Nat.ble c 600000 && Nat.ble s 7302250) = true) : zS (mL nm) (zrl d c s) 979 [(6, 0), zA 0, zA 108, zI i] [] TT h zOK := by
  have iN := U.1.1.2
  refine zS_aload_n (zdec eL3 29 rfl) rfl rfl ?_
  refine zS_aload_n (zdec eL3 30 rfl) rfl rfl ?_
  refine zS_iload_n (zdec eL3 31 rfl) rfl ?_
  refine zS_iconst (zdec eL3 32 rfl) rfl ?_
  refine zS_iadd (zdec eL3 33 rfl) ⟨by omega, by omega⟩ ?_
  refine zS_scr (v := (xs (i + 1))) (zdec eL3 34 rfl) U.1 (by omega) (by omega) rfl ?_
  refine zvMIr (M' := mX9_sums) (As := [zI (xs (i + 1))]) (st := []) hr (zdec eL3 35 rfl) kM_L_141 kV_X9_sums ⟨by decide, rfl⟩ rfl rfl rfl rfl rfl (by show 1 ≤ d; omega) (p_sums (by show _ ≤ d - 1; omega) U.2.2.2.1 U.2.1.1 U.2.1.2.2.1 U.2.2.2.2.2.1) (fun x2 h2 q2 => ?_)
  obtain ⟨rfl, f2⟩ := q2
  have S2 := U.1.fr f2 (fun k j z => by omega)
  have C2 := U.2.1.q f2
  have R2 := U.2.2.1.c f2 (fun k j z => by omega)
  refine zS_aload_n (zdec eL3 36 rfl) rfl rfl ?_
  refine zS_aload_n (zdec eL3 37 rfl) rfl rfl ?_
  refine zS_iload_n (zdec eL3 38 rfl) rfl ?_
  refine zS_iconst (zdec eL3 39 rfl) rfl ?_
  refine zS_iadd (zdec eL3 40 rfl) ⟨by omega, by omega⟩ ?_
  refine zS_scr (v := (xs (i + 1))) (zdec eL3 41 rfl) S2 (by omega) (by omega) rfl ?_
  refine zvMIr (M' := mX10_sums) (As := [zI (xs (i + 1))]) (st := [zI (a_sums D W (xs (i + 1)))]) hr (zdec eL3 42 rfl) kM_L_144 kV_X10_sums ⟨by decide, rfl⟩ rfl rfl rfl rfl rfl (by show 1 ≤ d; omega) (q_sums (by show _ ≤ d - 1; omega) U.2.2.2.1 R2.1 R2.2.2.1 U.2.2.2.2.2.1) (fun x3 h3 q3 => ?_)
  obtain ⟨rfl, f3⟩ := q3
  have S3 := S2.fr f3 (fun k j z => by omega)
  have C3 := C2.c f3 (fun k j z => by omega)
  have R3 := R2.q f3
  refine zS_icmp_eq (tgt := 2083) (zdec eL3 43 rfl) rfl (fun _ => ?_) (fun c => absurd rfl c)
  exact ih _ _ _ _ _ _ _ _ _ ⟨S3, C3, R3, U.2.2.2⟩
theorem cs_32 {nm : String} {d c s : Nat} {h : zH} {xs : Int → Int} {N i : Int} {D : Dk} {I : Int → Dk} {K : Int → Int} {W : Rw} {B : Int → Int} {L F Q : Int} (hd : 300 ≤ d) (i0 : 0 ≤ i) (i1 : i + 6 ≤ N) (U : SU h xs N D I K W B L F Q) (ih : ∀ h' D' I' K' W' B' L' F' Q', SU h' xs N D' I' K' W' B' L' F' Q' → zS (mL nm) (zrl d c s) 2083 [(6, 0), zA 0, zA 108, zI i] [] TT h' zOK) (hr : (Nat.ble c 600000 && Nat.ble s 7302250) = true) : zS (mL nm) (zrl d c s) 1002 [(6, 0), zA 0, zA 108, zI i] [] TT h zOK := by
  have iN := U.1.1.2
  refine zS_aload_n (zdec eL3 46 rfl) rfl rfl ?_
  refine zS_aload_n (zdec eL3 47 rfl) rfl rfl ?_
  refine zS_iload_n (zdec eL3 48 rfl) rfl ?_
  refine zS_iconst (zdec eL3 49 rfl) rfl ?_
  refine zS_iadd (zdec eL3 50 rfl) ⟨by omega, by omega⟩ ?_
  refine zS_scr (v := (xs (i + 1))) (zdec eL3 51 rfl) U.1 (by omega) (by omega) rfl ?_
  refine zvMIr (M' := mX9_falls) (As := [zI (xs (i + 1))]) (st := []) hr (zdec eL3 52 rfl) kM_L_145 kV_X9_falls ⟨by decide, rfl⟩ rfl rfl rfl rfl rfl (by show 1 ≤ d; omega) (p_falls (by show _ ≤ d - 1; omega) U.2.2.2.1 U.2.1.1 U.2.1.2.2.1 U.2.2.2.2.2.1) (fun x2 h2 q2 => ?_)
  obtain ⟨rfl, f2⟩ := q2
  have S2 := U.1.fr f2 (fun k j z => by omega)
  have C2 := U.2.1.q f2
  have R2 := U.2.2.1.c f2 (fun k j z => by omega)
  refine zS_aload_n (zdec eL3 53 rfl) rfl rfl ?_
  refine zS_aload_n (zdec eL3 54 rfl) rfl rfl ?_
  refine zS_iload_n (zdec eL3 55 rfl) rfl ?_
  refine zS_iconst (zdec eL3 56 rfl) rfl ?_
  refine zS_iadd (zdec eL3 57 rfl) ⟨by omega, by omega⟩ ?_
  refine zS_scr (v := (xs (i + 1))) (zdec eL3 58 rfl) S2 (by omega) (by omega) rfl ?_
  refine zvMIr (M' := mX10_falls) (As := [zI (xs (i + 1))]) (st := [zI (a_falls D W (xs (i + 1)))]) hr (zdec eL3 59 rfl) kM_L_148 kV_X10_falls ⟨by decide, rfl⟩ rfl rfl rfl rfl rfl (by show 1 ≤ d; omega) (q_falls (by show _ ≤ d - 1; omega) U.2.2.2.1 R2.1 R2.2.2.1 U.2.2.2.2.2.1) (fun x3 h3 q3 => ?_)
  obtain ⟨rfl, f3⟩ := q3
  have S3 := S2.fr f3 (fun k j z => by omega)
  have C3 := C2.c f3 (fun k j z => by omega)
  have R3 := R2.q f3
  refine zS_icmp_eq (tgt := 2083) (zdec eL3 60 rfl) rfl (fun _ => ?_) (fun c => absurd rfl c)
  exact ih _ _ _ _ _ _ _ _ _ ⟨S3, C3, R3, U.2.2.2⟩
theorem cs_33 {nm : String} {d c s : Nat} {h : zH} {xs : Int → Int} {N i : Int} {D : Dk} {I : Int → Dk} {K : Int → Int} {W : Rw} {B : Int → Int} {L F Q : Int} (hd : 300 ≤ d) (i0 : 0 ≤ i) (i1 : i + 6 ≤ N) (U : SU h xs N D I K W B L F Q) (ih : ∀ h' D' I' K' W' B' L' F' Q', SU h' xs N D' I' K' W' B' L' F' Q' → zS (mL nm) (zrl d c s) 2083 [(6, 0), zA 0, zA 108, zI i] [] TT h' zOK) (hr : (Nat.ble c 600000 && Nat.ble s 7302250) = true) : zS (mL nm) (zrl d c s) 1025 [(6, 0), zA 0, zA 108, zI i] [] TT h zOK := by
  have iN := U.1.1.2
  refine zS_aload_n (zdec eL3 63 rfl) rfl rfl ?_
  refine zvMIr (M' := mX9_best) (As := []) (st := []) hr (zdec eL3 64 rfl) kM_L_149 kV_X9_best ⟨by decide, rfl⟩ rfl rfl rfl rfl rfl (by show 1 ≤ d; omega) (p_best (by show _ ≤ d - 1; omega) U.2.2.2.1 U.2.1.1) (fun x2 h2 q2 => ?_)
  obtain ⟨rfl, f2⟩ := q2
  have S2 := U.1.fr f2 (fun k j z => by omega)
  have C2 := U.2.1.q f2
  have R2 := U.2.2.1.c f2 (fun k j z => by omega)
  refine zS_aload_n (zdec eL3 65 rfl) rfl rfl ?_
  refine zvMIr (M' := mX10_best) (As := []) (st := [zI (a_best D)]) hr (zdec eL3 66 rfl) kM_L_152 kV_X10_best ⟨by decide, rfl⟩ rfl rfl rfl rfl rfl (by show 1 ≤ d; omega) (q_best (by show _ ≤ d - 1; omega) U.2.2.2.1 R2.1) (fun x3 h3 q3 => ?_)
  obtain ⟨rfl, f3⟩ := q3
  have S3 := S2.fr f3 (fun k j z => by omega)
  have C3 := C2.c f3 (fun k j z => by omega)
  have R3 := R2.q f3
  refine zS_icmp_eq (tgt := 2083) (zdec eL3 67 rfl) rfl (fun _ => ?_) (fun c => absurd rfl c)
  exact ih _ _ _ _ _ _ _ _ _ ⟨S3, C3, R3, U.2.2.2⟩
theorem cs_34 {nm : String} {d c s : Nat} {h : zH} {xs : Int → Int} {N i : Int} {D : Dk} {I : Int → Dk} {K : Int → Int} {W : Rw} {B : Int → Int} {L F Q : Int} (hd : 300 ≤ d) (i0 : 0 ≤ i) (i1 : i + 6 ≤ N) (U : SU h xs N D I K W B L F Q) (ih : ∀ h' D' I' K' W' B' L' F' Q', SU h' xs N D' I' K' W' B' L' F' Q' → zS (mL nm) (zrl d c s) 2083 [(6, 0), zA 0, zA 108, zI i] [] TT h' zOK) (hr : (Nat.ble c 600000 && Nat.ble s 7302250) = true) : zS (mL nm) (zrl d c s) 1038 [(6, 0), zA 0, zA 108, zI i] [] TT h zOK := by
  have iN := U.1.1.2
  refine zS_aload_n (zdec eL3 70 rfl) rfl rfl ?_
  refine zS_aload_n (zdec eL3 71 rfl) rfl rfl ?_
  refine zS_iload_n (zdec eL3 72 rfl) rfl ?_
  refine zS_iconst (zdec eL3 73 rfl) rfl ?_
  refine zS_iadd (zdec eL3 74 rfl) ⟨by omega, by omega⟩ ?_
  refine zS_scr (v := (xs (i + 1))) (zdec eL3 75 rfl) U.1 (by omega) (by omega) rfl ?_
  refine zvMIr (M' := mX9_choice) (As := [zI (xs (i + 1))]) (st := []) hr (zdec eL3 76 rfl) kM_L_153 kV_X9_choice ⟨by decide, rfl⟩ rfl rfl rfl rfl rfl (by show 1 ≤ d; omega) (p_choice (by show _ ≤ d - 1; omega) U.2.2.2.1 U.2.1.1) (fun x2 h2 q2 => ?_)
  obtain ⟨rfl, f2⟩ := q2
  have S2 := U.1.fr f2 (fun k j z => by omega)
  have C2 := U.2.1.q f2
  have R2 := U.2.2.1.c f2 (fun k j z => by omega)
  refine zS_aload_n (zdec eL3 77 rfl) rfl rfl ?_
  refine zS_aload_n (zdec eL3 78 rfl) rfl rfl ?_
  refine zS_iload_n (zdec eL3 79 rfl) rfl ?_
  refine zS_iconst (zdec eL3 80 rfl) rfl ?_
  refine zS_iadd (zdec eL3 81 rfl) ⟨by omega, by omega⟩ ?_
  refine zS_scr (v := (xs (i + 1))) (zdec eL3 82 rfl) S2 (by omega) (by omega) rfl ?_
  refine zvMIr (M' := mX10_choice) (As := [zI (xs (i + 1))]) (st := [zI (a_choice D (xs (i + 1)))]) hr (zdec eL3 83 rfl) kM_L_156 kV_X10_choice ⟨by decide, rfl⟩ rfl rfl rfl rfl rfl (by show 1 ≤ d; omega) (q_choice (by show _ ≤ d - 1; omega) U.2.2.2.1 R2.1) (fun x3 h3 q3 => ?_)
  obtain ⟨rfl, f3⟩ := q3
  have S3 := S2.fr f3 (fun k j z => by omega)
  have C3 := C2.c f3 (fun k j z => by omega)
  have R3 := R2.q f3
  refine zS_icmp_eq (tgt := 2083) (zdec eL3 84 rfl) rfl (fun _ => ?_) (fun c => absurd rfl c)
  exact ih _ _ _ _ _ _ _ _ _ ⟨S3, C3, R3, U.2.2.2⟩
theorem cs_35 {nm : String} {d c s : Nat} {h : zH} {xs : Int → Int} {N i : Int} {D : Dk} {I : Int → Dk} {K : Int → Int} {W : Rw} {B : Int → Int} {L F Q : Int} (hd : 300 ≤ d) (i0 : 0 ≤ i) (i1 : i + 6 ≤ N) (U : SU h xs N D I K W B L F Q) (ih : ∀ h' D' I' K' W' B' L' F' Q', SU h' xs N D' I' K' W' B' L' F' Q' → zS (mL nm) (zrl d c s) 2083 [(6, 0), zA 0, zA 108, zI i] [] TT h' zOK) (hr : (Nat.ble c 600000 && Nat.ble s 7302250) = true) : zS (mL nm) (zrl d c s) 1061 [(6, 0), zA 0, zA 108, zI i] [] TT h zOK := by
  have iN := U.1.1.2
  refine zS_aload_n (zdec eL3 87 rfl) rfl rfl ?_
  refine zvMIr (M' := mX9_waste) (As := []) (st := []) hr (zdec eL3 88 rfl) kM_L_157 kV_X9_waste ⟨by decide, rfl⟩ rfl rfl rfl rfl rfl (by show 1 ≤ d; omega) (p_waste (by show _ ≤ d - 1; omega) U.2.2.2.1 U.2.1.1) (fun x2 h2 q2 => ?_)
  obtain ⟨rfl, f2⟩ := q2
  have S2 := U.1.fr f2 (fun k j z => by omega)
  have C2 := U.2.1.q f2
  have R2 := U.2.2.1.c f2 (fun k j z => by omega)
  refine zS_aload_n (zdec eL3 89 rfl) rfl rfl ?_
  refine zvMIr (M' := mX10_waste) (As := []) (st := [zI (a_waste D)]) hr (zdec eL3 90 rfl) kM_L_160 kV_X10_waste ⟨by decide, rfl⟩ rfl rfl rfl rfl rfl (by show 1 ≤ d; omega) (q_waste (by show _ ≤ d - 1; omega) U.2.2.2.1 R2.1) (fun x3 h3 q3 => ?_)
  obtain ⟨rfl, f3⟩ := q3
  have S3 := S2.fr f3 (fun k j z => by omega)
  have C3 := C2.c f3 (fun k j z => by omega)
  have R3 := R2.q f3
  refine zS_icmp_eq (tgt := 2083) (zdec eL3 91 rfl) rfl (fun _ => ?_) (fun c => absurd rfl c)
  exact ih _ _ _ _ _ _ _ _ _ ⟨S3, C3, R3, U.2.2.2⟩
theorem cs_36 {nm : String} {d c s : Nat} {h : zH} {xs : Int → Int} {N i : Int} {D : Dk} {I : Int → Dk} {K : Int → Int} {W : Rw} {B : Int → Int} {L F Q : Int} (hd : 300 ≤ d) (i0 : 0 ≤ i) (i1 : i + 6 ≤ N) (U : SU h xs N D I K W B L F Q) (ih : ∀ h' D' I' K' W' B' L' F' Q', SU h' xs N D' I' K' W' B' L' F' Q' → zS (mL nm) (zrl d c s) 2083 [(6, 0), zA 0, zA 108, zI i] [] TT h' zOK) (hr : (Nat.ble c 600000 && Nat.ble s 7302250) = true) : zS (mL nm) (zrl d c s) 1074 [(6, 0), zA 0, zA 108, zI i] [] TT h zOK := by
  have iN := U.1.1.2
  refine zS_aload_n (zdec eL3 94 rfl) rfl rfl ?_
  refine zvMIr (M' := mX9_batch) (As := []) (st := []) hr (zdec eL3 95 rfl) kM_L_161 kV_X9_batch ⟨by decide, rfl⟩ rfl rfl rfl rfl rfl (by show 1 ≤ d; omega) (p_batch (by show _ ≤ d - 1; omega) U.2.2.2.1 U.2.1.1) (fun x2 h2 q2 => ?_)
  obtain ⟨rfl, f2⟩ := q2
  have S2 := U.1.fr f2 (fun k j z => by omega)
  have C2 := U.2.1.q f2
  have R2 := U.2.2.1.c f2 (fun k j z => by omega)
  refine zS_aload_n (zdec eL3 96 rfl) rfl rfl ?_
  refine zvMIr (M' := mX10_batch) (As := []) (st := [zI (a_batch D)]) hr (zdec eL3 97 rfl) kM_L_164 kV_X10_batch ⟨by decide, rfl⟩ rfl rfl rfl rfl rfl (by show 1 ≤ d; omega) (q_batch (by show _ ≤ d - 1; omega) U.2.2.2.1 R2.1) (fun x3 h3 q3 => ?_)
  obtain ⟨rfl, f3⟩ := q3
  have S3 := S2.fr f3 (fun k j z => by omega)
  have C3 := C2.c f3 (fun k j z => by omega)
  have R3 := R2.q f3
  refine zS_icmp_eq (tgt := 2083) (zdec eL3 98 rfl) rfl (fun _ => ?_) (fun c => absurd rfl c)
  exact ih _ _ _ _ _ _ _ _ _ ⟨S3, C3, R3, U.2.2.2⟩
theorem cs_37 {nm : String} {d c s : Nat} {h : zH} {xs : Int → Int} {N i : Int} {D : Dk} {I : Int → Dk} {K : Int → Int} {W : Rw} {B : Int → Int} {L F Q : Int} (hd : 300 ≤ d) (i0 : 0 ≤ i) (i1 : i + 6 ≤ N) (U : SU h xs N D I K W B L F Q) (ih : ∀ h' D' I' K' W' B' L' F' Q', SU h' xs N D' I' K' W' B' L' F' Q' → zS (mL nm) (zrl d c s) 2083 [(6, 0), zA 0, zA 108, zI i] [] TT h' zOK) (hr : (Nat.ble c 600000 && Nat.ble s 7302250) = true) : zS (mL nm) (zrl d c s) 1087 [(6, 0), zA 0, zA 108, zI i] [] TT h zOK := by
  have iN := U.1.1.2
  refine zS_aload_n (zdec eL3 101 rfl) rfl rfl ?_
  refine zvMIr (M' := mX9_when) (As := []) (st := []) hr (zdec eL3 102 rfl) kM_L_165 kV_X9_when ⟨by decide, rfl⟩ rfl rfl rfl rfl rfl (by show 1 ≤ d; omega) (p_when (by show _ ≤ d - 1; omega) U.2.2.2.1 U.2.1.1) (fun x2 h2 q2 => ?_)
  obtain ⟨rfl, f2⟩ := q2
  have S2 := U.1.fr f2 (fun k j z => by omega)
  have C2 := U.2.1.q f2
  have R2 := U.2.2.1.c f2 (fun k j z => by omega)
  refine zS_aload_n (zdec eL3 103 rfl) rfl rfl ?_
  refine zvMIr (M' := mX10_when) (As := []) (st := [zI (a_when D)]) hr (zdec eL3 104 rfl) kM_L_168 kV_X10_when ⟨by decide, rfl⟩ rfl rfl rfl rfl rfl (by show 1 ≤ d; omega) (q_when (by show _ ≤ d - 1; omega) U.2.2.2.1 R2.1) (fun x3 h3 q3 => ?_)
  obtain ⟨rfl, f3⟩ := q3
  have S3 := S2.fr f3 (fun k j z => by omega)
  have C3 := C2.c f3 (fun k j z => by omega)
  have R3 := R2.q f3
  refine zS_icmp_eq (tgt := 2083) (zdec eL3 105 rfl) rfl (fun _ => ?_) (fun c => absurd rfl c)
  exact ih _ _ _ _ _ _ _ _ _ ⟨S3, C3, R3, U.2.2.2⟩
theorem cs_38 {nm : String} {d c s : Nat} {h : zH} {xs : Int → Int} {N i : Int} {D : Dk} {I : Int → Dk} {K : Int → Int} {W : Rw} {B : Int → Int} {L F Q : Int} (hd : 300 ≤ d) (i0 : 0 ≤ i) (i1 : i + 6 ≤ N) (U : SU h xs N D I K W B L F Q) (ih : ∀ h' D' I' K' W' B' L' F' Q', SU h' xs N D' I' K' W' B' L' F' Q' → zS (mL nm) (zrl d c s) 2083 [(6, 0), zA 0, zA 108, zI i] [] TT h' zOK) (hr : (Nat.ble c 600000 && Nat.ble s 7302250) = true) : zS (mL nm) (zrl d c s) 1100 [(6, 0), zA 0, zA 108, zI i] [] TT h zOK := by
  have iN := U.1.1.2
  refine zS_aload_n (zdec eL3 108 rfl) rfl rfl ?_
  refine zS_aload_n (zdec eL3 109 rfl) rfl rfl ?_
  refine zS_iload_n (zdec eL3 110 rfl) rfl ?_
  refine zS_iconst (zdec eL3 111 rfl) rfl ?_
  refine zS_iadd (zdec eL3 112 rfl) ⟨by omega, by omega⟩ ?_
  refine zS_scr (v := (xs (i + 1))) (zdec eL3 113 rfl) U.1 (by omega) (by omega) rfl ?_
  refine zS_aload_n (zdec eL3 114 rfl) rfl rfl ?_
  refine zS_iload_n (zdec eL3 115 rfl) rfl ?_
  refine zS_iconst (zdec eL3 116 rfl) rfl ?_
  refine zS_iadd (zdec eL3 117 rfl) ⟨by omega, by omega⟩ ?_
  refine zS_scr (v := (xs (i + 2))) (zdec eL3 118 rfl) U.1 (by omega) (by omega) rfl ?_
  refine zvMIr (M' := mX9_with) (As := [zI (xs (i + 1)), zI (xs (i + 2))]) (st := []) hr (zdec eL3 119 rfl) kM_L_169 kV_X9_with ⟨by decide, rfl⟩ rfl rfl rfl rfl rfl (by show 1 ≤ d; omega) (p_with (by show _ ≤ d - 1; omega) U.2.2.2.1 U.2.1.1) (fun x2 h2 q2 => ?_)
  obtain ⟨rfl, f2⟩ := q2
  have S2 := U.1.fr f2 (fun k j z => by omega)
  have C2 := U.2.1.q f2
  have R2 := U.2.2.1.c f2 (fun k j z => by omega)
  refine zS_aload_n (zdec eL3 120 rfl) rfl rfl ?_
  refine zS_aload_n (zdec eL3 121 rfl) rfl rfl ?_
  refine zS_iload_n (zdec eL3 122 rfl) rfl ?_
  refine zS_iconst (zdec eL3 123 rfl) rfl ?_
  refine zS_iadd (zdec eL3 124 rfl) ⟨by omega, by omega⟩ ?_
  refine zS_scr (v := (xs (i + 1))) (zdec eL3 125 rfl) S2 (by omega) (by omega) rfl ?_
  refine zS_aload_n (zdec eL3 126 rfl) rfl rfl ?_
  refine zS_iload_n (zdec eL3 127 rfl) rfl ?_
  refine zS_iconst (zdec eL3 128 rfl) rfl ?_
  refine zS_iadd (zdec eL3 129 rfl) ⟨by omega, by omega⟩ ?_
  refine zS_scr (v := (xs (i + 2))) (zdec eL3 130 rfl) S2 (by omega) (by omega) rfl ?_
  refine zvMIr (M' := mX10_with) (As := [zI (xs (i + 1)), zI (xs (i + 2))]) (st := [zI (a_with D (xs (i + 1)) (xs (i + 2)))]) hr (zdec eL3 131 rfl) kM_L_172 kV_X10_with ⟨by decide, rfl⟩ rfl rfl rfl rfl rfl (by show 1 ≤ d; omega) (q_with (by show _ ≤ d - 1; omega) U.2.2.2.1 R2.1) (fun x3 h3 q3 => ?_)
  obtain ⟨rfl, f3⟩ := q3
  have S3 := S2.fr f3 (fun k j z => by omega)
  have C3 := C2.c f3 (fun k j z => by omega)
  have R3 := R2.q f3
  refine zS_icmp_eq (tgt := 2083) (zdec eL3 132 rfl) rfl (fun _ => ?_) (fun c => absurd rfl c)
  exact ih _ _ _ _ _ _ _ _ _ ⟨S3, C3, R3, U.2.2.2⟩
theorem cs_39 {nm : String} {d c s : Nat} {h : zH} {xs : Int → Int} {N i : Int} {D : Dk} {I : Int → Dk} {K : Int → Int} {W : Rw} {B : Int → Int} {L F Q : Int} (hd : 300 ≤ d) (i0 : 0 ≤ i) (i1 : i + 6 ≤ N) (U : SU h xs N D I K W B L F Q) (ih : ∀ h' D' I' K' W' B' L' F' Q', SU h' xs N D' I' K' W' B' L' F' Q' → zS (mL nm) (zrl d c s) 2083 [(6, 0), zA 0, zA 108, zI i] [] TT h' zOK) (hr : (Nat.ble c 600000 && Nat.ble s 7302250) = true) : zS (mL nm) (zrl d c s) 1133 [(6, 0), zA 0, zA 108, zI i] [] TT h zOK := by
  have iN := U.1.1.2
  refine zS_aload_n (zdec eL3 135 rfl) rfl rfl ?_
  refine zS_aload_n (zdec eL3 136 rfl) rfl rfl ?_
  refine zS_iload_n (zdec eL3 137 rfl) rfl ?_
  refine zS_iconst (zdec eL3 138 rfl) rfl ?_
  refine zS_iadd (zdec eL3 139 rfl) ⟨by omega, by omega⟩ ?_
  refine zS_scr (v := (xs (i + 1))) (zdec eL3 140 rfl) U.1 (by omega) (by omega) rfl ?_
  refine zvMIr (M' := mX9_may) (As := [zI (xs (i + 1))]) (st := []) hr (zdec eL3 141 rfl) kM_L_173 kV_X9_may ⟨by decide, rfl⟩ rfl rfl rfl rfl rfl (by show 1 ≤ d; omega) (p_may (by show _ ≤ d - 1; omega) U.2.2.2.1 U.2.1.1) (fun x2 h2 q2 => ?_)
  obtain ⟨rfl, f2⟩ := q2
  have S2 := U.1.fr f2 (fun k j z => by omega)
  have C2 := U.2.1.q f2
  have R2 := U.2.2.1.c f2 (fun k j z => by omega)
  refine zS_aload_n (zdec eL3 142 rfl) rfl rfl ?_
  refine zS_aload_n (zdec eL3 143 rfl) rfl rfl ?_
  refine zS_iload_n (zdec eL3 144 rfl) rfl ?_
  refine zS_iconst (zdec eL3 145 rfl) rfl ?_
  refine zS_iadd (zdec eL3 146 rfl) ⟨by omega, by omega⟩ ?_
  refine zS_scr (v := (xs (i + 1))) (zdec eL3 147 rfl) S2 (by omega) (by omega) rfl ?_
  refine zvMIr (M' := mX10_may) (As := [zI (xs (i + 1))]) (st := [zI (a_may D (xs (i + 1)))]) hr (zdec eL3 148 rfl) kM_L_176 kV_X10_may ⟨by decide, rfl⟩ rfl rfl rfl rfl rfl (by show 1 ≤ d; omega) (q_may (by show _ ≤ d - 1; omega) U.2.2.2.1 R2.1) (fun x3 h3 q3 => ?_)
  obtain ⟨rfl, f3⟩ := q3
  have S3 := S2.fr f3 (fun k j z => by omega)
  have C3 := C2.c f3 (fun k j z => by omega)
  have R3 := R2.q f3
  refine zS_icmp_eq (tgt := 2083) (zdec eL3 149 rfl) rfl (fun _ => ?_) (fun c => absurd rfl c)
  exact ih _ _ _ _ _ _ _ _ _ ⟨S3, C3, R3, U.2.2.2⟩
theorem cs_40 {nm : String} {d c s : Nat} {h : zH} {xs : Int → Int} {N i : Int} {D : Dk} {I : Int → Dk} {K : Int → Int} {W : Rw} {B : Int → Int} {L F Q : Int} (hd : 300 ≤ d) (i0 : 0 ≤ i) (i1 : i + 6 ≤ N) (U : SU h xs N D I K W B L F Q) (ih : ∀ h' D' I' K' W' B' L' F' Q', SU h' xs N D' I' K' W' B' L' F' Q' → zS (mL nm) (zrl d c s) 2083 [(6, 0), zA 0, zA 108, zI i] [] TT h' zOK) (hr : (Nat.ble c 600000 && Nat.ble s 7302250) = true) : zS (mL nm) (zrl d c s) 1156 [(6, 0), zA 0, zA 108, zI i] [] TT h zOK := by
  have iN := U.1.1.2
  refine zS_aload_n (zdec eL4 2 rfl) rfl rfl ?_
  refine zvMIr (M' := mX9_blame) (As := []) (st := []) hr (zdec eL4 3 rfl) kM_L_177 kV_X9_blame ⟨by decide, rfl⟩ rfl rfl rfl rfl rfl (by show 1 ≤ d; omega) (p_blame (by show _ ≤ d - 1; omega) U.2.2.2.1 U.2.1.1) (fun x2 h2 q2 => ?_)
  obtain ⟨rfl, f2⟩ := q2
  have S2 := U.1.fr f2 (fun k j z => by omega)
  have C2 := U.2.1.q f2
  have R2 := U.2.2.1.c f2 (fun k j z => by omega)
  refine zS_aload_n (zdec eL4 4 rfl) rfl rfl ?_
  refine zvMIr (M' := mX10_blame) (As := []) (st := [zI (a_blame D)]) hr (zdec eL4 5 rfl) kM_L_180 kV_X10_blame ⟨by decide, rfl⟩ rfl rfl rfl rfl rfl (by show 1 ≤ d; omega) (q_blame (by show _ ≤ d - 1; omega) U.2.2.2.1 R2.1) (fun x3 h3 q3 => ?_)
  obtain ⟨rfl, f3⟩ := q3
  have S3 := S2.fr f3 (fun k j z => by omega)
  have C3 := C2.c f3 (fun k j z => by omega)
  have R3 := R2.q f3
  refine zS_icmp_eq (tgt := 2083) (zdec eL4 6 rfl) rfl (fun _ => ?_) (fun c => absurd rfl c)
  exact ih _ _ _ _ _ _ _ _ _ ⟨S3, C3, R3, U.2.2.2⟩
theorem cs_41 {nm : String} {d c s : Nat} {h : zH} {xs : Int → Int} {N i : Int} {D : Dk} {I : Int → Dk} {K : Int → Int} {W : Rw} {B : Int → Int} {L F Q : Int} (hd : 300 ≤ d) (i0 : 0 ≤ i) (i1 : i + 6 ≤ N) (U : SU h xs N D I K W B L F Q) (ih : ∀ h' D' I' K' W' B' L' F' Q', SU h' xs N D' I' K' W' B' L' F' Q' → zS (mL nm) (zrl d c s) 2083 [(6, 0), zA 0, zA 108, zI i] [] TT h' zOK) (hr : (Nat.ble c 600000 && Nat.ble s 7302250) = true) : zS (mL nm) (zrl d c s) 1169 [(6, 0), zA 0, zA 108, zI i] [] TT h zOK := by
  have iN := U.1.1.2
  refine zS_aload_n (zdec eL4 9 rfl) rfl rfl ?_
  refine zvMIr (M' := mX9_need) (As := []) (st := []) hr (zdec eL4 10 rfl) kM_L_181 kV_X9_need ⟨by decide, rfl⟩ rfl rfl rfl rfl rfl (by show 1 ≤ d; omega) (p_need (by show _ ≤ d - 1; omega) U.2.2.2.1 U.2.1.1) (fun x2 h2 q2 => ?_)
  obtain ⟨rfl, f2⟩ := q2
  have S2 := U.1.fr f2 (fun k j z => by omega)
  have C2 := U.2.1.q f2
  have R2 := U.2.2.1.c f2 (fun k j z => by omega)
  refine zS_aload_n (zdec eL4 11 rfl) rfl rfl ?_
  refine zvMIr (M' := mX10_need) (As := []) (st := [zI (a_need D)]) hr (zdec eL4 12 rfl) kM_L_184 kV_X10_need ⟨by decide, rfl⟩ rfl rfl rfl rfl rfl (by show 1 ≤ d; omega) (q_need (by show _ ≤ d - 1; omega) U.2.2.2.1 R2.1) (fun x3 h3 q3 => ?_)
  obtain ⟨rfl, f3⟩ := q3
  have S3 := S2.fr f3 (fun k j z => by omega)
  have C3 := C2.c f3 (fun k j z => by omega)
  have R3 := R2.q f3
  refine zS_icmp_eq (tgt := 2083) (zdec eL4 13 rfl) rfl (fun _ => ?_) (fun c => absurd rfl c)
  exact ih _ _ _ _ _ _ _ _ _ ⟨S3, C3, R3, U.2.2.2⟩
theorem cs_42 {nm : String} {d c s : Nat} {h : zH} {xs : Int → Int} {N i : Int} {D : Dk} {I : Int → Dk} {K : Int → Int} {W : Rw} {B : Int → Int} {L F Q : Int} (hd : 300 ≤ d) (i0 : 0 ≤ i) (i1 : i + 6 ≤ N) (U : SU h xs N D I K W B L F Q) (ih : ∀ h' D' I' K' W' B' L' F' Q', SU h' xs N D' I' K' W' B' L' F' Q' → zS (mL nm) (zrl d c s) 2083 [(6, 0), zA 0, zA 108, zI i] [] TT h' zOK) (hr : (Nat.ble c 600000 && Nat.ble s 7302250) = true) : zS (mL nm) (zrl d c s) 1182 [(6, 0), zA 0, zA 108, zI i] [] TT h zOK := by
  have iN := U.1.1.2
  refine zS_aload_n (zdec eL4 16 rfl) rfl rfl ?_
  refine zvMIr (M' := mX9_floor) (As := []) (st := []) hr (zdec eL4 17 rfl) kM_L_185 kV_X9_floor ⟨by decide, rfl⟩ rfl rfl rfl rfl rfl (by show 1 ≤ d; omega) (p_floor (by show _ ≤ d - 1; omega) U.2.2.2.1 U.2.1.1) (fun x2 h2 q2 => ?_)
  obtain ⟨rfl, f2⟩ := q2
  have S2 := U.1.fr f2 (fun k j z => by omega)
  have C2 := U.2.1.q f2
  have R2 := U.2.2.1.c f2 (fun k j z => by omega)
  refine zS_aload_n (zdec eL4 18 rfl) rfl rfl ?_
  refine zvMIr (M' := mX10_floor) (As := []) (st := [zI (a_floor D)]) hr (zdec eL4 19 rfl) kM_L_188 kV_X10_floor ⟨by decide, rfl⟩ rfl rfl rfl rfl rfl (by show 1 ≤ d; omega) (q_floor (by show _ ≤ d - 1; omega) U.2.2.2.1 R2.1) (fun x3 h3 q3 => ?_)
  obtain ⟨rfl, f3⟩ := q3
  have S3 := S2.fr f3 (fun k j z => by omega)
  have C3 := C2.c f3 (fun k j z => by omega)
  have R3 := R2.q f3
  refine zS_icmp_eq (tgt := 2083) (zdec eL4 20 rfl) rfl (fun _ => ?_) (fun c => absurd rfl c)
  exact ih _ _ _ _ _ _ _ _ _ ⟨S3, C3, R3, U.2.2.2⟩
theorem cs_43 {nm : String} {d c s : Nat} {h : zH} {xs : Int → Int} {N i : Int} {D : Dk} {I : Int → Dk} {K : Int → Int} {W : Rw} {B : Int → Int} {L F Q : Int} (hd : 300 ≤ d) (i0 : 0 ≤ i) (i1 : i + 6 ≤ N) (U : SU h xs N D I K W B L F Q) (ih : ∀ h' D' I' K' W' B' L' F' Q', SU h' xs N D' I' K' W' B' L' F' Q' → zS (mL nm) (zrl d c s) 2083 [(6, 0), zA 0, zA 108, zI i] [] TT h' zOK) (hr : (Nat.ble c 600000 && Nat.ble s 7302250) = true) : zS (mL nm) (zrl d c s) 1195 [(6, 0), zA 0, zA 108, zI i] [] TT h zOK := by
  have iN := U.1.1.2
  refine zS_aload_n (zdec eL4 23 rfl) rfl rfl ?_
  refine zvMIr (M' := mX9_broke) (As := []) (st := []) hr (zdec eL4 24 rfl) kM_L_189 kV_X9_broke ⟨by decide, rfl⟩ rfl rfl rfl rfl rfl (by show 1 ≤ d; omega) (p_broke (by show _ ≤ d - 1; omega) U.2.2.2.1 U.2.1.1) (fun x2 h2 q2 => ?_)
  obtain ⟨rfl, f2⟩ := q2
  have S2 := U.1.fr f2 (fun k j z => by omega)
  have C2 := U.2.1.q f2
  have R2 := U.2.2.1.c f2 (fun k j z => by omega)
  refine zS_aload_n (zdec eL4 25 rfl) rfl rfl ?_
  refine zvMIr (M' := mX10_broke) (As := []) (st := [zI (a_broke D)]) hr (zdec eL4 26 rfl) kM_L_192 kV_X10_broke ⟨by decide, rfl⟩ rfl rfl rfl rfl rfl (by show 1 ≤ d; omega) (q_broke (by show _ ≤ d - 1; omega) U.2.2.2.1 R2.1) (fun x3 h3 q3 => ?_)
  obtain ⟨rfl, f3⟩ := q3
  have S3 := S2.fr f3 (fun k j z => by omega)
  have C3 := C2.c f3 (fun k j z => by omega)
  have R3 := R2.q f3
  refine zS_icmp_eq (tgt := 2083) (zdec eL4 27 rfl) rfl (fun _ => ?_) (fun c => absurd rfl c)
  exact ih _ _ _ _ _ _ _ _ _ ⟨S3, C3, R3, U.2.2.2⟩
theorem cs_44 {nm : String} {d c s : Nat} {h : zH} {xs : Int → Int} {N i : Int} {D : Dk} {I : Int → Dk} {K : Int → Int} {W : Rw} {B : Int → Int} {L F Q : Int} (hd : 300 ≤ d) (i0 : 0 ≤ i) (i1 : i + 6 ≤ N) (U : SU h xs N D I K W B L F Q) (ih : ∀ h' D' I' K' W' B' L' F' Q', SU h' xs N D' I' K' W' B' L' F' Q' → zS (mL nm) (zrl d c s) 2083 [(6, 0), zA 0, zA 108, zI i] [] TT h' zOK) (hr : (Nat.ble c 600000 && Nat.ble s 7302250) = true) : zS (mL nm) (zrl d c s) 1208 [(6, 0), zA 0, zA 108, zI i] [] TT h zOK := by
  have iN := U.1.1.2
  refine zS_aload_n (zdec eL4 30 rfl) rfl rfl ?_
  refine zS_aload_n (zdec eL4 31 rfl) rfl rfl ?_
  refine zS_iload_n (zdec eL4 32 rfl) rfl ?_
  refine zS_iconst (zdec eL4 33 rfl) rfl ?_
  refine zS_iadd (zdec eL4 34 rfl) ⟨by omega, by omega⟩ ?_
  refine zS_scr (v := (xs (i + 1))) (zdec eL4 35 rfl) U.1 (by omega) (by omega) rfl ?_
  refine zvMIr (M' := mX9_closing) (As := [zI (xs (i + 1))]) (st := []) hr (zdec eL4 36 rfl) kM_L_193 kV_X9_closing ⟨by decide, rfl⟩ rfl rfl rfl rfl rfl (by show 1 ≤ d; omega) (p_closing (by show _ ≤ d - 1; omega) U.2.2.2.1 U.2.1.1) (fun x2 h2 q2 => ?_)
  obtain ⟨rfl, f2⟩ := q2
  have S2 := U.1.fr f2 (fun k j z => by omega)
  have C2 := U.2.1.q f2
  have R2 := U.2.2.1.c f2 (fun k j z => by omega)
  refine zS_aload_n (zdec eL4 37 rfl) rfl rfl ?_
  refine zS_aload_n (zdec eL4 38 rfl) rfl rfl ?_
  refine zS_iload_n (zdec eL4 39 rfl) rfl ?_
  refine zS_iconst (zdec eL4 40 rfl) rfl ?_
  refine zS_iadd (zdec eL4 41 rfl) ⟨by omega, by omega⟩ ?_
  refine zS_scr (v := (xs (i + 1))) (zdec eL4 42 rfl) S2 (by omega) (by omega) rfl ?_
  refine zvMIr (M' := mX10_closing) (As := [zI (xs (i + 1))]) (st := [zI (a_closing D (xs (i + 1)))]) hr (zdec eL4 43 rfl) kM_L_196 kV_X10_closing ⟨by decide, rfl⟩ rfl rfl rfl rfl rfl (by show 1 ≤ d; omega) (q_closing (by show _ ≤ d - 1; omega) U.2.2.2.1 R2.1) (fun x3 h3 q3 => ?_)
  obtain ⟨rfl, f3⟩ := q3
  have S3 := S2.fr f3 (fun k j z => by omega)
  have C3 := C2.c f3 (fun k j z => by omega)
  have R3 := R2.q f3
  refine zS_icmp_eq (tgt := 2083) (zdec eL4 44 rfl) rfl (fun _ => ?_) (fun c => absurd rfl c)
  exact ih _ _ _ _ _ _ _ _ _ ⟨S3, C3, R3, U.2.2.2⟩
theorem cs_45 {nm : String} {d c s : Nat} {h : zH} {xs : Int → Int} {N i : Int} {D : Dk} {I : Int → Dk} {K : Int → Int} {W : Rw} {B : Int → Int} {L F Q : Int} (hd : 300 ≤ d) (i0 : 0 ≤ i) (i1 : i + 6 ≤ N) (U : SU h xs N D I K W B L F Q) (ih : ∀ h' D' I' K' W' B' L' F' Q', SU h' xs N D' I' K' W' B' L' F' Q' → zS (mL nm) (zrl d c s) 2083 [(6, 0), zA 0, zA 108, zI i] [] TT h' zOK) (hr : (Nat.ble c 600000 && Nat.ble s 7302250) = true) : zS (mL nm) (zrl d c s) 1231 [(6, 0), zA 0, zA 108, zI i] [] TT h zOK := by
  have iN := U.1.1.2
  refine zS_aload_n (zdec eL4 47 rfl) rfl rfl ?_
  refine zS_aload_n (zdec eL4 48 rfl) rfl rfl ?_
  refine zS_iload_n (zdec eL4 49 rfl) rfl ?_
  refine zS_iconst (zdec eL4 50 rfl) rfl ?_
  refine zS_iadd (zdec eL4 51 rfl) ⟨by omega, by omega⟩ ?_
  refine zS_scr (v := (xs (i + 1))) (zdec eL4 52 rfl) U.1 (by omega) (by omega) rfl ?_
  refine zS_aload_n (zdec eL4 53 rfl) rfl rfl ?_
  refine zS_iload_n (zdec eL4 54 rfl) rfl ?_
  refine zS_iconst (zdec eL4 55 rfl) rfl ?_
  refine zS_iadd (zdec eL4 56 rfl) ⟨by omega, by omega⟩ ?_
  refine zS_scr (v := (xs (i + 2))) (zdec eL4 57 rfl) U.1 (by omega) (by omega) rfl ?_
  refine zvMIr (M' := mX9_fits) (As := [zI (xs (i + 1)), zI (xs (i + 2))]) (st := []) hr (zdec eL4 58 rfl) kM_L_197 kV_X9_fits ⟨by decide, rfl⟩ rfl rfl rfl rfl rfl (by show 1 ≤ d; omega) (p_fits (by show _ ≤ d - 1; omega) U.2.2.2.1 U.2.1.1 U.2.1.2.2.1 U.2.2.2.2.2.1) (fun x2 h2 q2 => ?_)
  obtain ⟨rfl, f2⟩ := q2
  have S2 := U.1.fr f2 (fun k j z => by omega)
  have C2 := U.2.1.q f2
  have R2 := U.2.2.1.c f2 (fun k j z => by omega)
  refine zS_aload_n (zdec eL4 59 rfl) rfl rfl ?_
  refine zS_aload_n (zdec eL4 60 rfl) rfl rfl ?_
  refine zS_iload_n (zdec eL4 61 rfl) rfl ?_
  refine zS_iconst (zdec eL4 62 rfl) rfl ?_
  refine zS_iadd (zdec eL4 63 rfl) ⟨by omega, by omega⟩ ?_
  refine zS_scr (v := (xs (i + 1))) (zdec eL4 64 rfl) S2 (by omega) (by omega) rfl ?_
  refine zS_aload_n (zdec eL4 65 rfl) rfl rfl ?_
  refine zS_iload_n (zdec eL4 66 rfl) rfl ?_
  refine zS_iconst (zdec eL4 67 rfl) rfl ?_
  refine zS_iadd (zdec eL4 68 rfl) ⟨by omega, by omega⟩ ?_
  refine zS_scr (v := (xs (i + 2))) (zdec eL4 69 rfl) S2 (by omega) (by omega) rfl ?_
  refine zvMIr (M' := mX10_fits) (As := [zI (xs (i + 1)), zI (xs (i + 2))]) (st := [zI (a_fits D W (xs (i + 1)) (xs (i + 2)))]) hr (zdec eL4 70 rfl) kM_L_200 kV_X10_fits ⟨by decide, rfl⟩ rfl rfl rfl rfl rfl (by show 1 ≤ d; omega) (q_fits (by show _ ≤ d - 1; omega) U.2.2.2.1 R2.1 R2.2.2.1 U.2.2.2.2.2.1) (fun x3 h3 q3 => ?_)
  obtain ⟨rfl, f3⟩ := q3
  have S3 := S2.fr f3 (fun k j z => by omega)
  have C3 := C2.c f3 (fun k j z => by omega)
  have R3 := R2.q f3
  refine zS_icmp_eq (tgt := 2083) (zdec eL4 71 rfl) rfl (fun _ => ?_) (fun c => absurd rfl c)
  exact ih _ _ _ _ _ _ _ _ _ ⟨S3, C3, R3, U.2.2.2⟩
theorem cs_46 {nm : String} {d c s : Nat} {h : zH} {xs : Int → Int} {N i : Int} {D : Dk} {I : Int → Dk} {K : Int → Int} {W : Rw} {B : Int → Int} {L F Q : Int} (hd : 300 ≤ d) (i0 : 0 ≤ i) (i1 : i + 6 ≤ N) (U : SU h xs N D I K W B L F Q) (ih : ∀ h' D' I' K' W' B' L' F' Q', SU h' xs N D' I' K' W' B' L' F' Q' → zS (mL nm) (zrl d c s) 2083 [(6, 0), zA 0, zA 108, zI i] [] TT h' zOK) (hr : (Nat.ble c 600000 && Nat.ble s 7302250) = true) : zS (mL nm) (zrl d c s) 1264 [(6, 0), zA 0, zA 108, zI i] [] TT h zOK := by
  have iN := U.1.1.2
  refine zS_aload_n (zdec eL4 74 rfl) rfl rfl ?_
  refine zS_aload_n (zdec eL4 75 rfl) rfl rfl ?_
  refine zS_iload_n (zdec eL4 76 rfl) rfl ?_
  refine zS_iconst (zdec eL4 77 rfl) rfl ?_
  refine zS_iadd (zdec eL4 78 rfl) ⟨by omega, by omega⟩ ?_
  refine zS_scr (v := (xs (i + 1))) (zdec eL4 79 rfl) U.1 (by omega) (by omega) rfl ?_
  refine zS_aload_n (zdec eL4 80 rfl) rfl rfl ?_
  refine zS_iload_n (zdec eL4 81 rfl) rfl ?_
  refine zS_iconst (zdec eL4 82 rfl) rfl ?_
  refine zS_iadd (zdec eL4 83 rfl) ⟨by omega, by omega⟩ ?_
  refine zS_scr (v := (xs (i + 2))) (zdec eL4 84 rfl) U.1 (by omega) (by omega) rfl ?_
  refine zvMIr (M' := mX9_low) (As := [zI (xs (i + 1)), zI (xs (i + 2))]) (st := []) hr (zdec eL4 85 rfl) kM_L_201 kV_X9_low ⟨by decide, rfl⟩ rfl rfl rfl rfl rfl (by show 1 ≤ d; omega) (p_low (by show _ ≤ d - 1; omega) U.2.2.2.1 U.2.1.1 U.2.1.2.2.1 U.2.2.2.2.2.1) (fun x2 h2 q2 => ?_)
  obtain ⟨rfl, f2⟩ := q2
  have S2 := U.1.fr f2 (fun k j z => by omega)
  have C2 := U.2.1.q f2
  have R2 := U.2.2.1.c f2 (fun k j z => by omega)
  refine zS_aload_n (zdec eL4 86 rfl) rfl rfl ?_
  refine zS_aload_n (zdec eL4 87 rfl) rfl rfl ?_
  refine zS_iload_n (zdec eL4 88 rfl) rfl ?_
  refine zS_iconst (zdec eL4 89 rfl) rfl ?_
  refine zS_iadd (zdec eL4 90 rfl) ⟨by omega, by omega⟩ ?_
  refine zS_scr (v := (xs (i + 1))) (zdec eL4 91 rfl) S2 (by omega) (by omega) rfl ?_
  refine zS_aload_n (zdec eL4 92 rfl) rfl rfl ?_
  refine zS_iload_n (zdec eL4 93 rfl) rfl ?_
  refine zS_iconst (zdec eL4 94 rfl) rfl ?_
  refine zS_iadd (zdec eL4 95 rfl) ⟨by omega, by omega⟩ ?_
  refine zS_scr (v := (xs (i + 2))) (zdec eL4 96 rfl) S2 (by omega) (by omega) rfl ?_
  refine zvMIr (M' := mX10_low) (As := [zI (xs (i + 1)), zI (xs (i + 2))]) (st := [zI (a_low D W (xs (i + 1)) (xs (i + 2)))]) hr (zdec eL4 97 rfl) kM_L_204 kV_X10_low ⟨by decide, rfl⟩ rfl rfl rfl rfl rfl (by show 1 ≤ d; omega) (q_low (by show _ ≤ d - 1; omega) U.2.2.2.1 R2.1 R2.2.2.1 U.2.2.2.2.2.1) (fun x3 h3 q3 => ?_)
  obtain ⟨rfl, f3⟩ := q3
  have S3 := S2.fr f3 (fun k j z => by omega)
  have C3 := C2.c f3 (fun k j z => by omega)
  have R3 := R2.q f3
  refine zS_icmp_eq (tgt := 2083) (zdec eL4 98 rfl) rfl (fun _ => ?_) (fun c => absurd rfl c)
  exact ih _ _ _ _ _ _ _ _ _ ⟨S3, C3, R3, U.2.2.2⟩
theorem cs_47 {nm : String} {d c s : Nat} {h : zH} {xs : Int → Int} {N i : Int} {D : Dk} {I : Int → Dk} {K : Int → Int} {W : Rw} {B : Int → Int} {L F Q : Int} (hd : 300 ≤ d) (i0 : 0 ≤ i) (i1 : i + 6 ≤ N) (U : SU h xs N D I K W B L F Q) (ih : ∀ h' D' I' K' W' B' L' F' Q', SU h' xs N D' I' K' W' B' L' F' Q' → zS (mL nm) (zrl d c s) 2083 [(6, 0), zA 0, zA 108, zI i] [] TT h' zOK) (hr : (Nat.ble c 600000 && Nat.ble s 7302250) = true) : zS (mL nm) (zrl d c s) 1297 [(6, 0), zA 0, zA 108, zI i] [] TT h zOK := by
  have iN := U.1.1.2
  refine zS_aload_n (zdec eL4 101 rfl) rfl rfl ?_
  refine zS_aload_n (zdec eL4 102 rfl) rfl rfl ?_
  refine zS_iload_n (zdec eL4 103 rfl) rfl ?_
  refine zS_iconst (zdec eL4 104 rfl) rfl ?_
  refine zS_iadd (zdec eL4 105 rfl) ⟨by omega, by omega⟩ ?_
  refine zS_scr (v := (xs (i + 1))) (zdec eL4 106 rfl) U.1 (by omega) (by omega) rfl ?_
  refine zS_aload_n (zdec eL4 107 rfl) rfl rfl ?_
  refine zS_iload_n (zdec eL4 108 rfl) rfl ?_
  refine zS_iconst (zdec eL4 109 rfl) rfl ?_
  refine zS_iadd (zdec eL4 110 rfl) ⟨by omega, by omega⟩ ?_
  refine zS_scr (v := (xs (i + 2))) (zdec eL4 111 rfl) U.1 (by omega) (by omega) rfl ?_
  refine zvMIr (M' := mX9_high) (As := [zI (xs (i + 1)), zI (xs (i + 2))]) (st := []) hr (zdec eL4 112 rfl) kM_L_205 kV_X9_high ⟨by decide, rfl⟩ rfl rfl rfl rfl rfl (by show 1 ≤ d; omega) (p_high (by show _ ≤ d - 1; omega) U.2.2.2.1 U.2.1.1 U.2.1.2.2.1 U.2.2.2.2.2.1) (fun x2 h2 q2 => ?_)
  obtain ⟨rfl, f2⟩ := q2
  have S2 := U.1.fr f2 (fun k j z => by omega)
  have C2 := U.2.1.q f2
  have R2 := U.2.2.1.c f2 (fun k j z => by omega)
  refine zS_aload_n (zdec eL4 113 rfl) rfl rfl ?_
  refine zS_aload_n (zdec eL4 114 rfl) rfl rfl ?_
  refine zS_iload_n (zdec eL4 115 rfl) rfl ?_
  refine zS_iconst (zdec eL4 116 rfl) rfl ?_
  refine zS_iadd (zdec eL4 117 rfl) ⟨by omega, by omega⟩ ?_
  refine zS_scr (v := (xs (i + 1))) (zdec eL4 118 rfl) S2 (by omega) (by omega) rfl ?_
  refine zS_aload_n (zdec eL4 119 rfl) rfl rfl ?_
  refine zS_iload_n (zdec eL4 120 rfl) rfl ?_
  refine zS_iconst (zdec eL4 121 rfl) rfl ?_
  refine zS_iadd (zdec eL4 122 rfl) ⟨by omega, by omega⟩ ?_
  refine zS_scr (v := (xs (i + 2))) (zdec eL4 123 rfl) S2 (by omega) (by omega) rfl ?_
  refine zvMIr (M' := mX10_high) (As := [zI (xs (i + 1)), zI (xs (i + 2))]) (st := [zI (a_high D W (xs (i + 1)) (xs (i + 2)))]) hr (zdec eL4 124 rfl) kM_L_208 kV_X10_high ⟨by decide, rfl⟩ rfl rfl rfl rfl rfl (by show 1 ≤ d; omega) (q_high (by show _ ≤ d - 1; omega) U.2.2.2.1 R2.1 R2.2.2.1 U.2.2.2.2.2.1) (fun x3 h3 q3 => ?_)
  obtain ⟨rfl, f3⟩ := q3
  have S3 := S2.fr f3 (fun k j z => by omega)
  have C3 := C2.c f3 (fun k j z => by omega)
  have R3 := R2.q f3
  refine zS_icmp_eq (tgt := 2083) (zdec eL4 125 rfl) rfl (fun _ => ?_) (fun c => absurd rfl c)
  exact ih _ _ _ _ _ _ _ _ _ ⟨S3, C3, R3, U.2.2.2⟩
theorem cs_48 {nm : String} {d c s : Nat} {h : zH} {xs : Int → Int} {N i : Int} {D : Dk} {I : Int → Dk} {K : Int → Int} {W : Rw} {B : Int → Int} {L F Q : Int} (hd : 300 ≤ d) (i0 : 0 ≤ i) (i1 : i + 6 ≤ N) (U : SU h xs N D I K W B L F Q) (ih : ∀ h' D' I' K' W' B' L' F' Q', SU h' xs N D' I' K' W' B' L' F' Q' → zS (mL nm) (zrl d c s) 2083 [(6, 0), zA 0, zA 108, zI i] [] TT h' zOK) (hr : (Nat.ble c 600000 && Nat.ble s 7302250) = true) : zS (mL nm) (zrl d c s) 1330 [(6, 0), zA 0, zA 108, zI i] [] TT h zOK := by
  have iN := U.1.1.2
  refine zS_aload_n (zdec eL4 128 rfl) rfl rfl ?_
  refine zS_aload_n (zdec eL4 129 rfl) rfl rfl ?_
  refine zS_iload_n (zdec eL4 130 rfl) rfl ?_
  refine zS_iconst (zdec eL4 131 rfl) rfl ?_
  refine zS_iadd (zdec eL4 132 rfl) ⟨by omega, by omega⟩ ?_
  refine zS_scr (v := (xs (i + 1))) (zdec eL4 133 rfl) U.1 (by omega) (by omega) rfl ?_
  refine zS_aload_n (zdec eL4 134 rfl) rfl rfl ?_
  refine zS_iload_n (zdec eL4 135 rfl) rfl ?_
  refine zS_iconst (zdec eL4 136 rfl) rfl ?_
  refine zS_iadd (zdec eL4 137 rfl) ⟨by omega, by omega⟩ ?_
  refine zS_scr (v := (xs (i + 2))) (zdec eL4 138 rfl) U.1 (by omega) (by omega) rfl ?_
  refine zvMIr (M' := mX9_ask) (As := [zI (xs (i + 1)), zI (xs (i + 2))]) (st := []) hr (zdec eL4 139 rfl) kM_L_209 kV_X9_ask ⟨by decide, rfl⟩ rfl rfl rfl rfl rfl (by show 1 ≤ d; omega) (p_ask (by show _ ≤ d - 1; omega) U.2.2.2.1 U.2.1.1 U.2.1.2.2.1 U.2.2.2.2.2.1) (fun x2 h2 q2 => ?_)
  obtain ⟨rfl, f2⟩ := q2
  have S2 := U.1.fr f2 (fun k j z => by omega)
  have C2 := U.2.1.q f2
  have R2 := U.2.2.1.c f2 (fun k j z => by omega)
  refine zS_aload_n (zdec eL4 140 rfl) rfl rfl ?_
  refine zS_aload_n (zdec eL4 141 rfl) rfl rfl ?_
  refine zS_iload_n (zdec eL4 142 rfl) rfl ?_
  refine zS_iconst (zdec eL4 143 rfl) rfl ?_
  refine zS_iadd (zdec eL4 144 rfl) ⟨by omega, by omega⟩ ?_
  refine zS_scr (v := (xs (i + 1))) (zdec eL4 145 rfl) S2 (by omega) (by omega) rfl ?_
  refine zS_aload_n (zdec eL4 146 rfl) rfl rfl ?_
  refine zS_iload_n (zdec eL4 147 rfl) rfl ?_
  refine zS_iconst (zdec eL4 148 rfl) rfl ?_
  refine zS_iadd (zdec eL4 149 rfl) ⟨by omega, by omega⟩ ?_
  refine zS_scr (v := (xs (i + 2))) (zdec eL5 0 rfl) S2 (by omega) (by omega) rfl ?_
  refine zvMIr (M' := mX10_ask) (As := [zI (xs (i + 1)), zI (xs (i + 2))]) (st := [zI (a_ask D W (xs (i + 1)) (xs (i + 2)))]) hr (zdec eL5 1 rfl) kM_L_212 kV_X10_ask ⟨by decide, rfl⟩ rfl rfl rfl rfl rfl (by show 1 ≤ d; omega) (q_ask (by show _ ≤ d - 1; omega) U.2.2.2.1 R2.1 R2.2.2.1 U.2.2.2.2.2.1) (fun x3 h3 q3 => ?_)
  obtain ⟨rfl, f3⟩ := q3
  have S3 := S2.fr f3 (fun k j z => by omega)
  have C3 := C2.c f3 (fun k j z => by omega)
  have R3 := R2.q f3
  refine zS_icmp_eq (tgt := 2083) (zdec eL5 2 rfl) rfl (fun _ => ?_) (fun c => absurd rfl c)
  exact ih _ _ _ _ _ _ _ _ _ ⟨S3, C3, R3, U.2.2.2⟩
theorem cs_49 {nm : String} {d c s : Nat} {h : zH} {xs : Int → Int} {N i : Int} {D : Dk} {I : Int → Dk} {K : Int → Int} {W : Rw} {B : Int → Int} {L F Q : Int} (hd : 300 ≤ d) (i0 : 0 ≤ i) (i1 : i + 6 ≤ N) (U : SU h xs N D I K W B L F Q) (ih : ∀ h' D' I' K' W' B' L' F' Q', SU h' xs N D' I' K' W' B' L' F' Q' → zS (mL nm) (zrl d c s) 2083 [(6, 0), zA 0, zA 108, zI i] [] TT h' zOK) (hr : (Nat.ble c 600000 && Nat.ble s 7302250) = true) : zS (mL nm) (zrl d c s) 1363 [(6, 0), zA 0, zA 108, zI i] [] TT h zOK := by
  have iN := U.1.1.2
  refine zS_aload_n (zdec eL5 5 rfl) rfl rfl ?_
  refine zS_aload_n (zdec eL5 6 rfl) rfl rfl ?_
  refine zS_iload_n (zdec eL5 7 rfl) rfl ?_
  refine zS_iconst (zdec eL5 8 rfl) rfl ?_
  refine zS_iadd (zdec eL5 9 rfl) ⟨by omega, by omega⟩ ?_
  refine zS_scr (v := (xs (i + 1))) (zdec eL5 10 rfl) U.1 (by omega) (by omega) rfl ?_
  refine zS_aload_n (zdec eL5 11 rfl) rfl rfl ?_
  refine zS_iload_n (zdec eL5 12 rfl) rfl ?_
  refine zS_iconst (zdec eL5 13 rfl) rfl ?_
  refine zS_iadd (zdec eL5 14 rfl) ⟨by omega, by omega⟩ ?_
  refine zS_scr (v := (xs (i + 2))) (zdec eL5 15 rfl) U.1 (by omega) (by omega) rfl ?_
  refine zvMIr (M' := mX9_leaves) (As := [zI (xs (i + 1)), zI (xs (i + 2))]) (st := []) hr (zdec eL5 16 rfl) kM_L_213 kV_X9_leaves ⟨by decide, rfl⟩ rfl rfl rfl rfl rfl (by show 1 ≤ d; omega) (p_leaves (by show _ ≤ d - 1; omega) U.2.2.2.1 U.2.1.1 U.2.1.2.2.1 U.2.2.2.2.2.1) (fun x2 h2 q2 => ?_)
  obtain ⟨rfl, f2⟩ := q2
  have S2 := U.1.fr f2 (fun k j z => by omega)
  have C2 := U.2.1.q f2
  have R2 := U.2.2.1.c f2 (fun k j z => by omega)
  refine zS_aload_n (zdec eL5 17 rfl) rfl rfl ?_
  refine zS_aload_n (zdec eL5 18 rfl) rfl rfl ?_
  refine zS_iload_n (zdec eL5 19 rfl) rfl ?_
  refine zS_iconst (zdec eL5 20 rfl) rfl ?_
  refine zS_iadd (zdec eL5 21 rfl) ⟨by omega, by omega⟩ ?_
  refine zS_scr (v := (xs (i + 1))) (zdec eL5 22 rfl) S2 (by omega) (by omega) rfl ?_
  refine zS_aload_n (zdec eL5 23 rfl) rfl rfl ?_
  refine zS_iload_n (zdec eL5 24 rfl) rfl ?_
  refine zS_iconst (zdec eL5 25 rfl) rfl ?_
  refine zS_iadd (zdec eL5 26 rfl) ⟨by omega, by omega⟩ ?_
  refine zS_scr (v := (xs (i + 2))) (zdec eL5 27 rfl) S2 (by omega) (by omega) rfl ?_
  refine zvMIr (M' := mX10_leaves) (As := [zI (xs (i + 1)), zI (xs (i + 2))]) (st := [zI (a_leaves D W (xs (i + 1)) (xs (i + 2)))]) hr (zdec eL5 28 rfl) kM_L_216 kV_X10_leaves ⟨by decide, rfl⟩ rfl rfl rfl rfl rfl (by show 1 ≤ d; omega) (q_leaves (by show _ ≤ d - 1; omega) U.2.2.2.1 R2.1 R2.2.2.1 U.2.2.2.2.2.1) (fun x3 h3 q3 => ?_)
  obtain ⟨rfl, f3⟩ := q3
  have S3 := S2.fr f3 (fun k j z => by omega)
  have C3 := C2.c f3 (fun k j z => by omega)
  have R3 := R2.q f3
  refine zS_icmp_eq (tgt := 2083) (zdec eL5 29 rfl) rfl (fun _ => ?_) (fun c => absurd rfl c)
  exact ih _ _ _ _ _ _ _ _ _ ⟨S3, C3, R3, U.2.2.2⟩
theorem cs_50 {nm : String} {d c s : Nat} {h : zH} {xs : Int → Int} {N i : Int} {D : Dk} {I : Int → Dk} {K : Int → Int} {W : Rw} {B : Int → Int} {L F Q : Int} (hd : 300 ≤ d) (i0 : 0 ≤ i) (i1 : i + 6 ≤ N) (U : SU h xs N D I K W B L F Q) (ih : ∀ h' D' I' K' W' B' L' F' Q', SU h' xs N D' I' K' W' B' L' F' Q' → zS (mL nm) (zrl d c s) 2083 [(6, 0), zA 0, zA 108, zI i] [] TT h' zOK) (hr : (Nat.ble c 600000 && Nat.ble s 7302250) = true) : zS (mL nm) (zrl d c s) 1396 [(6, 0), zA 0, zA 108, zI i] [] TT h zOK := by
  have iN := U.1.1.2
  refine zS_aload_n (zdec eL5 32 rfl) rfl rfl ?_
  refine zS_aload_n (zdec eL5 33 rfl) rfl rfl ?_
  refine zS_iload_n (zdec eL5 34 rfl) rfl ?_
  refine zS_iconst (zdec eL5 35 rfl) rfl ?_
  refine zS_iadd (zdec eL5 36 rfl) ⟨by omega, by omega⟩ ?_
  refine zS_scr (v := (xs (i + 1))) (zdec eL5 37 rfl) U.1 (by omega) (by omega) rfl ?_
  refine zvMIr (M' := mX9_laws) (As := [zI (xs (i + 1))]) (st := []) hr (zdec eL5 38 rfl) kM_L_217 kV_X9_laws ⟨by decide, rfl⟩ rfl rfl rfl rfl rfl (by show 1 ≤ d; omega) (p_laws (by show _ ≤ d - 1; omega) U.2.2.2.1 U.2.1.1 U.2.1.2.2.1 U.2.2.2.2.2.1) (fun x2 h2 q2 => ?_)
  obtain ⟨rfl, f2⟩ := q2
  have S2 := U.1.fr f2 (fun k j z => by omega)
  have C2 := U.2.1.q f2
  have R2 := U.2.2.1.c f2 (fun k j z => by omega)
  refine zS_aload_n (zdec eL5 39 rfl) rfl rfl ?_
  refine zS_aload_n (zdec eL5 40 rfl) rfl rfl ?_
  refine zS_iload_n (zdec eL5 41 rfl) rfl ?_
  refine zS_iconst (zdec eL5 42 rfl) rfl ?_
  refine zS_iadd (zdec eL5 43 rfl) ⟨by omega, by omega⟩ ?_
  refine zS_scr (v := (xs (i + 1))) (zdec eL5 44 rfl) S2 (by omega) (by omega) rfl ?_
  refine zvMIr (M' := mX10_laws) (As := [zI (xs (i + 1))]) (st := [zI (a_laws D W (xs (i + 1)))]) hr (zdec eL5 45 rfl) kM_L_220 kV_X10_laws ⟨by decide, rfl⟩ rfl rfl rfl rfl rfl (by show 1 ≤ d; omega) (q_laws (by show _ ≤ d - 1; omega) U.2.2.2.1 R2.1 R2.2.2.1 U.2.2.2.2.2.1) (fun x3 h3 q3 => ?_)
  obtain ⟨rfl, f3⟩ := q3
  have S3 := S2.fr f3 (fun k j z => by omega)
  have C3 := C2.c f3 (fun k j z => by omega)
  have R3 := R2.q f3
  refine zS_icmp_eq (tgt := 2083) (zdec eL5 46 rfl) rfl (fun _ => ?_) (fun c => absurd rfl c)
  exact ih _ _ _ _ _ _ _ _ _ ⟨S3, C3, R3, U.2.2.2⟩
theorem cs_51 {nm : String} {d c s : Nat} {h : zH} {xs : Int → Int} {N i : Int} {D : Dk} {I : Int → Dk} {K : Int → Int} {W : Rw} {B : Int → Int} {L F Q : Int} (hd : 300 ≤ d) (i0 : 0 ≤ i) (i1 : i + 6 ≤ N) (U : SU h xs N D I K W B L F Q) (ih : ∀ h' D' I' K' W' B' L' F' Q', SU h' xs N D' I' K' W' B' L' F' Q' → zS (mL nm) (zrl d c s) 2083 [(6, 0), zA 0, zA 108, zI i] [] TT h' zOK) (hr : (Nat.ble c 600000 && Nat.ble s 7302250) = true) : zS (mL nm) (zrl d c s) 1419 [(6, 0), zA 0, zA 108, zI i] [] TT h zOK := by
  have iN := U.1.1.2
  refine zS_aload_n (zdec eL5 49 rfl) rfl rfl ?_
  refine zS_aload_n (zdec eL5 50 rfl) rfl rfl ?_
  refine zS_iload_n (zdec eL5 51 rfl) rfl ?_
  refine zS_iconst (zdec eL5 52 rfl) rfl ?_
  refine zS_iadd (zdec eL5 53 rfl) ⟨by omega, by omega⟩ ?_
  refine zS_scr (v := (xs (i + 1))) (zdec eL5 54 rfl) U.1 (by omega) (by omega) rfl ?_
  refine zvMIr (M' := mX9_by) (As := [zI (xs (i + 1))]) (st := []) hr (zdec eL5 55 rfl) kM_L_221 kV_X9_by ⟨by decide, rfl⟩ rfl rfl rfl rfl rfl (by show 1 ≤ d; omega) (p_by (by show _ ≤ d - 1; omega) U.2.2.2.1 U.2.1.1) (fun x2 h2 q2 => ?_)
  obtain ⟨rfl, f2⟩ := q2
  have S2 := U.1.fr f2 (fun k j z => by omega)
  have C2 := U.2.1.q f2
  have R2 := U.2.2.1.c f2 (fun k j z => by omega)
  refine zS_aload_n (zdec eL5 56 rfl) rfl rfl ?_
  refine zS_aload_n (zdec eL5 57 rfl) rfl rfl ?_
  refine zS_iload_n (zdec eL5 58 rfl) rfl ?_
  refine zS_iconst (zdec eL5 59 rfl) rfl ?_
  refine zS_iadd (zdec eL5 60 rfl) ⟨by omega, by omega⟩ ?_
  refine zS_scr (v := (xs (i + 1))) (zdec eL5 61 rfl) S2 (by omega) (by omega) rfl ?_
  refine zvMIr (M' := mX10_by) (As := [zI (xs (i + 1))]) (st := [zI (a_by D (xs (i + 1)))]) hr (zdec eL5 62 rfl) kM_L_224 kV_X10_by ⟨by decide, rfl⟩ rfl rfl rfl rfl rfl (by show 1 ≤ d; omega) (q_by (by show _ ≤ d - 1; omega) U.2.2.2.1 R2.1) (fun x3 h3 q3 => ?_)
  obtain ⟨rfl, f3⟩ := q3
  have S3 := S2.fr f3 (fun k j z => by omega)
  have C3 := C2.c f3 (fun k j z => by omega)
  have R3 := R2.q f3
  refine zS_icmp_eq (tgt := 2083) (zdec eL5 63 rfl) rfl (fun _ => ?_) (fun c => absurd rfl c)
  exact ih _ _ _ _ _ _ _ _ _ ⟨S3, C3, R3, U.2.2.2⟩
theorem cs_52 {nm : String} {d c s : Nat} {h : zH} {xs : Int → Int} {N i : Int} {D : Dk} {I : Int → Dk} {K : Int → Int} {W : Rw} {B : Int → Int} {L F Q : Int} (hd : 300 ≤ d) (i0 : 0 ≤ i) (i1 : i + 6 ≤ N) (U : SU h xs N D I K W B L F Q) (ih : ∀ h' D' I' K' W' B' L' F' Q', SU h' xs N D' I' K' W' B' L' F' Q' → zS (mL nm) (zrl d c s) 2083 [(6, 0), zA 0, zA 108, zI i] [] TT h' zOK) (hr : (Nat.ble c 600000 && Nat.ble s 7302250) = true) : zS (mL nm) (zrl d c s) 1442 [(6, 0), zA 0, zA 108, zI i] [] TT h zOK := by
  have iN := U.1.1.2
  refine zS_aload_n (zdec eL5 66 rfl) rfl rfl ?_
  refine zvMIr (M' := mX9_law) (As := []) (st := []) hr (zdec eL5 67 rfl) kM_L_225 kV_X9_law ⟨by decide, rfl⟩ rfl rfl rfl rfl rfl (by show 1 ≤ d; omega) (p_law (by show _ ≤ d - 1; omega) U.2.2.2.1 U.2.1.1) (fun x2 h2 q2 => ?_)
  obtain ⟨rfl, f2⟩ := q2
  have S2 := U.1.fr f2 (fun k j z => by omega)
  have C2 := U.2.1.q f2
  have R2 := U.2.2.1.c f2 (fun k j z => by omega)
  refine zS_aload_n (zdec eL5 68 rfl) rfl rfl ?_
  refine zvMIr (M' := mX10_law) (As := []) (st := [zI (a_law D)]) hr (zdec eL5 69 rfl) kM_L_228 kV_X10_law ⟨by decide, rfl⟩ rfl rfl rfl rfl rfl (by show 1 ≤ d; omega) (q_law (by show _ ≤ d - 1; omega) U.2.2.2.1 R2.1) (fun x3 h3 q3 => ?_)
  obtain ⟨rfl, f3⟩ := q3
  have S3 := S2.fr f3 (fun k j z => by omega)
  have C3 := C2.c f3 (fun k j z => by omega)
  have R3 := R2.q f3
  refine zS_icmp_eq (tgt := 2083) (zdec eL5 70 rfl) rfl (fun _ => ?_) (fun c => absurd rfl c)
  exact ih _ _ _ _ _ _ _ _ _ ⟨S3, C3, R3, U.2.2.2⟩
theorem cs_53 {nm : String} {d c s : Nat} {h : zH} {xs : Int → Int} {N i : Int} {D : Dk} {I : Int → Dk} {K : Int → Int} {W : Rw} {B : Int → Int} {L F Q : Int} (hd : 300 ≤ d) (i0 : 0 ≤ i) (i1 : i + 6 ≤ N) (U : SU h xs N D I K W B L F Q) (ih : ∀ h' D' I' K' W' B' L' F' Q', SU h' xs N D' I' K' W' B' L' F' Q' → zS (mL nm) (zrl d c s) 2083 [(6, 0), zA 0, zA 108, zI i] [] TT h' zOK) (hr : (Nat.ble c 600000 && Nat.ble s 7302250) = true) : zS (mL nm) (zrl d c s) 1455 [(6, 0), zA 0, zA 108, zI i] [] TT h zOK := by
  have iN := U.1.1.2
  refine zS_aload_n (zdec eL5 73 rfl) rfl rfl ?_
  refine zS_aload_n (zdec eL5 74 rfl) rfl rfl ?_
  refine zS_iload_n (zdec eL5 75 rfl) rfl ?_
  refine zS_iconst (zdec eL5 76 rfl) rfl ?_
  refine zS_iadd (zdec eL5 77 rfl) ⟨by omega, by omega⟩ ?_
  refine zS_scr (v := (xs (i + 1))) (zdec eL5 78 rfl) U.1 (by omega) (by omega) rfl ?_
  refine zvMIr (M' := mX9_worth) (As := [zI (xs (i + 1))]) (st := []) hr (zdec eL5 79 rfl) kM_L_229 kV_X9_worth ⟨by decide, rfl⟩ rfl rfl rfl rfl rfl (by show 1 ≤ d; omega) (p_worth (by show _ ≤ d - 1; omega) U.2.2.2.1 U.2.1.1) (fun x2 h2 q2 => ?_)
  obtain ⟨rfl, f2⟩ := q2
  have S2 := U.1.fr f2 (fun k j z => by omega)
  have C2 := U.2.1.q f2
  have R2 := U.2.2.1.c f2 (fun k j z => by omega)
  refine zS_aload_n (zdec eL5 80 rfl) rfl rfl ?_
  refine zS_aload_n (zdec eL5 81 rfl) rfl rfl ?_
  refine zS_iload_n (zdec eL5 82 rfl) rfl ?_
  refine zS_iconst (zdec eL5 83 rfl) rfl ?_
  refine zS_iadd (zdec eL5 84 rfl) ⟨by omega, by omega⟩ ?_
  refine zS_scr (v := (xs (i + 1))) (zdec eL5 85 rfl) S2 (by omega) (by omega) rfl ?_
  refine zvMIr (M' := mX10_worth) (As := [zI (xs (i + 1))]) (st := [zI (a_worth D (xs (i + 1)))]) hr (zdec eL5 86 rfl) kM_L_232 kV_X10_worth ⟨by decide, rfl⟩ rfl rfl rfl rfl rfl (by show 1 ≤ d; omega) (q_worth (by show _ ≤ d - 1; omega) U.2.2.2.1 R2.1) (fun x3 h3 q3 => ?_)
  obtain ⟨rfl, f3⟩ := q3
  have S3 := S2.fr f3 (fun k j z => by omega)
  have C3 := C2.c f3 (fun k j z => by omega)
  have R3 := R2.q f3
  refine zS_icmp_eq (tgt := 2083) (zdec eL5 87 rfl) rfl (fun _ => ?_) (fun c => absurd rfl c)
  exact ih _ _ _ _ _ _ _ _ _ ⟨S3, C3, R3, U.2.2.2⟩
theorem cs_54 {nm : String} {d c s : Nat} {h : zH} {xs : Int → Int} {N i : Int} {D : Dk} {I : Int → Dk} {K : Int → Int} {W : Rw} {B : Int → Int} {L F Q : Int} (hd : 300 ≤ d) (i0 : 0 ≤ i) (i1 : i + 6 ≤ N) (U : SU h xs N D I K W B L F Q) (ih : ∀ h' D' I' K' W' B' L' F' Q', SU h' xs N D' I' K' W' B' L' F' Q' → zS (mL nm) (zrl d c s) 2083 [(6, 0), zA 0, zA 108, zI i] [] TT h' zOK) (hr : (Nat.ble c 600000 && Nat.ble s 7302250) = true) : zS (mL nm) (zrl d c s) 1478 [(6, 0), zA 0, zA 108, zI i] [] TT h zOK := by
  have iN := U.1.1.2
  refine zS_aload_n (zdec eL5 90 rfl) rfl rfl ?_
  refine zS_aload_n (zdec eL5 91 rfl) rfl rfl ?_
  refine zS_iload_n (zdec eL5 92 rfl) rfl ?_
  refine zS_iconst (zdec eL5 93 rfl) rfl ?_
  refine zS_iadd (zdec eL5 94 rfl) ⟨by omega, by omega⟩ ?_
  refine zS_scr (v := (xs (i + 1))) (zdec eL5 95 rfl) U.1 (by omega) (by omega) rfl ?_
  refine zS_aload_n (zdec eL5 96 rfl) rfl rfl ?_
  refine zS_iload_n (zdec eL5 97 rfl) rfl ?_
  refine zS_iconst (zdec eL5 98 rfl) rfl ?_
  refine zS_iadd (zdec eL5 99 rfl) ⟨by omega, by omega⟩ ?_
  refine zS_scr (v := (xs (i + 2))) (zdec eL5 100 rfl) U.1 (by omega) (by omega) rfl ?_
  refine zvMIr (M' := mX9_share) (As := [zI (xs (i + 1)), zI (xs (i + 2))]) (st := []) hr (zdec eL5 101 rfl) kM_L_233 kV_X9_share ⟨by decide, rfl⟩ rfl rfl rfl rfl rfl (by show 1 ≤ d; omega) (p_share (by show _ ≤ d - 1; omega) U.2.2.2.1 U.2.1.1) (fun x2 h2 q2 => ?_)
  obtain ⟨rfl, f2⟩ := q2
  have S2 := U.1.fr f2 (fun k j z => by omega)
  have C2 := U.2.1.q f2
  have R2 := U.2.2.1.c f2 (fun k j z => by omega)
  refine zS_aload_n (zdec eL5 102 rfl) rfl rfl ?_
  refine zS_aload_n (zdec eL5 103 rfl) rfl rfl ?_
  refine zS_iload_n (zdec eL5 104 rfl) rfl ?_
  refine zS_iconst (zdec eL5 105 rfl) rfl ?_
  refine zS_iadd (zdec eL5 106 rfl) ⟨by omega, by omega⟩ ?_
  refine zS_scr (v := (xs (i + 1))) (zdec eL5 107 rfl) S2 (by omega) (by omega) rfl ?_
  refine zS_aload_n (zdec eL5 108 rfl) rfl rfl ?_
  refine zS_iload_n (zdec eL5 109 rfl) rfl ?_
  refine zS_iconst (zdec eL5 110 rfl) rfl ?_
  refine zS_iadd (zdec eL5 111 rfl) ⟨by omega, by omega⟩ ?_
  refine zS_scr (v := (xs (i + 2))) (zdec eL5 112 rfl) S2 (by omega) (by omega) rfl ?_
  refine zvMIr (M' := mX10_share) (As := [zI (xs (i + 1)), zI (xs (i + 2))]) (st := [zI (a_share D (xs (i + 1)) (xs (i + 2)))]) hr (zdec eL5 113 rfl) kM_L_236 kV_X10_share ⟨by decide, rfl⟩ rfl rfl rfl rfl rfl (by show 1 ≤ d; omega) (q_share (by show _ ≤ d - 1; omega) U.2.2.2.1 R2.1) (fun x3 h3 q3 => ?_)
  obtain ⟨rfl, f3⟩ := q3
  have S3 := S2.fr f3 (fun k j z => by omega)
  have C3 := C2.c f3 (fun k j z => by omega)
  have R3 := R2.q f3
  refine zS_icmp_eq (tgt := 2083) (zdec eL5 114 rfl) rfl (fun _ => ?_) (fun c => absurd rfl c)
  exact ih _ _ _ _ _ _ _ _ _ ⟨S3, C3, R3, U.2.2.2⟩
theorem cs_55 {nm : String} {d c s : Nat} {h : zH} {xs : Int → Int} {N i : Int} {D : Dk} {I : Int → Dk} {K : Int → Int} {W : Rw} {B : Int → Int} {L F Q : Int} (hd : 300 ≤ d) (i0 : 0 ≤ i) (i1 : i + 6 ≤ N) (U : SU h xs N D I K W B L F Q) (ih : ∀ h' D' I' K' W' B' L' F' Q', SU h' xs N D' I' K' W' B' L' F' Q' → zS (mL nm) (zrl d c s) 2083 [(6, 0), zA 0, zA 108, zI i] [] TT h' zOK) (hr : (Nat.ble c 600000 && Nat.ble s 7302250) = true) : zS (mL nm) (zrl d c s) 1511 [(6, 0), zA 0, zA 108, zI i] [] TT h zOK := by
  have iN := U.1.1.2
  refine zS_aload_n (zdec eL5 117 rfl) rfl rfl ?_
  refine zS_aload_n (zdec eL5 118 rfl) rfl rfl ?_
  refine zS_iload_n (zdec eL5 119 rfl) rfl ?_
  refine zS_iconst (zdec eL5 120 rfl) rfl ?_
  refine zS_iadd (zdec eL5 121 rfl) ⟨by omega, by omega⟩ ?_
  refine zS_scr (v := (xs (i + 1))) (zdec eL5 122 rfl) U.1 (by omega) (by omega) rfl ?_
  refine zS_aload_n (zdec eL5 123 rfl) rfl rfl ?_
  refine zS_iload_n (zdec eL5 124 rfl) rfl ?_
  refine zS_iconst (zdec eL5 125 rfl) rfl ?_
  refine zS_iadd (zdec eL5 126 rfl) ⟨by omega, by omega⟩ ?_
  refine zS_scr (v := (xs (i + 2))) (zdec eL5 127 rfl) U.1 (by omega) (by omega) rfl ?_
  refine zvMIr (M' := mX9_rests) (As := [zI (xs (i + 1)), zI (xs (i + 2))]) (st := []) hr (zdec eL5 128 rfl) kM_L_237 kV_X9_rests ⟨by decide, rfl⟩ rfl rfl rfl rfl rfl (by show 1 ≤ d; omega) (p_rests (by show _ ≤ d - 1; omega) U.2.2.2.1 U.2.1.1) (fun x2 h2 q2 => ?_)
  obtain ⟨rfl, f2⟩ := q2
  have S2 := U.1.fr f2 (fun k j z => by omega)
  have C2 := U.2.1.q f2
  have R2 := U.2.2.1.c f2 (fun k j z => by omega)
  refine zS_aload_n (zdec eL5 129 rfl) rfl rfl ?_
  refine zS_aload_n (zdec eL5 130 rfl) rfl rfl ?_
  refine zS_iload_n (zdec eL5 131 rfl) rfl ?_
  refine zS_iconst (zdec eL5 132 rfl) rfl ?_
  refine zS_iadd (zdec eL5 133 rfl) ⟨by omega, by omega⟩ ?_
  refine zS_scr (v := (xs (i + 1))) (zdec eL5 134 rfl) S2 (by omega) (by omega) rfl ?_
  refine zS_aload_n (zdec eL5 135 rfl) rfl rfl ?_
  refine zS_iload_n (zdec eL5 136 rfl) rfl ?_
  refine zS_iconst (zdec eL5 137 rfl) rfl ?_
  refine zS_iadd (zdec eL5 138 rfl) ⟨by omega, by omega⟩ ?_
  refine zS_scr (v := (xs (i + 2))) (zdec eL5 139 rfl) S2 (by omega) (by omega) rfl ?_
  refine zvMIr (M' := mX10_rests) (As := [zI (xs (i + 1)), zI (xs (i + 2))]) (st := [zI (a_rests D (xs (i + 1)) (xs (i + 2)))]) hr (zdec eL5 140 rfl) kM_L_240 kV_X10_rests ⟨by decide, rfl⟩ rfl rfl rfl rfl rfl (by show 1 ≤ d; omega) (q_rests (by show _ ≤ d - 1; omega) U.2.2.2.1 R2.1) (fun x3 h3 q3 => ?_)
  obtain ⟨rfl, f3⟩ := q3
  have S3 := S2.fr f3 (fun k j z => by omega)
  have C3 := C2.c f3 (fun k j z => by omega)
  have R3 := R2.q f3
  refine zS_icmp_eq (tgt := 2083) (zdec eL5 141 rfl) rfl (fun _ => ?_) (fun c => absurd rfl c)
  exact ih _ _ _ _ _ _ _ _ _ ⟨S3, C3, R3, U.2.2.2⟩
theorem cs_56 {nm : String} {d c s : Nat} {h : zH} {xs : Int → Int} {N i : Int} {D : Dk} {I : Int → Dk} {K : Int → Int} {W : Rw} {B : Int → Int} {L F Q : Int} (hd : 300 ≤ d) (i0 : 0 ≤ i) (i1 : i + 6 ≤ N) (U : SU h xs N D I K W B L F Q) (ih : ∀ h' D' I' K' W' B' L' F' Q', SU h' xs N D' I' K' W' B' L' F' Q' → zS (mL nm) (zrl d c s) 2083 [(6, 0), zA 0, zA 108, zI i] [] TT h' zOK) (hr : (Nat.ble c 600000 && Nat.ble s 7302250) = true) : zS (mL nm) (zrl d c s) 1544 [(6, 0), zA 0, zA 108, zI i] [] TT h zOK := by
  have iN := U.1.1.2
  refine zS_aload_n (zdec eL5 144 rfl) rfl rfl ?_
  refine zS_aload_n (zdec eL5 145 rfl) rfl rfl ?_
  refine zS_iload_n (zdec eL5 146 rfl) rfl ?_
  refine zS_iconst (zdec eL5 147 rfl) rfl ?_
  refine zS_iadd (zdec eL5 148 rfl) ⟨by omega, by omega⟩ ?_
  refine zS_scr (v := (xs (i + 1))) (zdec eL5 149 rfl) U.1 (by omega) (by omega) rfl ?_
  refine zS_aload_n (zdec eL6 0 rfl) rfl rfl ?_
  refine zS_iload_n (zdec eL6 1 rfl) rfl ?_
  refine zS_iconst (zdec eL6 2 rfl) rfl ?_
  refine zS_iadd (zdec eL6 3 rfl) ⟨by omega, by omega⟩ ?_
  refine zS_scr (v := (xs (i + 2))) (zdec eL6 4 rfl) U.1 (by omega) (by omega) rfl ?_
  refine zS_aload_n (zdec eL6 5 rfl) rfl rfl ?_
  refine zS_iload_n (zdec eL6 6 rfl) rfl ?_
  refine zS_iconst (zdec eL6 7 rfl) rfl ?_
  refine zS_iadd (zdec eL6 8 rfl) ⟨by omega, by omega⟩ ?_
  refine zS_scr (v := (xs (i + 3))) (zdec eL6 9 rfl) U.1 (by omega) (by omega) rfl ?_
  refine zS_aload_n (zdec eL6 10 rfl) rfl rfl ?_
  refine zS_iload_n (zdec eL6 11 rfl) rfl ?_
  refine zS_iconst (zdec eL6 12 rfl) rfl ?_
  refine zS_iadd (zdec eL6 13 rfl) ⟨by omega, by omega⟩ ?_
  refine zS_scr (v := (xs (i + 4))) (zdec eL6 14 rfl) U.1 (by omega) (by omega) rfl ?_
  refine zvMIr (M' := mX9_has) (As := [zI (xs (i + 1)), zI (xs (i + 2)), zI (xs (i + 3)), zI (xs (i + 4))]) (st := []) hr (zdec eL6 15 rfl) kM_L_241 kV_X9_has ⟨by decide, rfl⟩ rfl rfl rfl rfl rfl (by show 1 ≤ d; omega) (p_has (by show _ ≤ d - 1; omega) U.2.2.2.1 U.2.1.1) (fun x2 h2 q2 => ?_)
  obtain ⟨rfl, f2⟩ := q2
  have S2 := U.1.fr f2 (fun k j z => by omega)
  have C2 := U.2.1.q f2
  have R2 := U.2.2.1.c f2 (fun k j z => by omega)
  refine zS_aload_n (zdec eL6 16 rfl) rfl rfl ?_
  refine zS_aload_n (zdec eL6 17 rfl) rfl rfl ?_
  refine zS_iload_n (zdec eL6 18 rfl) rfl ?_
  refine zS_iconst (zdec eL6 19 rfl) rfl ?_
  refine zS_iadd (zdec eL6 20 rfl) ⟨by omega, by omega⟩ ?_
  refine zS_scr (v := (xs (i + 1))) (zdec eL6 21 rfl) S2 (by omega) (by omega) rfl ?_
  refine zS_aload_n (zdec eL6 22 rfl) rfl rfl ?_
  refine zS_iload_n (zdec eL6 23 rfl) rfl ?_
  refine zS_iconst (zdec eL6 24 rfl) rfl ?_
  refine zS_iadd (zdec eL6 25 rfl) ⟨by omega, by omega⟩ ?_
  refine zS_scr (v := (xs (i + 2))) (zdec eL6 26 rfl) S2 (by omega) (by omega) rfl ?_
  refine zS_aload_n (zdec eL6 27 rfl) rfl rfl ?_
  refine zS_iload_n (zdec eL6 28 rfl) rfl ?_
  refine zS_iconst (zdec eL6 29 rfl) rfl ?_
  refine zS_iadd (zdec eL6 30 rfl) ⟨by omega, by omega⟩ ?_
  refine zS_scr (v := (xs (i + 3))) (zdec eL6 31 rfl) S2 (by omega) (by omega) rfl ?_
  refine zS_aload_n (zdec eL6 32 rfl) rfl rfl ?_
  refine zS_iload_n (zdec eL6 33 rfl) rfl ?_
  refine zS_iconst (zdec eL6 34 rfl) rfl ?_
  refine zS_iadd (zdec eL6 35 rfl) ⟨by omega, by omega⟩ ?_
  refine zS_scr (v := (xs (i + 4))) (zdec eL6 36 rfl) S2 (by omega) (by omega) rfl ?_
  refine zvMIr (M' := mX10_has) (As := [zI (xs (i + 1)), zI (xs (i + 2)), zI (xs (i + 3)), zI (xs (i + 4))]) (st := [zI (a_has D (xs (i + 1)) (xs (i + 2)) (xs (i + 3)) (xs (i + 4)))]) hr (zdec eL6 37 rfl) kM_L_245 kV_X10_has ⟨by decide, rfl⟩ rfl rfl rfl rfl rfl (by show 1 ≤ d; omega) (q_has (by show _ ≤ d - 1; omega) U.2.2.2.1 R2.1) (fun x3 h3 q3 => ?_)
  obtain ⟨rfl, f3⟩ := q3
  have S3 := S2.fr f3 (fun k j z => by omega)
  have C3 := C2.c f3 (fun k j z => by omega)
  have R3 := R2.q f3
  refine zS_icmp_eq (tgt := 2083) (zdec eL6 38 rfl) rfl (fun _ => ?_) (fun c => absurd rfl c)
  exact ih _ _ _ _ _ _ _ _ _ ⟨S3, C3, R3, U.2.2.2⟩
theorem cs_57 {nm : String} {d c s : Nat} {h : zH} {xs : Int → Int} {N i : Int} {D : Dk} {I : Int → Dk} {K : Int → Int} {W : Rw} {B : Int → Int} {L F Q : Int} (hd : 300 ≤ d) (i0 : 0 ≤ i) (i1 : i + 6 ≤ N) (U : SU h xs N D I K W B L F Q) (ih : ∀ h' D' I' K' W' B' L' F' Q', SU h' xs N D' I' K' W' B' L' F' Q' → zS (mL nm) (zrl d c s) 2083 [(6, 0), zA 0, zA 108, zI i] [] TT h' zOK) (hr : (Nat.ble c 600000 && Nat.ble s 7302250) = true) : zS (mL nm) (zrl d c s) 1597 [(6, 0), zA 0, zA 108, zI i] [] TT h zOK := by
  have iN := U.1.1.2
  refine zS_aload_n (zdec eL6 41 rfl) rfl rfl ?_
  refine zS_aload_n (zdec eL6 42 rfl) rfl rfl ?_
  refine zS_iload_n (zdec eL6 43 rfl) rfl ?_
  refine zS_iconst (zdec eL6 44 rfl) rfl ?_
  refine zS_iadd (zdec eL6 45 rfl) ⟨by omega, by omega⟩ ?_
  refine zS_scr (v := (xs (i + 1))) (zdec eL6 46 rfl) U.1 (by omega) (by omega) rfl ?_
  refine zS_aload_n (zdec eL6 47 rfl) rfl rfl ?_
  refine zS_iload_n (zdec eL6 48 rfl) rfl ?_
  refine zS_iconst (zdec eL6 49 rfl) rfl ?_
  refine zS_iadd (zdec eL6 50 rfl) ⟨by omega, by omega⟩ ?_
  refine zS_scr (v := (xs (i + 2))) (zdec eL6 51 rfl) U.1 (by omega) (by omega) rfl ?_
  refine zvMIr (M' := mX9_chance) (As := [zI (xs (i + 1)), zI (xs (i + 2))]) (st := []) hr (zdec eL6 52 rfl) kM_L_246 kV_X9_chance ⟨by decide, rfl⟩ rfl rfl rfl rfl rfl (by show 1 ≤ d; omega) (p_chance (by show _ ≤ d - 1; omega) U.2.2.2.1 U.2.1.1) (fun x2 h2 q2 => ?_)
  obtain ⟨rfl, f2⟩ := q2
  have S2 := U.1.fr f2 (fun k j z => by omega)
  have C2 := U.2.1.q f2
  have R2 := U.2.2.1.c f2 (fun k j z => by omega)
  refine zS_aload_n (zdec eL6 53 rfl) rfl rfl ?_
  refine zS_aload_n (zdec eL6 54 rfl) rfl rfl ?_
  refine zS_iload_n (zdec eL6 55 rfl) rfl ?_
  refine zS_iconst (zdec eL6 56 rfl) rfl ?_
  refine zS_iadd (zdec eL6 57 rfl) ⟨by omega, by omega⟩ ?_
  refine zS_scr (v := (xs (i + 1))) (zdec eL6 58 rfl) S2 (by omega) (by omega) rfl ?_
  refine zS_aload_n (zdec eL6 59 rfl) rfl rfl ?_
  refine zS_iload_n (zdec eL6 60 rfl) rfl ?_
  refine zS_iconst (zdec eL6 61 rfl) rfl ?_
  refine zS_iadd (zdec eL6 62 rfl) ⟨by omega, by omega⟩ ?_
  refine zS_scr (v := (xs (i + 2))) (zdec eL6 63 rfl) S2 (by omega) (by omega) rfl ?_
  refine zvMIr (M' := mX10_chance) (As := [zI (xs (i + 1)), zI (xs (i + 2))]) (st := [zI (a_chance D (xs (i + 1)) (xs (i + 2)))]) hr (zdec eL6 64 rfl) kM_L_249 kV_X10_chance ⟨by decide, rfl⟩ rfl rfl rfl rfl rfl (by show 1 ≤ d; omega) (q_chance (by show _ ≤ d - 1; omega) U.2.2.2.1 R2.1) (fun x3 h3 q3 => ?_)
  obtain ⟨rfl, f3⟩ := q3
  have S3 := S2.fr f3 (fun k j z => by omega)
  have C3 := C2.c f3 (fun k j z => by omega)
  have R3 := R2.q f3
  refine zS_icmp_eq (tgt := 2083) (zdec eL6 65 rfl) rfl (fun _ => ?_) (fun c => absurd rfl c)
  exact ih _ _ _ _ _ _ _ _ _ ⟨S3, C3, R3, U.2.2.2⟩
theorem cs_58 {nm : String} {d c s : Nat} {h : zH} {xs : Int → Int} {N i : Int} {D : Dk} {I : Int → Dk} {K : Int → Int} {W : Rw} {B : Int → Int} {L F Q : Int} (hd : 300 ≤ d) (i0 : 0 ≤ i) (i1 : i + 6 ≤ N) (U : SU h xs N D I K W B L F Q) (ih : ∀ h' D' I' K' W' B' L' F' Q', SU h' xs N D' I' K' W' B' L' F' Q' → zS (mL nm) (zrl d c s) 2083 [(6, 0), zA 0, zA 108, zI i] [] TT h' zOK) (hr : (Nat.ble c 600000 && Nat.ble s 7302250) = true) : zS (mL nm) (zrl d c s) 1630 [(6, 0), zA 0, zA 108, zI i] [] TT h zOK := by
  have iN := U.1.1.2
  refine zS_aload_n (zdec eL6 68 rfl) rfl rfl ?_
  refine zS_aload_n (zdec eL6 69 rfl) rfl rfl ?_
  refine zS_iload_n (zdec eL6 70 rfl) rfl ?_
  refine zS_iconst (zdec eL6 71 rfl) rfl ?_
  refine zS_iadd (zdec eL6 72 rfl) ⟨by omega, by omega⟩ ?_
  refine zS_scr (v := (xs (i + 1))) (zdec eL6 73 rfl) U.1 (by omega) (by omega) rfl ?_
  refine zvMJr (M' := mX9_mean) (As := [zI (xs (i + 1))]) (st := []) hr (zdec eL6 74 rfl) kM_L_250 kV_X9_mean ⟨by decide, rfl⟩ rfl rfl rfl rfl rfl (by show 1 ≤ d; omega) (p_mean (by show _ ≤ d - 1; omega) U.2.2.2.1 U.2.1.1) (fun x2 h2 q2 => ?_)
  obtain ⟨rfl, f2⟩ := q2
  have S2 := U.1.fr f2 (fun k j z => by omega)
  have C2 := U.2.1.q f2
  have R2 := U.2.2.1.c f2 (fun k j z => by omega)
  refine zS_aload_n (zdec eL6 75 rfl) rfl rfl ?_
  refine zS_aload_n (zdec eL6 76 rfl) rfl rfl ?_
  refine zS_iload_n (zdec eL6 77 rfl) rfl ?_
  refine zS_iconst (zdec eL6 78 rfl) rfl ?_
  refine zS_iadd (zdec eL6 79 rfl) ⟨by omega, by omega⟩ ?_
  refine zS_scr (v := (xs (i + 1))) (zdec eL6 80 rfl) S2 (by omega) (by omega) rfl ?_
  refine zvMJr (M' := mX10_mean) (As := [zI (xs (i + 1))]) (st := [zJ (a_mean D (xs (i + 1)))]) hr (zdec eL6 81 rfl) kM_L_254 kV_X10_mean ⟨by decide, rfl⟩ rfl rfl rfl rfl rfl (by show 1 ≤ d; omega) (q_mean (by show _ ≤ d - 1; omega) U.2.2.2.1 R2.1) (fun x3 h3 q3 => ?_)
  obtain ⟨rfl, f3⟩ := q3
  have S3 := S2.fr f3 (fun k j z => by omega)
  have C3 := C2.c f3 (fun k j z => by omega)
  have R3 := R2.q f3
  refine zS_lcmp (zdec eL6 82 rfl) ?_
  refine zS_if_eq (tgt := 2083) (zdec eL6 83 rfl) rfl (fun _ => ?_) (fun c => absurd (zCmp_self _) c)
  exact ih _ _ _ _ _ _ _ _ _ ⟨S3, C3, R3, U.2.2.2⟩
theorem cs_59 {nm : String} {d c s : Nat} {h : zH} {xs : Int → Int} {N i : Int} {D : Dk} {I : Int → Dk} {K : Int → Int} {W : Rw} {B : Int → Int} {L F Q : Int} (hd : 300 ≤ d) (i0 : 0 ≤ i) (i1 : i + 6 ≤ N) (U : SU h xs N D I K W B L F Q) (ih : ∀ h' D' I' K' W' B' L' F' Q', SU h' xs N D' I' K' W' B' L' F' Q' → zS (mL nm) (zrl d c s) 2083 [(6, 0), zA 0, zA 108, zI i] [] TT h' zOK) (hr : (Nat.ble c 600000 && Nat.ble s 7302250) = true) : zS (mL nm) (zrl d c s) 1654 [(6, 0), zA 0, zA 108, zI i] [] TT h zOK := by
  have iN := U.1.1.2
  refine zS_aload_n (zdec eL6 86 rfl) rfl rfl ?_
  refine zS_aload_n (zdec eL6 87 rfl) rfl rfl ?_
  refine zS_iload_n (zdec eL6 88 rfl) rfl ?_
  refine zS_iconst (zdec eL6 89 rfl) rfl ?_
  refine zS_iadd (zdec eL6 90 rfl) ⟨by omega, by omega⟩ ?_
  refine zS_scr (v := (xs (i + 1))) (zdec eL6 91 rfl) U.1 (by omega) (by omega) rfl ?_
  refine zvMIr (M' := mX9_frees) (As := [zI (xs (i + 1))]) (st := []) hr (zdec eL6 92 rfl) kM_L_255 kV_X9_frees ⟨by decide, rfl⟩ rfl rfl rfl rfl rfl (by show 1 ≤ d; omega) (p_frees (by show _ ≤ d - 1; omega) U.2.2.2.1 U.2.1.1) (fun x2 h2 q2 => ?_)
  obtain ⟨rfl, g2, f2⟩ := q2
  have S2 := U.1.fr f2 (fun k j z => by omega)
  have C2 := U.2.1.a f2 g2
  have R2 := U.2.2.1.c f2 (fun k j z => by omega)
  refine zS_aload_n (zdec eL6 93 rfl) rfl rfl ?_
  refine zS_aload_n (zdec eL6 94 rfl) rfl rfl ?_
  refine zS_iload_n (zdec eL6 95 rfl) rfl ?_
  refine zS_iconst (zdec eL6 96 rfl) rfl ?_
  refine zS_iadd (zdec eL6 97 rfl) ⟨by omega, by omega⟩ ?_
  refine zS_scr (v := (xs (i + 1))) (zdec eL6 98 rfl) S2 (by omega) (by omega) rfl ?_
  refine zvMIr (M' := mX10_frees) (As := [zI (xs (i + 1))]) (st := [zI (a_frees D (xs (i + 1)))]) hr (zdec eL6 99 rfl) kM_L_258 kV_X10_frees ⟨by decide, rfl⟩ rfl rfl rfl rfl rfl (by show 1 ≤ d; omega) (q_frees (by show _ ≤ d - 1; omega) U.2.2.2.1 R2.1) (fun x3 h3 q3 => ?_)
  obtain ⟨rfl, g3, f3⟩ := q3
  have S3 := S2.fr f3 (fun k j z => by unfold sB blk at z; omega)
  have C3 := C2.c f3 (fun k j z => by unfold sB blk at z; omega)
  have R3 := R2.a f3 g3
  refine zS_icmp_eq (tgt := 2083) (zdec eL6 100 rfl) rfl (fun _ => ?_) (fun c => absurd rfl c)
  exact ih _ _ _ _ _ _ _ _ _ ⟨S3, C3, R3, ⟨n_frees_V U.2.2.2.1 (xs (i + 1)), U.2.2.2.2⟩⟩
theorem cs_60 {nm : String} {d c s : Nat} {h : zH} {xs : Int → Int} {N i : Int} {D : Dk} {I : Int → Dk} {K : Int → Int} {W : Rw} {B : Int → Int} {L F Q : Int} (hd : 300 ≤ d) (i0 : 0 ≤ i) (i1 : i + 6 ≤ N) (U : SU h xs N D I K W B L F Q) (ih : ∀ h' D' I' K' W' B' L' F' Q', SU h' xs N D' I' K' W' B' L' F' Q' → zS (mL nm) (zrl d c s) 2083 [(6, 0), zA 0, zA 108, zI i] [] TT h' zOK) (hr : (Nat.ble c 600000 && Nat.ble s 7302250) = true) : zS (mL nm) (zrl d c s) 1677 [(6, 0), zA 0, zA 108, zI i] [] TT h zOK := by
  have iN := U.1.1.2
  refine zS_aload_n (zdec eL6 103 rfl) rfl rfl ?_
  refine zS_aload_n (zdec eL6 104 rfl) rfl rfl ?_
  refine zS_iload_n (zdec eL6 105 rfl) rfl ?_
  refine zS_iconst (zdec eL6 106 rfl) rfl ?_
  refine zS_iadd (zdec eL6 107 rfl) ⟨by omega, by omega⟩ ?_
  refine zS_scr (v := (xs (i + 1))) (zdec eL6 108 rfl) U.1 (by omega) (by omega) rfl ?_
  refine zvMIr (M' := mX9_fails) (As := [zI (xs (i + 1))]) (st := []) hr (zdec eL6 109 rfl) kM_L_259 kV_X9_fails ⟨by decide, rfl⟩ rfl rfl rfl rfl rfl (by show 1 ≤ d; omega) (p_fails (by show _ ≤ d - 1; omega) U.2.2.2.1 U.2.1.1) (fun x2 h2 q2 => ?_)
  obtain ⟨rfl, g2, f2⟩ := q2
  have S2 := U.1.fr f2 (fun k j z => by omega)
  have C2 := U.2.1.a f2 g2
  have R2 := U.2.2.1.c f2 (fun k j z => by omega)
  refine zS_aload_n (zdec eL6 110 rfl) rfl rfl ?_
  refine zS_aload_n (zdec eL6 111 rfl) rfl rfl ?_
  refine zS_iload_n (zdec eL6 112 rfl) rfl ?_
  refine zS_iconst (zdec eL6 113 rfl) rfl ?_
  refine zS_iadd (zdec eL6 114 rfl) ⟨by omega, by omega⟩ ?_
  refine zS_scr (v := (xs (i + 1))) (zdec eL6 115 rfl) S2 (by omega) (by omega) rfl ?_
  refine zvMIr (M' := mX10_fails) (As := [zI (xs (i + 1))]) (st := [zI (a_fails D (xs (i + 1)))]) hr (zdec eL6 116 rfl) kM_L_262 kV_X10_fails ⟨by decide, rfl⟩ rfl rfl rfl rfl rfl (by show 1 ≤ d; omega) (q_fails (by show _ ≤ d - 1; omega) U.2.2.2.1 R2.1) (fun x3 h3 q3 => ?_)
  obtain ⟨rfl, g3, f3⟩ := q3
  have S3 := S2.fr f3 (fun k j z => by unfold sB blk at z; omega)
  have C3 := C2.c f3 (fun k j z => by unfold sB blk at z; omega)
  have R3 := R2.a f3 g3
  refine zS_icmp_eq (tgt := 2083) (zdec eL6 117 rfl) rfl (fun _ => ?_) (fun c => absurd rfl c)
  exact ih _ _ _ _ _ _ _ _ _ ⟨S3, C3, R3, ⟨n_fails_V U.2.2.2.1 (xs (i + 1)), U.2.2.2.2⟩⟩
theorem cs_61 {nm : String} {d c s : Nat} {h : zH} {xs : Int → Int} {N i : Int} {D : Dk} {I : Int → Dk} {K : Int → Int} {W : Rw} {B : Int → Int} {L F Q : Int} (hd : 300 ≤ d) (i0 : 0 ≤ i) (i1 : i + 6 ≤ N) (U : SU h xs N D I K W B L F Q) (ih : ∀ h' D' I' K' W' B' L' F' Q', SU h' xs N D' I' K' W' B' L' F' Q' → zS (mL nm) (zrl d c s) 2083 [(6, 0), zA 0, zA 108, zI i] [] TT h' zOK) (hr : (Nat.ble c 600000 && Nat.ble s 7302250) = true) : zS (mL nm) (zrl d c s) 1700 [(6, 0), zA 0, zA 108, zI i] [] TT h zOK := by
  have iN := U.1.1.2
  refine zS_aload_n (zdec eL6 120 rfl) rfl rfl ?_
  refine zvMIr (M' := mX9_undo) (As := []) (st := []) hr (zdec eL6 121 rfl) kM_L_263 kV_X9_undo ⟨by decide, rfl⟩ rfl rfl rfl rfl rfl (by show 1 ≤ d; omega) (p_undo (by show _ ≤ d - 1; omega) U.2.2.2.1 U.2.1.1) (fun x2 h2 q2 => ?_)
  obtain ⟨rfl, g2, f2⟩ := q2
  have S2 := U.1.fr f2 (fun k j z => by omega)
  have C2 := U.2.1.a f2 g2
  have R2 := U.2.2.1.c f2 (fun k j z => by omega)
  refine zS_aload_n (zdec eL6 122 rfl) rfl rfl ?_
  refine zvMIr (M' := mX10_undo) (As := []) (st := [zI (a_undo D)]) hr (zdec eL6 123 rfl) kM_L_266 kV_X10_undo ⟨by decide, rfl⟩ rfl rfl rfl rfl rfl (by show 1 ≤ d; omega) (q_undo (by show _ ≤ d - 1; omega) U.2.2.2.1 R2.1) (fun x3 h3 q3 => ?_)
  obtain ⟨rfl, g3, f3⟩ := q3
  have S3 := S2.fr f3 (fun k j z => by unfold sB blk at z; omega)
  have C3 := C2.c f3 (fun k j z => by unfold sB blk at z; omega)
  have R3 := R2.a f3 g3
  refine zS_icmp_eq (tgt := 2083) (zdec eL6 124 rfl) rfl (fun _ => ?_) (fun c => absurd rfl c)
  exact ih _ _ _ _ _ _ _ _ _ ⟨S3, C3, R3, ⟨n_undo_V U.2.2.2.1, U.2.2.2.2⟩⟩
theorem cs_62 {nm : String} {d c s : Nat} {h : zH} {xs : Int → Int} {N i : Int} {D : Dk} {I : Int → Dk} {K : Int → Int} {W : Rw} {B : Int → Int} {L F Q : Int} (hd : 300 ≤ d) (i0 : 0 ≤ i) (i1 : i + 6 ≤ N) (U : SU h xs N D I K W B L F Q) (ih : ∀ h' D' I' K' W' B' L' F' Q', SU h' xs N D' I' K' W' B' L' F' Q' → zS (mL nm) (zrl d c s) 2083 [(6, 0), zA 0, zA 108, zI i] [] TT h' zOK) (hr : (Nat.ble c 600000 && Nat.ble s 7302250) = true) : zS (mL nm) (zrl d c s) 1713 [(6, 0), zA 0, zA 108, zI i] [] TT h zOK := by
  have iN := U.1.1.2
  refine zS_aload_n (zdec eL6 127 rfl) rfl rfl ?_
  refine zvMIr (M' := mX9_anew) (As := []) (st := []) hr (zdec eL6 128 rfl) kM_L_267 kV_X9_anew ⟨by decide, rfl⟩ rfl rfl rfl rfl rfl (by show 1 ≤ d; omega) (p_anew (by show _ ≤ d - 1; omega) U.2.2.2.1 U.2.1.1) (fun x2 h2 q2 => ?_)
  obtain ⟨rfl, g2, f2⟩ := q2
  have S2 := U.1.fr f2 (fun k j z => by omega)
  have C2 := U.2.1.a f2 g2
  have R2 := U.2.2.1.c f2 (fun k j z => by omega)
  refine zS_aload_n (zdec eL6 129 rfl) rfl rfl ?_
  refine zvMIr (M' := mX10_anew) (As := []) (st := [zI (a_anew D)]) hr (zdec eL6 130 rfl) kM_L_270 kV_X10_anew ⟨by decide, rfl⟩ rfl rfl rfl rfl rfl (by show 1 ≤ d; omega) (q_anew (by show _ ≤ d - 1; omega) U.2.2.2.1 R2.1) (fun x3 h3 q3 => ?_)
  obtain ⟨rfl, g3, f3⟩ := q3
  have S3 := S2.fr f3 (fun k j z => by unfold sB blk at z; omega)
  have C3 := C2.c f3 (fun k j z => by unfold sB blk at z; omega)
  have R3 := R2.a f3 g3
  refine zS_icmp_eq (tgt := 2083) (zdec eL6 131 rfl) rfl (fun _ => ?_) (fun c => absurd rfl c)
  exact ih _ _ _ _ _ _ _ _ _ ⟨S3, C3, R3, ⟨n_anew_V U.2.2.2.1, U.2.2.2.2⟩⟩
theorem cs_63 {nm : String} {d c s : Nat} {h : zH} {xs : Int → Int} {N i : Int} {D : Dk} {I : Int → Dk} {K : Int → Int} {W : Rw} {B : Int → Int} {L F Q : Int} (hd : 300 ≤ d) (i0 : 0 ≤ i) (i1 : i + 6 ≤ N) (U : SU h xs N D I K W B L F Q) (ih : ∀ h' D' I' K' W' B' L' F' Q', SU h' xs N D' I' K' W' B' L' F' Q' → zS (mL nm) (zrl d c s) 2083 [(6, 0), zA 0, zA 108, zI i] [] TT h' zOK) (hr : (Nat.ble c 600000 && Nat.ble s 7302250) = true) : zS (mL nm) (zrl d c s) 1726 [(6, 0), zA 0, zA 108, zI i] [] TT h zOK := by
  have iN := U.1.1.2
  refine zS_aload_n (zdec eL6 134 rfl) rfl rfl ?_
  refine zS_aload_n (zdec eL6 135 rfl) rfl rfl ?_
  refine zS_iload_n (zdec eL6 136 rfl) rfl ?_
  refine zS_iconst (zdec eL6 137 rfl) rfl ?_
  refine zS_iadd (zdec eL6 138 rfl) ⟨by omega, by omega⟩ ?_
  refine zS_scr (v := (xs (i + 1))) (zdec eL6 139 rfl) U.1 (by omega) (by omega) rfl ?_
  refine zS_aload_n (zdec eL6 140 rfl) rfl rfl ?_
  refine zS_iload_n (zdec eL6 141 rfl) rfl ?_
  refine zS_iconst (zdec eL6 142 rfl) rfl ?_
  refine zS_iadd (zdec eL6 143 rfl) ⟨by omega, by omega⟩ ?_
  refine zS_scr (v := (xs (i + 2))) (zdec eL6 144 rfl) U.1 (by omega) (by omega) rfl ?_
  refine zvMIr (M' := mX9_drawn) (As := [zI (xs (i + 1)), zI (xs (i + 2))]) (st := []) hr (zdec eL6 145 rfl) kM_L_271 kV_X9_drawn ⟨by decide, rfl⟩ rfl rfl rfl rfl rfl (by show 1 ≤ d; omega) (p_drawn (by show _ ≤ d - 1; omega) U.2.2.2.1 U.2.1.1) (fun x2 h2 q2 => ?_)
  obtain ⟨rfl, f2⟩ := q2
  have S2 := U.1.fr f2 (fun k j z => by omega)
  have C2 := U.2.1.q f2
  have R2 := U.2.2.1.c f2 (fun k j z => by omega)
  refine zS_aload_n (zdec eL6 146 rfl) rfl rfl ?_
  refine zS_aload_n (zdec eL6 147 rfl) rfl rfl ?_
  refine zS_iload_n (zdec eL6 148 rfl) rfl ?_
  refine zS_iconst (zdec eL6 149 rfl) rfl ?_
  refine zS_iadd (zdec eL7 0 rfl) ⟨by omega, by omega⟩ ?_
  refine zS_scr (v := (xs (i + 1))) (zdec eL7 1 rfl) S2 (by omega) (by omega) rfl ?_
  refine zS_aload_n (zdec eL7 2 rfl) rfl rfl ?_
  refine zS_iload_n (zdec eL7 3 rfl) rfl ?_
  refine zS_iconst (zdec eL7 4 rfl) rfl ?_
  refine zS_iadd (zdec eL7 5 rfl) ⟨by omega, by omega⟩ ?_
  refine zS_scr (v := (xs (i + 2))) (zdec eL7 6 rfl) S2 (by omega) (by omega) rfl ?_
  refine zvMIr (M' := mX10_drawn) (As := [zI (xs (i + 1)), zI (xs (i + 2))]) (st := [zI (a_drawn D (xs (i + 1)) (xs (i + 2)))]) hr (zdec eL7 7 rfl) kM_L_274 kV_X10_drawn ⟨by decide, rfl⟩ rfl rfl rfl rfl rfl (by show 1 ≤ d; omega) (q_drawn (by show _ ≤ d - 1; omega) U.2.2.2.1 R2.1) (fun x3 h3 q3 => ?_)
  obtain ⟨rfl, f3⟩ := q3
  have S3 := S2.fr f3 (fun k j z => by omega)
  have C3 := C2.c f3 (fun k j z => by omega)
  have R3 := R2.q f3
  refine zS_icmp_eq (tgt := 2083) (zdec eL7 8 rfl) rfl (fun _ => ?_) (fun c => absurd rfl c)
  exact ih _ _ _ _ _ _ _ _ _ ⟨S3, C3, R3, U.2.2.2⟩
theorem cs_64 {nm : String} {d c s : Nat} {h : zH} {xs : Int → Int} {N i : Int} {D : Dk} {I : Int → Dk} {K : Int → Int} {W : Rw} {B : Int → Int} {L F Q : Int} (hd : 300 ≤ d) (i0 : 0 ≤ i) (i1 : i + 6 ≤ N) (U : SU h xs N D I K W B L F Q) (ih : ∀ h' D' I' K' W' B' L' F' Q', SU h' xs N D' I' K' W' B' L' F' Q' → zS (mL nm) (zrl d c s) 2083 [(6, 0), zA 0, zA 108, zI i] [] TT h' zOK) (hr : (Nat.ble c 600000 && Nat.ble s 7302250) = true) : zS (mL nm) (zrl d c s) 1759 [(6, 0), zA 0, zA 108, zI i] [] TT h zOK := by
  have iN := U.1.1.2
  refine zS_aload_n (zdec eL7 11 rfl) rfl rfl ?_
  refine zS_aload_n (zdec eL7 12 rfl) rfl rfl ?_
  refine zS_iload_n (zdec eL7 13 rfl) rfl ?_
  refine zS_iconst (zdec eL7 14 rfl) rfl ?_
  refine zS_iadd (zdec eL7 15 rfl) ⟨by omega, by omega⟩ ?_
  refine zS_scr (v := (xs (i + 1))) (zdec eL7 16 rfl) U.1 (by omega) (by omega) rfl ?_
  refine zS_aload_n (zdec eL7 17 rfl) rfl rfl ?_
  refine zS_iload_n (zdec eL7 18 rfl) rfl ?_
  refine zS_iconst (zdec eL7 19 rfl) rfl ?_
  refine zS_iadd (zdec eL7 20 rfl) ⟨by omega, by omega⟩ ?_
  refine zS_scr (v := (xs (i + 2))) (zdec eL7 21 rfl) U.1 (by omega) (by omega) rfl ?_
  refine zS_aload_n (zdec eL7 22 rfl) rfl rfl ?_
  refine zS_iload_n (zdec eL7 23 rfl) rfl ?_
  refine zS_iconst (zdec eL7 24 rfl) rfl ?_
  refine zS_iadd (zdec eL7 25 rfl) ⟨by omega, by omega⟩ ?_
  refine zS_scr (v := (xs (i + 3))) (zdec eL7 26 rfl) U.1 (by omega) (by omega) rfl ?_
  refine zvMIr (M' := mX9_luck) (As := [zI (xs (i + 1)), zI (xs (i + 2)), zI (xs (i + 3))]) (st := []) hr (zdec eL7 27 rfl) kM_L_275 kV_X9_luck ⟨by decide, rfl⟩ rfl rfl rfl rfl rfl (by show 1 ≤ d; omega) (p_luck (by show _ ≤ d - 1; omega) U.2.2.2.1 U.2.1.1) (fun x2 h2 q2 => ?_)
  obtain ⟨rfl, f2⟩ := q2
  have S2 := U.1.fr f2 (fun k j z => by omega)
  have C2 := U.2.1.q f2
  have R2 := U.2.2.1.c f2 (fun k j z => by omega)
  refine zS_aload_n (zdec eL7 28 rfl) rfl rfl ?_
  refine zS_aload_n (zdec eL7 29 rfl) rfl rfl ?_
  refine zS_iload_n (zdec eL7 30 rfl) rfl ?_
  refine zS_iconst (zdec eL7 31 rfl) rfl ?_
  refine zS_iadd (zdec eL7 32 rfl) ⟨by omega, by omega⟩ ?_
  refine zS_scr (v := (xs (i + 1))) (zdec eL7 33 rfl) S2 (by omega) (by omega) rfl ?_
  refine zS_aload_n (zdec eL7 34 rfl) rfl rfl ?_
  refine zS_iload_n (zdec eL7 35 rfl) rfl ?_
  refine zS_iconst (zdec eL7 36 rfl) rfl ?_
  refine zS_iadd (zdec eL7 37 rfl) ⟨by omega, by omega⟩ ?_
  refine zS_scr (v := (xs (i + 2))) (zdec eL7 38 rfl) S2 (by omega) (by omega) rfl ?_
  refine zS_aload_n (zdec eL7 39 rfl) rfl rfl ?_
  refine zS_iload_n (zdec eL7 40 rfl) rfl ?_
  refine zS_iconst (zdec eL7 41 rfl) rfl ?_
  refine zS_iadd (zdec eL7 42 rfl) ⟨by omega, by omega⟩ ?_
  refine zS_scr (v := (xs (i + 3))) (zdec eL7 43 rfl) S2 (by omega) (by omega) rfl ?_
  refine zvMIr (M' := mX10_luck) (As := [zI (xs (i + 1)), zI (xs (i + 2)), zI (xs (i + 3))]) (st := [zI (a_luck D (xs (i + 1)) (xs (i + 2)) (xs (i + 3)))]) hr (zdec eL7 44 rfl) kM_L_279 kV_X10_luck ⟨by decide, rfl⟩ rfl rfl rfl rfl rfl (by show 1 ≤ d; omega) (q_luck (by show _ ≤ d - 1; omega) U.2.2.2.1 R2.1) (fun x3 h3 q3 => ?_)
  obtain ⟨rfl, f3⟩ := q3
  have S3 := S2.fr f3 (fun k j z => by omega)
  have C3 := C2.c f3 (fun k j z => by omega)
  have R3 := R2.q f3
  refine zS_icmp_eq (tgt := 2083) (zdec eL7 45 rfl) rfl (fun _ => ?_) (fun c => absurd rfl c)
  exact ih _ _ _ _ _ _ _ _ _ ⟨S3, C3, R3, U.2.2.2⟩
theorem cs_65 {nm : String} {d c s : Nat} {h : zH} {xs : Int → Int} {N i : Int} {D : Dk} {I : Int → Dk} {K : Int → Int} {W : Rw} {B : Int → Int} {L F Q : Int} (hd : 300 ≤ d) (i0 : 0 ≤ i) (i1 : i + 6 ≤ N) (U : SU h xs N D I K W B L F Q) (ih : ∀ h' D' I' K' W' B' L' F' Q', SU h' xs N D' I' K' W' B' L' F' Q' → zS (mL nm) (zrl d c s) 2083 [(6, 0), zA 0, zA 108, zI i] [] TT h' zOK) (hr : (Nat.ble c 600000 && Nat.ble s 7302250) = true) : zS (mL nm) (zrl d c s) 1802 [(6, 0), zA 0, zA 108, zI i] [] TT h zOK := by
  have iN := U.1.1.2
  refine zS_aload_n (zdec eL7 48 rfl) rfl rfl ?_
  refine zS_aload_n (zdec eL7 49 rfl) rfl rfl ?_
  refine zS_iload_n (zdec eL7 50 rfl) rfl ?_
  refine zS_iconst (zdec eL7 51 rfl) rfl ?_
  refine zS_iadd (zdec eL7 52 rfl) ⟨by omega, by omega⟩ ?_
  refine zS_scr (v := (xs (i + 1))) (zdec eL7 53 rfl) U.1 (by omega) (by omega) rfl ?_
  refine zS_aload_n (zdec eL7 54 rfl) rfl rfl ?_
  refine zS_iload_n (zdec eL7 55 rfl) rfl ?_
  refine zS_iconst (zdec eL7 56 rfl) rfl ?_
  refine zS_iadd (zdec eL7 57 rfl) ⟨by omega, by omega⟩ ?_
  refine zS_scr (v := (xs (i + 2))) (zdec eL7 58 rfl) U.1 (by omega) (by omega) rfl ?_
  refine zvMIr (M' := mX9_ranks) (As := [zI (xs (i + 1)), zI (xs (i + 2))]) (st := []) hr (zdec eL7 59 rfl) kM_L_280 kV_X9_ranks ⟨by decide, rfl⟩ rfl rfl rfl rfl rfl (by show 1 ≤ d; omega) (p_ranks (by show _ ≤ d - 1; omega) U.2.2.2.1 U.2.1.1) (fun x2 h2 q2 => ?_)
  obtain ⟨rfl, g2, f2⟩ := q2
  have S2 := U.1.fr f2 (fun k j z => by omega)
  have C2 := U.2.1.a f2 g2
  have R2 := U.2.2.1.c f2 (fun k j z => by omega)
  refine zS_aload_n (zdec eL7 60 rfl) rfl rfl ?_
  refine zS_aload_n (zdec eL7 61 rfl) rfl rfl ?_
  refine zS_iload_n (zdec eL7 62 rfl) rfl ?_
  refine zS_iconst (zdec eL7 63 rfl) rfl ?_
  refine zS_iadd (zdec eL7 64 rfl) ⟨by omega, by omega⟩ ?_
  refine zS_scr (v := (xs (i + 1))) (zdec eL7 65 rfl) S2 (by omega) (by omega) rfl ?_
  refine zS_aload_n (zdec eL7 66 rfl) rfl rfl ?_
  refine zS_iload_n (zdec eL7 67 rfl) rfl ?_
  refine zS_iconst (zdec eL7 68 rfl) rfl ?_
  refine zS_iadd (zdec eL7 69 rfl) ⟨by omega, by omega⟩ ?_
  refine zS_scr (v := (xs (i + 2))) (zdec eL7 70 rfl) S2 (by omega) (by omega) rfl ?_
  refine zvMIr (M' := mX10_ranks) (As := [zI (xs (i + 1)), zI (xs (i + 2))]) (st := [zI (a_ranks D (xs (i + 1)) (xs (i + 2)))]) hr (zdec eL7 71 rfl) kM_L_283 kV_X10_ranks ⟨by decide, rfl⟩ rfl rfl rfl rfl rfl (by show 1 ≤ d; omega) (q_ranks (by show _ ≤ d - 1; omega) U.2.2.2.1 R2.1) (fun x3 h3 q3 => ?_)
  obtain ⟨rfl, g3, f3⟩ := q3
  have S3 := S2.fr f3 (fun k j z => by unfold sB blk at z; omega)
  have C3 := C2.c f3 (fun k j z => by unfold sB blk at z; omega)
  have R3 := R2.a f3 g3
  refine zS_icmp_eq (tgt := 2083) (zdec eL7 72 rfl) rfl (fun _ => ?_) (fun c => absurd rfl c)
  exact ih _ _ _ _ _ _ _ _ _ ⟨S3, C3, R3, ⟨n_ranks_V U.2.2.2.1 (xs (i + 1)) (xs (i + 2)), U.2.2.2.2⟩⟩
theorem cs_66 {nm : String} {d c s : Nat} {h : zH} {xs : Int → Int} {N i : Int} {D : Dk} {I : Int → Dk} {K : Int → Int} {W : Rw} {B : Int → Int} {L F Q : Int} (hd : 300 ≤ d) (i0 : 0 ≤ i) (i1 : i + 6 ≤ N) (U : SU h xs N D I K W B L F Q) (ih : ∀ h' D' I' K' W' B' L' F' Q', SU h' xs N D' I' K' W' B' L' F' Q' → zS (mL nm) (zrl d c s) 2083 [(6, 0), zA 0, zA 108, zI i] [] TT h' zOK) (hr : (Nat.ble c 600000 && Nat.ble s 7302250) = true) : zS (mL nm) (zrl d c s) 1835 [(6, 0), zA 0, zA 108, zI i] [] TT h zOK := by
  have iN := U.1.1.2
  refine zS_aload_n (zdec eL7 75 rfl) rfl rfl ?_
  refine zS_aload_n (zdec eL7 76 rfl) rfl rfl ?_
  refine zS_iload_n (zdec eL7 77 rfl) rfl ?_
  refine zS_iconst (zdec eL7 78 rfl) rfl ?_
  refine zS_iadd (zdec eL7 79 rfl) ⟨by omega, by omega⟩ ?_
  refine zS_scr (v := (xs (i + 1))) (zdec eL7 80 rfl) U.1 (by omega) (by omega) rfl ?_
  refine zvIr (M' := mX9_count) (As := [zI (xs (i + 1))]) (st := []) hr (zdec eL7 81 rfl) kM_L_284 kV_X9_count ⟨by decide, rfl⟩ rfl rfl rfl rfl rfl (by show 1 ≤ d; omega) (p_count (by show _ ≤ d - 1; omega) U.2.1.1 U.2.1.2.2.1 U.2.1.2.2.2.1) ?_
  refine zS_aload_n (zdec eL7 82 rfl) rfl rfl ?_
  refine zS_aload_n (zdec eL7 83 rfl) rfl rfl ?_
  refine zS_iload_n (zdec eL7 84 rfl) rfl ?_
  refine zS_iconst (zdec eL7 85 rfl) rfl ?_
  refine zS_iadd (zdec eL7 86 rfl) ⟨by omega, by omega⟩ ?_
  refine zS_scr (v := (xs (i + 1))) (zdec eL7 87 rfl) U.1 (by omega) (by omega) rfl ?_
  refine zvMIr (M' := mX10_count) (As := [zI (xs (i + 1))]) (st := [zI (a_count D W L (xs (i + 1)))]) hr (zdec eL7 88 rfl) kM_L_287 kV_X10_count ⟨by decide, rfl⟩ rfl rfl rfl rfl rfl (by show 1 ≤ d; omega) (q_count (by show _ ≤ d - 1; omega) U.2.2.1.1 U.2.2.1.2.2.1 U.2.2.2.2.2.1 U.2.2.1.2.2.2.1) (fun x3 h3 q3 => ?_)
  obtain ⟨rfl, f3⟩ := q3
  have S2 := U.1
  have C2 := U.2.1
  have R2 := U.2.2.1
  have S3 := S2.fr f3 (fun k j z => by omega)
  have C3 := C2.c f3 (fun k j z => by omega)
  have R3 := R2.q f3
  refine zS_icmp_eq (tgt := 2083) (zdec eL7 89 rfl) rfl (fun _ => ?_) (fun c => absurd rfl c)
  exact ih _ _ _ _ _ _ _ _ _ ⟨S3, C3, R3, U.2.2.2⟩
theorem cs_67_0 {nm : String} {d c s : Nat} {h : zH} {xs : Int → Int} {N i : Int} {D : Dk} {I : Int → Dk} {K : Int → Int} {W : Rw} {B : Int → Int} {L F Q : Int} (hd : 300 ≤ d) (i0 : 0 ≤ i) (i1 : i + 6 ≤ N) (U : SU h xs N D I K W B L F Q) (ih : ∀ h' D' I' K' W' B' L' F' Q', SU h' xs N D' I' K' W' B' L' F' Q' → zS (mL nm) (zrl d c s) 2083 [(6, 0), zA 0, zA 108, zI i] [] TT h' zOK) (hr : (Nat.ble c 600000 && Nat.ble s 7302250) = true) (e : xs (i + 1) = 0) : zS (mL nm) (zrl d c s) 1858 [(6, 0), zA 0, zA 108, zI i] [] TT h zOK := by
  have iN := U.1.1.2
  refine zS_aload_n (zdec eL7 92 rfl) rfl rfl ?_
  refine zS_aload_n (zdec eL7 93 rfl) rfl rfl ?_
  refine zS_iload_n (zdec eL7 94 rfl) rfl ?_
  refine zS_iconst (zdec eL7 95 rfl) rfl ?_
  refine zS_iadd (zdec eL7 96 rfl) ⟨by omega, by omega⟩ ?_
  refine zS_scr (v := 0) (zdec eL7 97 rfl) U.1 (by omega) (by omega) e ?_
  refine zvMIr (M' := mX9_image) (As := [zI 0]) (st := []) hr (zdec eL7 98 rfl) kM_L_288 kV_X9_image ⟨by decide, rfl⟩ rfl rfl rfl rfl rfl (by show 1 ≤ d; omega) (p_image_0 (by show _ ≤ d - 1; omega) U.2.1.1) (fun x2 h2 q2 => ?_)
  obtain ⟨rfl, g2, e2, f2⟩ := q2
  have S2 := U.1.fr f2 (fun k j z => by omega)
  have C2 := U.2.1.im0 f2 g2 e2
  have R2 := U.2.2.1.c f2 (fun k j z => by omega)
  refine zS_aload_n (zdec eL7 99 rfl) rfl rfl ?_
  refine zS_aload_n (zdec eL7 100 rfl) rfl rfl ?_
  refine zS_iload_n (zdec eL7 101 rfl) rfl ?_
  refine zS_iconst (zdec eL7 102 rfl) rfl ?_
  refine zS_iadd (zdec eL7 103 rfl) ⟨by omega, by omega⟩ ?_
  refine zS_scr (v := 0) (zdec eL7 104 rfl) S2 (by omega) (by omega) e ?_
  refine zvMIr (M' := mX10_image) (As := [zI 0]) (st := [zI 0]) hr (zdec eL7 105 rfl) kM_L_291 kV_X10_image ⟨by decide, rfl⟩ rfl rfl rfl rfl rfl (by show 1 ≤ d; omega) (q_image (by show _ ≤ d - 1; omega) R2.1) (fun x3 h3 q3 => ?_)
  obtain ⟨rfl, g3, e3, f3⟩ := q3
  have R3 := R2.im (x := 0) (by decide) (by decide) f3 (g3 ⟨by decide, by decide⟩) (e3 ⟨by decide, by decide⟩)
  have S3 := S2.fr f3 (fun k j z => by unfold blk at z; omega)
  have C3 := C2.c f3 (fun k j z => by unfold blk at z; omega)
  refine zS_icmp_eq (tgt := 2083) (zdec eL7 106 rfl) rfl (fun _ => ?_) (fun c => absurd (if_pos ⟨by decide, by decide⟩).symm c)
  exact ih _ _ _ _ _ _ _ _ _ ⟨S3, C3, R3, U.2.2.2.im⟩
theorem cs_67_1 {nm : String} {d c s : Nat} {h : zH} {xs : Int → Int} {N i : Int} {D : Dk} {I : Int → Dk} {K : Int → Int} {W : Rw} {B : Int → Int} {L F Q : Int} (hd : 300 ≤ d) (i0 : 0 ≤ i) (i1 : i + 6 ≤ N) (U : SU h xs N D I K W B L F Q) (ih : ∀ h' D' I' K' W' B' L' F' Q', SU h' xs N D' I' K' W' B' L' F' Q' → zS (mL nm) (zrl d c s) 2083 [(6, 0), zA 0, zA 108, zI i] [] TT h' zOK) (hr : (Nat.ble c 600000 && Nat.ble s 7302250) = true) (e : xs (i + 1) = 1) : zS (mL nm) (zrl d c s) 1858 [(6, 0), zA 0, zA 108, zI i] [] TT h zOK := by
  have iN := U.1.1.2
  refine zS_aload_n (zdec eL7 92 rfl) rfl rfl ?_
  refine zS_aload_n (zdec eL7 93 rfl) rfl rfl ?_
  refine zS_iload_n (zdec eL7 94 rfl) rfl ?_
  refine zS_iconst (zdec eL7 95 rfl) rfl ?_
  refine zS_iadd (zdec eL7 96 rfl) ⟨by omega, by omega⟩ ?_
  refine zS_scr (v := 1) (zdec eL7 97 rfl) U.1 (by omega) (by omega) e ?_
  refine zvMIr (M' := mX9_image) (As := [zI 1]) (st := []) hr (zdec eL7 98 rfl) kM_L_288 kV_X9_image ⟨by decide, rfl⟩ rfl rfl rfl rfl rfl (by show 1 ≤ d; omega) (p_image_1 (by show _ ≤ d - 1; omega) U.2.1.1) (fun x2 h2 q2 => ?_)
  obtain ⟨rfl, g2, e2, f2⟩ := q2
  have S2 := U.1.fr f2 (fun k j z => by omega)
  have C2 := U.2.1.im1 f2 g2 e2
  have R2 := U.2.2.1.c f2 (fun k j z => by omega)
  refine zS_aload_n (zdec eL7 99 rfl) rfl rfl ?_
  refine zS_aload_n (zdec eL7 100 rfl) rfl rfl ?_
  refine zS_iload_n (zdec eL7 101 rfl) rfl ?_
  refine zS_iconst (zdec eL7 102 rfl) rfl ?_
  refine zS_iadd (zdec eL7 103 rfl) ⟨by omega, by omega⟩ ?_
  refine zS_scr (v := 1) (zdec eL7 104 rfl) S2 (by omega) (by omega) e ?_
  refine zvMIr (M' := mX10_image) (As := [zI 1]) (st := [zI 0]) hr (zdec eL7 105 rfl) kM_L_291 kV_X10_image ⟨by decide, rfl⟩ rfl rfl rfl rfl rfl (by show 1 ≤ d; omega) (q_image (by show _ ≤ d - 1; omega) R2.1) (fun x3 h3 q3 => ?_)
  obtain ⟨rfl, g3, e3, f3⟩ := q3
  have R3 := R2.im (x := 1) (by decide) (by decide) f3 (g3 ⟨by decide, by decide⟩) (e3 ⟨by decide, by decide⟩)
  have S3 := S2.fr f3 (fun k j z => by unfold blk at z; omega)
  have C3 := C2.c f3 (fun k j z => by unfold blk at z; omega)
  refine zS_icmp_eq (tgt := 2083) (zdec eL7 106 rfl) rfl (fun _ => ?_) (fun c => absurd (if_pos ⟨by decide, by decide⟩).symm c)
  exact ih _ _ _ _ _ _ _ _ _ ⟨S3, C3, R3, U.2.2.2.im⟩
theorem cs_67_2 {nm : String} {d c s : Nat} {h : zH} {xs : Int → Int} {N i : Int} {D : Dk} {I : Int → Dk} {K : Int → Int} {W : Rw} {B : Int → Int} {L F Q : Int} (hd : 300 ≤ d) (i0 : 0 ≤ i) (i1 : i + 6 ≤ N) (U : SU h xs N D I K W B L F Q) (ih : ∀ h' D' I' K' W' B' L' F' Q', SU h' xs N D' I' K' W' B' L' F' Q' → zS (mL nm) (zrl d c s) 2083 [(6, 0), zA 0, zA 108, zI i] [] TT h' zOK) (hr : (Nat.ble c 600000 && Nat.ble s 7302250) = true) (e : xs (i + 1) = 2) : zS (mL nm) (zrl d c s) 1858 [(6, 0), zA 0, zA 108, zI i] [] TT h zOK := by
  have iN := U.1.1.2
  refine zS_aload_n (zdec eL7 92 rfl) rfl rfl ?_
  refine zS_aload_n (zdec eL7 93 rfl) rfl rfl ?_
  refine zS_iload_n (zdec eL7 94 rfl) rfl ?_
  refine zS_iconst (zdec eL7 95 rfl) rfl ?_
  refine zS_iadd (zdec eL7 96 rfl) ⟨by omega, by omega⟩ ?_
  refine zS_scr (v := 2) (zdec eL7 97 rfl) U.1 (by omega) (by omega) e ?_
  refine zvMIr (M' := mX9_image) (As := [zI 2]) (st := []) hr (zdec eL7 98 rfl) kM_L_288 kV_X9_image ⟨by decide, rfl⟩ rfl rfl rfl rfl rfl (by show 1 ≤ d; omega) (p_image_2 (by show _ ≤ d - 1; omega) U.2.1.1) (fun x2 h2 q2 => ?_)
  obtain ⟨rfl, g2, e2, f2⟩ := q2
  have S2 := U.1.fr f2 (fun k j z => by omega)
  have C2 := U.2.1.im2 f2 g2 e2
  have R2 := U.2.2.1.c f2 (fun k j z => by omega)
  refine zS_aload_n (zdec eL7 99 rfl) rfl rfl ?_
  refine zS_aload_n (zdec eL7 100 rfl) rfl rfl ?_
  refine zS_iload_n (zdec eL7 101 rfl) rfl ?_
  refine zS_iconst (zdec eL7 102 rfl) rfl ?_
  refine zS_iadd (zdec eL7 103 rfl) ⟨by omega, by omega⟩ ?_
  refine zS_scr (v := 2) (zdec eL7 104 rfl) S2 (by omega) (by omega) e ?_
  refine zvMIr (M' := mX10_image) (As := [zI 2]) (st := [zI 0]) hr (zdec eL7 105 rfl) kM_L_291 kV_X10_image ⟨by decide, rfl⟩ rfl rfl rfl rfl rfl (by show 1 ≤ d; omega) (q_image (by show _ ≤ d - 1; omega) R2.1) (fun x3 h3 q3 => ?_)
  obtain ⟨rfl, g3, e3, f3⟩ := q3
  have R3 := R2.im (x := 2) (by decide) (by decide) f3 (g3 ⟨by decide, by decide⟩) (e3 ⟨by decide, by decide⟩)
  have S3 := S2.fr f3 (fun k j z => by unfold blk at z; omega)
  have C3 := C2.c f3 (fun k j z => by unfold blk at z; omega)
  refine zS_icmp_eq (tgt := 2083) (zdec eL7 106 rfl) rfl (fun _ => ?_) (fun c => absurd (if_pos ⟨by decide, by decide⟩).symm c)
  exact ih _ _ _ _ _ _ _ _ _ ⟨S3, C3, R3, U.2.2.2.im⟩
theorem cs_67_o {nm : String} {d c s : Nat} {h : zH} {xs : Int → Int} {N i : Int} {D : Dk} {I : Int → Dk} {K : Int → Int} {W : Rw} {B : Int → Int} {L F Q : Int} (hd : 300 ≤ d) (i0 : 0 ≤ i) (i1 : i + 6 ≤ N) (U : SU h xs N D I K W B L F Q) (ih : ∀ h' D' I' K' W' B' L' F' Q', SU h' xs N D' I' K' W' B' L' F' Q' → zS (mL nm) (zrl d c s) 2083 [(6, 0), zA 0, zA 108, zI i] [] TT h' zOK) (hr : (Nat.ble c 600000 && Nat.ble s 7302250) = true) (hx : xs (i + 1) < 0 ∨ 3 ≤ xs (i + 1)) : zS (mL nm) (zrl d c s) 1858 [(6, 0), zA 0, zA 108, zI i] [] TT h zOK := by
  have iN := U.1.1.2
  refine zS_aload_n (zdec eL7 92 rfl) rfl rfl ?_
  refine zS_aload_n (zdec eL7 93 rfl) rfl rfl ?_
  refine zS_iload_n (zdec eL7 94 rfl) rfl ?_
  refine zS_iconst (zdec eL7 95 rfl) rfl ?_
  refine zS_iadd (zdec eL7 96 rfl) ⟨by omega, by omega⟩ ?_
  refine zS_scr (v := (xs (i + 1))) (zdec eL7 97 rfl) U.1 (by omega) (by omega) rfl ?_
  refine zvMIr (M' := mX9_image) (As := [zI (xs (i + 1))]) (st := []) hr (zdec eL7 98 rfl) kM_L_288 kV_X9_image ⟨by decide, rfl⟩ rfl rfl rfl rfl rfl (by show 1 ≤ d; omega) (p_image_o hx) (fun x2 h2 q2 => ?_)
  obtain ⟨rfl, e2⟩ := q2
  have S2 : SC h2 xs N := by rw [e2]; exact U.1
  have C2 : UC h2 D I K W B L F Q := by rw [e2]; exact U.2.1
  have R2 : UR h2 D I K W B L F Q := by rw [e2]; exact U.2.2.1
  refine zS_aload_n (zdec eL7 99 rfl) rfl rfl ?_
  refine zS_aload_n (zdec eL7 100 rfl) rfl rfl ?_
  refine zS_iload_n (zdec eL7 101 rfl) rfl ?_
  refine zS_iconst (zdec eL7 102 rfl) rfl ?_
  refine zS_iadd (zdec eL7 103 rfl) ⟨by omega, by omega⟩ ?_
  refine zS_scr (v := (xs (i + 1))) (zdec eL7 104 rfl) S2 (by omega) (by omega) rfl ?_
  refine zvMIr (M' := mX10_image) (As := [zI (xs (i + 1))]) (st := [zI (-2)]) hr (zdec eL7 105 rfl) kM_L_291 kV_X10_image ⟨by decide, rfl⟩ rfl rfl rfl rfl rfl (by show 1 ≤ d; omega) (q_image_o (by show _ ≤ d - 1; omega) hx) (fun x3 h3 q3 => ?_)
  obtain ⟨rfl, f3⟩ := q3
  have R3 := R2.o f3
  have S3 := S2.fr f3 (fun k j z => by omega)
  have C3 := C2.c f3 (fun k j z => by omega)
  refine zS_icmp_eq (tgt := 2083) (zdec eL7 106 rfl) rfl (fun _ => ?_) (fun c => absurd rfl c)
  exact ih _ _ _ _ _ _ _ _ _ ⟨S3, C3, R3, U.2.2.2⟩
theorem cs_67 {nm : String} {d c s : Nat} {h : zH} {xs : Int → Int} {N i : Int} {D : Dk} {I : Int → Dk} {K : Int → Int} {W : Rw} {B : Int → Int} {L F Q : Int} (hd : 300 ≤ d) (i0 : 0 ≤ i) (i1 : i + 6 ≤ N) (U : SU h xs N D I K W B L F Q) (ih : ∀ h' D' I' K' W' B' L' F' Q', SU h' xs N D' I' K' W' B' L' F' Q' → zS (mL nm) (zrl d c s) 2083 [(6, 0), zA 0, zA 108, zI i] [] TT h' zOK) (hr : (Nat.ble c 600000 && Nat.ble s 7302250) = true) : zS (mL nm) (zrl d c s) 1858 [(6, 0), zA 0, zA 108, zI i] [] TT h zOK := by
  have e : xs (i + 1) = 0 ∨ xs (i + 1) = 1 ∨ xs (i + 1) = 2 ∨ (xs (i + 1) < 0 ∨ 3 ≤ xs (i + 1)) := by omega
  rcases e with e | e | e | e
  · exact cs_67_0 hd i0 i1 U ih hr e
  · exact cs_67_1 hd i0 i1 U ih hr e
  · exact cs_67_2 hd i0 i1 U ih hr e
  · exact cs_67_o hd i0 i1 U ih hr e
theorem cs_68_0b {nm : String} {d c s : Nat} {h : zH} {xs : Int → Int} {N i : Int} {D : Dk} {I : Int → Dk} {K : Int → Int} {W : Rw} {B : Int → Int} {L F Q : Int} (hd : 300 ≤ d) (i0 : 0 ≤ i) (i1 : i + 6 ≤ N) (U : SU h xs N D I K W B L F Q) (ih : ∀ h' D' I' K' W' B' L' F' Q', SU h' xs N D' I' K' W' B' L' F' Q' → zS (mL nm) (zrl d c s) 2083 [(6, 0), zA 0, zA 108, zI i] [] TT h' zOK) (hr : (Nat.ble c 600000 && Nat.ble s 7302250) = true) (e : xs (i + 1) = 0) (c0 : K 0 = 0) : zS (mL nm) (zrl d c s) 1881 [(6, 0), zA 0, zA 108, zI i] [] TT h zOK := by
  have iN := U.1.1.2
  refine zS_aload_n (zdec eL7 109 rfl) rfl rfl ?_
  refine zS_aload_n (zdec eL7 110 rfl) rfl rfl ?_
  refine zS_iload_n (zdec eL7 111 rfl) rfl ?_
  refine zS_iconst (zdec eL7 112 rfl) rfl ?_
  refine zS_iadd (zdec eL7 113 rfl) ⟨by omega, by omega⟩ ?_
  refine zS_scr (v := 0) (zdec eL7 114 rfl) U.1 (by omega) (by omega) e ?_
  refine zvMIr (M' := mX9_back) (As := [zI 0]) (st := []) hr (zdec eL7 115 rfl) kM_L_292 kV_X9_back ⟨by decide, rfl⟩ rfl rfl rfl rfl rfl (by show 1 ≤ d; omega) (p_back_0 (by show _ ≤ d - 1; omega) U.2.1.2.1.2.1 U.2.1.2.1.1.1) (fun x2 h2 q2 => ?_)
  obtain ⟨rfl, g2, f2, e2⟩ := q2
  have S2 := U.1.fr f2 (fun k j z => by omega)
  have R2 := U.2.2.1.c f2 (fun k j z => by omega)
  have C2 : UC h2 D I K W B L F Q := by rw [e2 c0]; exact U.2.1
  refine zS_aload_n (zdec eL7 116 rfl) rfl rfl ?_
  refine zS_aload_n (zdec eL7 117 rfl) rfl rfl ?_
  refine zS_iload_n (zdec eL7 118 rfl) rfl ?_
  refine zS_iconst (zdec eL7 119 rfl) rfl ?_
  refine zS_iadd (zdec eL7 120 rfl) ⟨by omega, by omega⟩ ?_
  refine zS_scr (v := 0) (zdec eL7 121 rfl) S2 (by omega) (by omega) e ?_
  refine zvMIr (M' := mX10_back) (As := [zI 0]) (st := [zI (if K 0 = 0 then -6 else 0)]) hr (zdec eL7 122 rfl) kM_L_295 kV_X10_back ⟨by decide, rfl⟩ rfl rfl rfl rfl rfl (by show 1 ≤ d; omega) (q_back (by show _ ≤ d - 1; omega) (fun _ => (R2.2.1 0 (by decide) (by decide)).2) (fun _ => (R2.2.1 0 (by decide) (by decide)).1)) (fun x3 h3 q3 => ?_)
  obtain ⟨rfl, g3, f3, e3⟩ := q3
  have f4 := e3 (fun w => w.2 c0)
  have R3 := R2.o f4
  have S3 := S2.fr f3 (fun k j z => by unfold blk at z; omega)
  have C3 := C2.c f3 (fun k j z => by unfold blk at z; omega)
  refine zS_icmp_eq (tgt := 2083) (zdec eL7 123 rfl) rfl (fun _ => ?_) (fun c => absurd (if_pos ⟨by decide, by decide⟩).symm c)
  exact ih _ _ _ _ _ _ _ _ _ ⟨S3, C3, R3, U.2.2.2⟩
theorem cs_68_0a {nm : String} {d c s : Nat} {h : zH} {xs : Int → Int} {N i : Int} {D : Dk} {I : Int → Dk} {K : Int → Int} {W : Rw} {B : Int → Int} {L F Q : Int} (hd : 300 ≤ d) (i0 : 0 ≤ i) (i1 : i + 6 ≤ N) (U : SU h xs N D I K W B L F Q) (ih : ∀ h' D' I' K' W' B' L' F' Q', SU h' xs N D' I' K' W' B' L' F' Q' → zS (mL nm) (zrl d c s) 2083 [(6, 0), zA 0, zA 108, zI i] [] TT h' zOK) (hr : (Nat.ble c 600000 && Nat.ble s 7302250) = true) (e : xs (i + 1) = 0) (c0 : K 0 ≠ 0) : zS (mL nm) (zrl d c s) 1881 [(6, 0), zA 0, zA 108, zI i] [] TT h zOK := by
  have iN := U.1.1.2
  refine zS_aload_n (zdec eL7 109 rfl) rfl rfl ?_
  refine zS_aload_n (zdec eL7 110 rfl) rfl rfl ?_
  refine zS_iload_n (zdec eL7 111 rfl) rfl ?_
  refine zS_iconst (zdec eL7 112 rfl) rfl ?_
  refine zS_iadd (zdec eL7 113 rfl) ⟨by omega, by omega⟩ ?_
  refine zS_scr (v := 0) (zdec eL7 114 rfl) U.1 (by omega) (by omega) e ?_
  refine zvMIr (M' := mX9_back) (As := [zI 0]) (st := []) hr (zdec eL7 115 rfl) kM_L_292 kV_X9_back ⟨by decide, rfl⟩ rfl rfl rfl rfl rfl (by show 1 ≤ d; omega) (p_back_0 (by show _ ≤ d - 1; omega) U.2.1.2.1.2.1 U.2.1.2.1.1.1) (fun x2 h2 q2 => ?_)
  obtain ⟨rfl, g2, f2, e2⟩ := q2
  have S2 := U.1.fr f2 (fun k j z => by omega)
  have R2 := U.2.2.1.c f2 (fun k j z => by omega)
  have C2 := U.2.1.bk f2 (g2 c0)
  refine zS_aload_n (zdec eL7 116 rfl) rfl rfl ?_
  refine zS_aload_n (zdec eL7 117 rfl) rfl rfl ?_
  refine zS_iload_n (zdec eL7 118 rfl) rfl ?_
  refine zS_iconst (zdec eL7 119 rfl) rfl ?_
  refine zS_iadd (zdec eL7 120 rfl) ⟨by omega, by omega⟩ ?_
  refine zS_scr (v := 0) (zdec eL7 121 rfl) S2 (by omega) (by omega) e ?_
  refine zvMIr (M' := mX10_back) (As := [zI 0]) (st := [zI (if K 0 = 0 then -6 else 0)]) hr (zdec eL7 122 rfl) kM_L_295 kV_X10_back ⟨by decide, rfl⟩ rfl rfl rfl rfl rfl (by show 1 ≤ d; omega) (q_back (by show _ ≤ d - 1; omega) (fun _ => (R2.2.1 0 (by decide) (by decide)).2) (fun _ => (R2.2.1 0 (by decide) (by decide)).1)) (fun x3 h3 q3 => ?_)
  obtain ⟨rfl, g3, f3, e3⟩ := q3
  have R3 := R2.bk (x := 0) (by decide) (by decide) f3 (g3 ⟨⟨by decide, by decide⟩, c0⟩)
  have S3 := S2.fr f3 (fun k j z => by unfold blk at z; omega)
  have C3 := C2.c f3 (fun k j z => by unfold blk at z; omega)
  refine zS_icmp_eq (tgt := 2083) (zdec eL7 123 rfl) rfl (fun _ => ?_) (fun c => absurd (if_pos ⟨by decide, by decide⟩).symm c)
  exact ih _ _ _ _ _ _ _ _ _ ⟨S3, C3, R3, ⟨U.2.2.2.2.1 0 (by decide) (by decide), U.2.2.2.2⟩⟩
theorem cs_68_1b {nm : String} {d c s : Nat} {h : zH} {xs : Int → Int} {N i : Int} {D : Dk} {I : Int → Dk} {K : Int → Int} {W : Rw} {B : Int → Int} {L F Q : Int} (hd : 300 ≤ d) (i0 : 0 ≤ i) (i1 : i + 6 ≤ N) (U : SU h xs N D I K W B L F Q) (ih : ∀ h' D' I' K' W' B' L' F' Q', SU h' xs N D' I' K' W' B' L' F' Q' → zS (mL nm) (zrl d c s) 2083 [(6, 0), zA 0, zA 108, zI i] [] TT h' zOK) (hr : (Nat.ble c 600000 && Nat.ble s 7302250) = true) (e : xs (i + 1) = 1) (c0 : K 1 = 0) : zS (mL nm) (zrl d c s) 1881 [(6, 0), zA 0, zA 108, zI i] [] TT h zOK := by
  have iN := U.1.1.2
  refine zS_aload_n (zdec eL7 109 rfl) rfl rfl ?_
  refine zS_aload_n (zdec eL7 110 rfl) rfl rfl ?_
  refine zS_iload_n (zdec eL7 111 rfl) rfl ?_
  refine zS_iconst (zdec eL7 112 rfl) rfl ?_
  refine zS_iadd (zdec eL7 113 rfl) ⟨by omega, by omega⟩ ?_
  refine zS_scr (v := 1) (zdec eL7 114 rfl) U.1 (by omega) (by omega) e ?_
  refine zvMIr (M' := mX9_back) (As := [zI 1]) (st := []) hr (zdec eL7 115 rfl) kM_L_292 kV_X9_back ⟨by decide, rfl⟩ rfl rfl rfl rfl rfl (by show 1 ≤ d; omega) (p_back_1 (by show _ ≤ d - 1; omega) U.2.1.2.1.2.2.1 U.2.1.2.1.1.2.1) (fun x2 h2 q2 => ?_)
  obtain ⟨rfl, g2, f2, e2⟩ := q2
  have S2 := U.1.fr f2 (fun k j z => by omega)
  have R2 := U.2.2.1.c f2 (fun k j z => by omega)
  have C2 : UC h2 D I K W B L F Q := by rw [e2 c0]; exact U.2.1
  refine zS_aload_n (zdec eL7 116 rfl) rfl rfl ?_
  refine zS_aload_n (zdec eL7 117 rfl) rfl rfl ?_
  refine zS_iload_n (zdec eL7 118 rfl) rfl ?_
  refine zS_iconst (zdec eL7 119 rfl) rfl ?_
  refine zS_iadd (zdec eL7 120 rfl) ⟨by omega, by omega⟩ ?_
  refine zS_scr (v := 1) (zdec eL7 121 rfl) S2 (by omega) (by omega) e ?_
  refine zvMIr (M' := mX10_back) (As := [zI 1]) (st := [zI (if K 1 = 0 then -6 else 0)]) hr (zdec eL7 122 rfl) kM_L_295 kV_X10_back ⟨by decide, rfl⟩ rfl rfl rfl rfl rfl (by show 1 ≤ d; omega) (q_back (by show _ ≤ d - 1; omega) (fun _ => (R2.2.1 1 (by decide) (by decide)).2) (fun _ => (R2.2.1 1 (by decide) (by decide)).1)) (fun x3 h3 q3 => ?_)
  obtain ⟨rfl, g3, f3, e3⟩ := q3
  have f4 := e3 (fun w => w.2 c0)
  have R3 := R2.o f4
  have S3 := S2.fr f3 (fun k j z => by unfold blk at z; omega)
  have C3 := C2.c f3 (fun k j z => by unfold blk at z; omega)
  refine zS_icmp_eq (tgt := 2083) (zdec eL7 123 rfl) rfl (fun _ => ?_) (fun c => absurd (if_pos ⟨by decide, by decide⟩).symm c)
  exact ih _ _ _ _ _ _ _ _ _ ⟨S3, C3, R3, U.2.2.2⟩
theorem cs_68_1a {nm : String} {d c s : Nat} {h : zH} {xs : Int → Int} {N i : Int} {D : Dk} {I : Int → Dk} {K : Int → Int} {W : Rw} {B : Int → Int} {L F Q : Int} (hd : 300 ≤ d) (i0 : 0 ≤ i) (i1 : i + 6 ≤ N) (U : SU h xs N D I K W B L F Q) (ih : ∀ h' D' I' K' W' B' L' F' Q', SU h' xs N D' I' K' W' B' L' F' Q' → zS (mL nm) (zrl d c s) 2083 [(6, 0), zA 0, zA 108, zI i] [] TT h' zOK) (hr : (Nat.ble c 600000 && Nat.ble s 7302250) = true) (e : xs (i + 1) = 1) (c0 : K 1 ≠ 0) : zS (mL nm) (zrl d c s) 1881 [(6, 0), zA 0, zA 108, zI i] [] TT h zOK := by
  have iN := U.1.1.2
  refine zS_aload_n (zdec eL7 109 rfl) rfl rfl ?_
  refine zS_aload_n (zdec eL7 110 rfl) rfl rfl ?_
  refine zS_iload_n (zdec eL7 111 rfl) rfl ?_
  refine zS_iconst (zdec eL7 112 rfl) rfl ?_
  refine zS_iadd (zdec eL7 113 rfl) ⟨by omega, by omega⟩ ?_
  refine zS_scr (v := 1) (zdec eL7 114 rfl) U.1 (by omega) (by omega) e ?_
  refine zvMIr (M' := mX9_back) (As := [zI 1]) (st := []) hr (zdec eL7 115 rfl) kM_L_292 kV_X9_back ⟨by decide, rfl⟩ rfl rfl rfl rfl rfl (by show 1 ≤ d; omega) (p_back_1 (by show _ ≤ d - 1; omega) U.2.1.2.1.2.2.1 U.2.1.2.1.1.2.1) (fun x2 h2 q2 => ?_)
  obtain ⟨rfl, g2, f2, e2⟩ := q2
  have S2 := U.1.fr f2 (fun k j z => by omega)
  have R2 := U.2.2.1.c f2 (fun k j z => by omega)
  have C2 := U.2.1.bk f2 (g2 c0)
  refine zS_aload_n (zdec eL7 116 rfl) rfl rfl ?_
  refine zS_aload_n (zdec eL7 117 rfl) rfl rfl ?_
  refine zS_iload_n (zdec eL7 118 rfl) rfl ?_
  refine zS_iconst (zdec eL7 119 rfl) rfl ?_
  refine zS_iadd (zdec eL7 120 rfl) ⟨by omega, by omega⟩ ?_
  refine zS_scr (v := 1) (zdec eL7 121 rfl) S2 (by omega) (by omega) e ?_
  refine zvMIr (M' := mX10_back) (As := [zI 1]) (st := [zI (if K 1 = 0 then -6 else 0)]) hr (zdec eL7 122 rfl) kM_L_295 kV_X10_back ⟨by decide, rfl⟩ rfl rfl rfl rfl rfl (by show 1 ≤ d; omega) (q_back (by show _ ≤ d - 1; omega) (fun _ => (R2.2.1 1 (by decide) (by decide)).2) (fun _ => (R2.2.1 1 (by decide) (by decide)).1)) (fun x3 h3 q3 => ?_)
  obtain ⟨rfl, g3, f3, e3⟩ := q3
  have R3 := R2.bk (x := 1) (by decide) (by decide) f3 (g3 ⟨⟨by decide, by decide⟩, c0⟩)
  have S3 := S2.fr f3 (fun k j z => by unfold blk at z; omega)
  have C3 := C2.c f3 (fun k j z => by unfold blk at z; omega)
  refine zS_icmp_eq (tgt := 2083) (zdec eL7 123 rfl) rfl (fun _ => ?_) (fun c => absurd (if_pos ⟨by decide, by decide⟩).symm c)
  exact ih _ _ _ _ _ _ _ _ _ ⟨S3, C3, R3, ⟨U.2.2.2.2.1 1 (by decide) (by decide), U.2.2.2.2⟩⟩
theorem cs_68_2b {nm : String} {d c s : Nat} {h : zH} {xs : Int → Int} {N i : Int} {D : Dk} {I : Int → Dk} {K : Int → Int} {W : Rw} {B : Int → Int} {L F Q : Int} (hd : 300 ≤ d) (i0 : 0 ≤ i) (i1 : i + 6 ≤ N) (U : SU h xs N D I K W B L F Q) (ih : ∀ h' D' I' K' W' B' L' F' Q', SU h' xs N D' I' K' W' B' L' F' Q' → zS (mL nm) (zrl d c s) 2083 [(6, 0), zA 0, zA 108, zI i] [] TT h' zOK) (hr : (Nat.ble c 600000 && Nat.ble s 7302250) = true) (e : xs (i + 1) = 2) (c0 : K 2 = 0) : zS (mL nm) (zrl d c s) 1881 [(6, 0), zA 0, zA 108, zI i] [] TT h zOK := by
  have iN := U.1.1.2
  refine zS_aload_n (zdec eL7 109 rfl) rfl rfl ?_
  refine zS_aload_n (zdec eL7 110 rfl) rfl rfl ?_
  refine zS_iload_n (zdec eL7 111 rfl) rfl ?_
  refine zS_iconst (zdec eL7 112 rfl) rfl ?_
  refine zS_iadd (zdec eL7 113 rfl) ⟨by omega, by omega⟩ ?_
  refine zS_scr (v := 2) (zdec eL7 114 rfl) U.1 (by omega) (by omega) e ?_
  refine zvMIr (M' := mX9_back) (As := [zI 2]) (st := []) hr (zdec eL7 115 rfl) kM_L_292 kV_X9_back ⟨by decide, rfl⟩ rfl rfl rfl rfl rfl (by show 1 ≤ d; omega) (p_back_2 (by show _ ≤ d - 1; omega) U.2.1.2.1.2.2.2 U.2.1.2.1.1.2.2) (fun x2 h2 q2 => ?_)
  obtain ⟨rfl, g2, f2, e2⟩ := q2
  have S2 := U.1.fr f2 (fun k j z => by omega)
  have R2 := U.2.2.1.c f2 (fun k j z => by omega)
  have C2 : UC h2 D I K W B L F Q := by rw [e2 c0]; exact U.2.1
  refine zS_aload_n (zdec eL7 116 rfl) rfl rfl ?_
  refine zS_aload_n (zdec eL7 117 rfl) rfl rfl ?_
  refine zS_iload_n (zdec eL7 118 rfl) rfl ?_
  refine zS_iconst (zdec eL7 119 rfl) rfl ?_
  refine zS_iadd (zdec eL7 120 rfl) ⟨by omega, by omega⟩ ?_
  refine zS_scr (v := 2) (zdec eL7 121 rfl) S2 (by omega) (by omega) e ?_
  refine zvMIr (M' := mX10_back) (As := [zI 2]) (st := [zI (if K 2 = 0 then -6 else 0)]) hr (zdec eL7 122 rfl) kM_L_295 kV_X10_back ⟨by decide, rfl⟩ rfl rfl rfl rfl rfl (by show 1 ≤ d; omega) (q_back (by show _ ≤ d - 1; omega) (fun _ => (R2.2.1 2 (by decide) (by decide)).2) (fun _ => (R2.2.1 2 (by decide) (by decide)).1)) (fun x3 h3 q3 => ?_)
  obtain ⟨rfl, g3, f3, e3⟩ := q3
  have f4 := e3 (fun w => w.2 c0)
  have R3 := R2.o f4
  have S3 := S2.fr f3 (fun k j z => by unfold blk at z; omega)
  have C3 := C2.c f3 (fun k j z => by unfold blk at z; omega)
  refine zS_icmp_eq (tgt := 2083) (zdec eL7 123 rfl) rfl (fun _ => ?_) (fun c => absurd (if_pos ⟨by decide, by decide⟩).symm c)
  exact ih _ _ _ _ _ _ _ _ _ ⟨S3, C3, R3, U.2.2.2⟩
theorem cs_68_2a {nm : String} {d c s : Nat} {h : zH} {xs : Int → Int} {N i : Int} {D : Dk} {I : Int → Dk} {K : Int → Int} {W : Rw} {B : Int → Int} {L F Q : Int} (hd : 300 ≤ d) (i0 : 0 ≤ i) (i1 : i + 6 ≤ N) (U : SU h xs N D I K W B L F Q) (ih : ∀ h' D' I' K' W' B' L' F' Q', SU h' xs N D' I' K' W' B' L' F' Q' → zS (mL nm) (zrl d c s) 2083 [(6, 0), zA 0, zA 108, zI i] [] TT h' zOK) (hr : (Nat.ble c 600000 && Nat.ble s 7302250) = true) (e : xs (i + 1) = 2) (c0 : K 2 ≠ 0) : zS (mL nm) (zrl d c s) 1881 [(6, 0), zA 0, zA 108, zI i] [] TT h zOK := by
  have iN := U.1.1.2
  refine zS_aload_n (zdec eL7 109 rfl) rfl rfl ?_
  refine zS_aload_n (zdec eL7 110 rfl) rfl rfl ?_
  refine zS_iload_n (zdec eL7 111 rfl) rfl ?_
  refine zS_iconst (zdec eL7 112 rfl) rfl ?_
  refine zS_iadd (zdec eL7 113 rfl) ⟨by omega, by omega⟩ ?_
  refine zS_scr (v := 2) (zdec eL7 114 rfl) U.1 (by omega) (by omega) e ?_
  refine zvMIr (M' := mX9_back) (As := [zI 2]) (st := []) hr (zdec eL7 115 rfl) kM_L_292 kV_X9_back ⟨by decide, rfl⟩ rfl rfl rfl rfl rfl (by show 1 ≤ d; omega) (p_back_2 (by show _ ≤ d - 1; omega) U.2.1.2.1.2.2.2 U.2.1.2.1.1.2.2) (fun x2 h2 q2 => ?_)
  obtain ⟨rfl, g2, f2, e2⟩ := q2
  have S2 := U.1.fr f2 (fun k j z => by omega)
  have R2 := U.2.2.1.c f2 (fun k j z => by omega)
  have C2 := U.2.1.bk f2 (g2 c0)
  refine zS_aload_n (zdec eL7 116 rfl) rfl rfl ?_
  refine zS_aload_n (zdec eL7 117 rfl) rfl rfl ?_
  refine zS_iload_n (zdec eL7 118 rfl) rfl ?_
  refine zS_iconst (zdec eL7 119 rfl) rfl ?_
  refine zS_iadd (zdec eL7 120 rfl) ⟨by omega, by omega⟩ ?_
  refine zS_scr (v := 2) (zdec eL7 121 rfl) S2 (by omega) (by omega) e ?_
  refine zvMIr (M' := mX10_back) (As := [zI 2]) (st := [zI (if K 2 = 0 then -6 else 0)]) hr (zdec eL7 122 rfl) kM_L_295 kV_X10_back ⟨by decide, rfl⟩ rfl rfl rfl rfl rfl (by show 1 ≤ d; omega) (q_back (by show _ ≤ d - 1; omega) (fun _ => (R2.2.1 2 (by decide) (by decide)).2) (fun _ => (R2.2.1 2 (by decide) (by decide)).1)) (fun x3 h3 q3 => ?_)
  obtain ⟨rfl, g3, f3, e3⟩ := q3
  have R3 := R2.bk (x := 2) (by decide) (by decide) f3 (g3 ⟨⟨by decide, by decide⟩, c0⟩)
  have S3 := S2.fr f3 (fun k j z => by unfold blk at z; omega)
  have C3 := C2.c f3 (fun k j z => by unfold blk at z; omega)
  refine zS_icmp_eq (tgt := 2083) (zdec eL7 123 rfl) rfl (fun _ => ?_) (fun c => absurd (if_pos ⟨by decide, by decide⟩).symm c)
  exact ih _ _ _ _ _ _ _ _ _ ⟨S3, C3, R3, ⟨U.2.2.2.2.1 2 (by decide) (by decide), U.2.2.2.2⟩⟩
theorem cs_68_o {nm : String} {d c s : Nat} {h : zH} {xs : Int → Int} {N i : Int} {D : Dk} {I : Int → Dk} {K : Int → Int} {W : Rw} {B : Int → Int} {L F Q : Int} (hd : 300 ≤ d) (i0 : 0 ≤ i) (i1 : i + 6 ≤ N) (U : SU h xs N D I K W B L F Q) (ih : ∀ h' D' I' K' W' B' L' F' Q', SU h' xs N D' I' K' W' B' L' F' Q' → zS (mL nm) (zrl d c s) 2083 [(6, 0), zA 0, zA 108, zI i] [] TT h' zOK) (hr : (Nat.ble c 600000 && Nat.ble s 7302250) = true) (hx : xs (i + 1) < 0 ∨ 3 ≤ xs (i + 1)) : zS (mL nm) (zrl d c s) 1881 [(6, 0), zA 0, zA 108, zI i] [] TT h zOK := by
  have iN := U.1.1.2
  refine zS_aload_n (zdec eL7 109 rfl) rfl rfl ?_
  refine zS_aload_n (zdec eL7 110 rfl) rfl rfl ?_
  refine zS_iload_n (zdec eL7 111 rfl) rfl ?_
  refine zS_iconst (zdec eL7 112 rfl) rfl ?_
  refine zS_iadd (zdec eL7 113 rfl) ⟨by omega, by omega⟩ ?_
  refine zS_scr (v := (xs (i + 1))) (zdec eL7 114 rfl) U.1 (by omega) (by omega) rfl ?_
  refine zvMIr (M' := mX9_back) (As := [zI (xs (i + 1))]) (st := []) hr (zdec eL7 115 rfl) kM_L_292 kV_X9_back ⟨by decide, rfl⟩ rfl rfl rfl rfl rfl (by show 1 ≤ d; omega) (p_back_o hx) (fun x2 h2 q2 => ?_)
  obtain ⟨rfl, e2⟩ := q2
  have S2 : SC h2 xs N := by rw [e2]; exact U.1
  have C2 : UC h2 D I K W B L F Q := by rw [e2]; exact U.2.1
  have R2 : UR h2 D I K W B L F Q := by rw [e2]; exact U.2.2.1
  refine zS_aload_n (zdec eL7 116 rfl) rfl rfl ?_
  refine zS_aload_n (zdec eL7 117 rfl) rfl rfl ?_
  refine zS_iload_n (zdec eL7 118 rfl) rfl ?_
  refine zS_iconst (zdec eL7 119 rfl) rfl ?_
  refine zS_iadd (zdec eL7 120 rfl) ⟨by omega, by omega⟩ ?_
  refine zS_scr (v := (xs (i + 1))) (zdec eL7 121 rfl) S2 (by omega) (by omega) rfl ?_
  refine zvMIr (M' := mX10_back) (As := [zI (xs (i + 1))]) (st := [zI (-2)]) hr (zdec eL7 122 rfl) kM_L_295 kV_X10_back ⟨by decide, rfl⟩ rfl rfl rfl rfl rfl (by show 1 ≤ d; omega) (q_back (v := 0) (D := D) (by show _ ≤ d - 1; omega) (fun w => absurd w (by omega)) (fun w => absurd w (by omega))) (fun x3 h3 q3 => ?_)
  obtain ⟨rfl, g3, f3, e3⟩ := q3
  have f4 := e3 (fun w => by omega)
  have R3 := R2.o f4
  have S3 := S2.fr f3 (fun k j z => by unfold blk at z; omega)
  have C3 := C2.c f3 (fun k j z => by unfold blk at z; omega)
  refine zS_icmp_eq (tgt := 2083) (zdec eL7 123 rfl) rfl (fun _ => ?_) (fun c => absurd (if_neg (by omega)).symm c)
  exact ih _ _ _ _ _ _ _ _ _ ⟨S3, C3, R3, U.2.2.2⟩
theorem cs_68 {nm : String} {d c s : Nat} {h : zH} {xs : Int → Int} {N i : Int} {D : Dk} {I : Int → Dk} {K : Int → Int} {W : Rw} {B : Int → Int} {L F Q : Int} (hd : 300 ≤ d) (i0 : 0 ≤ i) (i1 : i + 6 ≤ N) (U : SU h xs N D I K W B L F Q) (ih : ∀ h' D' I' K' W' B' L' F' Q', SU h' xs N D' I' K' W' B' L' F' Q' → zS (mL nm) (zrl d c s) 2083 [(6, 0), zA 0, zA 108, zI i] [] TT h' zOK) (hr : (Nat.ble c 600000 && Nat.ble s 7302250) = true) : zS (mL nm) (zrl d c s) 1881 [(6, 0), zA 0, zA 108, zI i] [] TT h zOK := by
  have e : xs (i + 1) = 0 ∨ xs (i + 1) = 1 ∨ xs (i + 1) = 2 ∨ (xs (i + 1) < 0 ∨ 3 ≤ xs (i + 1)) := by omega
  rcases e with e | e | e | e
  · by_cases c0 : K 0 = 0
    · exact cs_68_0b hd i0 i1 U ih hr e c0
    · exact cs_68_0a hd i0 i1 U ih hr e c0
  · by_cases c0 : K 1 = 0
    · exact cs_68_1b hd i0 i1 U ih hr e c0
    · exact cs_68_1a hd i0 i1 U ih hr e c0
  · by_cases c0 : K 2 = 0
    · exact cs_68_2b hd i0 i1 U ih hr e c0
    · exact cs_68_2a hd i0 i1 U ih hr e c0
  · exact cs_68_o hd i0 i1 U ih hr e
theorem cs_69 {nm : String} {d c s : Nat} {h : zH} {xs : Int → Int} {N i : Int} {D : Dk} {I : Int → Dk} {K : Int → Int} {W : Rw} {B : Int → Int} {L F Q : Int} (hd : 300 ≤ d) (i0 : 0 ≤ i) (i1 : i + 6 ≤ N) (U : SU h xs N D I K W B L F Q) (ih : ∀ h' D' I' K' W' B' L' F' Q', SU h' xs N D' I' K' W' B' L' F' Q' → zS (mL nm) (zrl d c s) 2083 [(6, 0), zA 0, zA 108, zI i] [] TT h' zOK) (hr : (Nat.ble c 600000 && Nat.ble s 7302250) = true) : zS (mL nm) (zrl d c s) 1904 [(6, 0), zA 0, zA 108, zI i] [] TT h zOK := by
  have iN := U.1.1.2
  refine zS_aload_n (zdec eL7 126 rfl) rfl rfl ?_
  refine zS_aload_n (zdec eL7 127 rfl) rfl rfl ?_
  refine zS_iload_n (zdec eL7 128 rfl) rfl ?_
  refine zS_iconst (zdec eL7 129 rfl) rfl ?_
  refine zS_iadd (zdec eL7 130 rfl) ⟨by omega, by omega⟩ ?_
  refine zS_scr (v := (xs (i + 1))) (zdec eL7 131 rfl) U.1 (by omega) (by omega) rfl ?_
  refine zS_aload_n (zdec eL7 132 rfl) rfl rfl ?_
  refine zS_iload_n (zdec eL7 133 rfl) rfl ?_
  refine zS_iconst (zdec eL7 134 rfl) rfl ?_
  refine zS_iadd (zdec eL7 135 rfl) ⟨by omega, by omega⟩ ?_
  refine zS_scr (v := (xs (i + 2))) (zdec eL7 136 rfl) U.1 (by omega) (by omega) rfl ?_
  refine zS_aload_n (zdec eL7 137 rfl) rfl rfl ?_
  refine zS_iload_n (zdec eL7 138 rfl) rfl ?_
  refine zS_iconst (zdec eL7 139 rfl) rfl ?_
  refine zS_iadd (zdec eL7 140 rfl) ⟨by omega, by omega⟩ ?_
  refine zS_scr (v := (xs (i + 3))) (zdec eL7 141 rfl) U.1 (by omega) (by omega) rfl ?_
  refine zvMIr (M' := mX9_row) (As := [zI (xs (i + 1)), zI (xs (i + 2)), zI (xs (i + 3))]) (st := []) hr (zdec eL7 142 rfl) kM_L_296 kV_X9_row ⟨by decide, rfl⟩ rfl rfl rfl rfl rfl (by show 1 ≤ d; omega) (p_row (by show _ ≤ d - 1; omega) U.2.1.2.2.1) (fun x2 h2 q2 => ?_)
  obtain ⟨rfl, g2, f2⟩ := q2
  have S2 := U.1.fr f2 (fun k j z => by omega)
  have C2 := U.2.1.w f2 g2
  have R2 := U.2.2.1.c f2 (fun k j z => by omega)
  refine zS_aload_n (zdec eL7 143 rfl) rfl rfl ?_
  refine zS_aload_n (zdec eL7 144 rfl) rfl rfl ?_
  refine zS_iload_n (zdec eL7 145 rfl) rfl ?_
  refine zS_iconst (zdec eL7 146 rfl) rfl ?_
  refine zS_iadd (zdec eL7 147 rfl) ⟨by omega, by omega⟩ ?_
  refine zS_scr (v := (xs (i + 1))) (zdec eL7 148 rfl) S2 (by omega) (by omega) rfl ?_
  refine zS_aload_n (zdec eL7 149 rfl) rfl rfl ?_
  refine zS_iload_n (zdec eL8 0 rfl) rfl ?_
  refine zS_iconst (zdec eL8 1 rfl) rfl ?_
  refine zS_iadd (zdec eL8 2 rfl) ⟨by omega, by omega⟩ ?_
  refine zS_scr (v := (xs (i + 2))) (zdec eL8 3 rfl) S2 (by omega) (by omega) rfl ?_
  refine zS_aload_n (zdec eL8 4 rfl) rfl rfl ?_
  refine zS_iload_n (zdec eL8 5 rfl) rfl ?_
  refine zS_iconst (zdec eL8 6 rfl) rfl ?_
  refine zS_iadd (zdec eL8 7 rfl) ⟨by omega, by omega⟩ ?_
  refine zS_scr (v := (xs (i + 3))) (zdec eL8 8 rfl) S2 (by omega) (by omega) rfl ?_
  refine zvMIr (M' := mX10_row) (As := [zI (xs (i + 1)), zI (xs (i + 2)), zI (xs (i + 3))]) (st := [zI (a_row (xs (i + 1)) (xs (i + 2)) (xs (i + 3)))]) hr (zdec eL8 9 rfl) kM_L_299 kV_X10_row ⟨by decide, rfl⟩ rfl rfl rfl rfl rfl (by show 1 ≤ d; omega) (q_row (by show _ ≤ d - 1; omega) R2.2.2.1 U.2.2.2.2.2.1) (fun x3 h3 q3 => ?_)
  obtain ⟨rfl, g3, f3⟩ := q3
  have S3 := S2.fr f3 (fun k j z => by omega)
  have C3 := C2.c f3 (fun k j z => by omega)
  have R3 := R2.w f3 g3
  refine zS_icmp_eq (tgt := 2083) (zdec eL8 10 rfl) rfl (fun _ => ?_) (fun c => absurd rfl c)
  exact ih _ _ _ _ _ _ _ _ _ ⟨S3, C3, R3, ⟨U.2.2.2.1, U.2.2.2.2.1, n_row_V U.2.2.2.2.2.1 (xs (i + 1)) (xs (i + 2)) (xs (i + 3)), U.2.2.2.2.2.2⟩⟩
theorem cs_70 {nm : String} {d c s : Nat} {h : zH} {xs : Int → Int} {N i : Int} {D : Dk} {I : Int → Dk} {K : Int → Int} {W : Rw} {B : Int → Int} {L F Q : Int} (hd : 300 ≤ d) (i0 : 0 ≤ i) (i1 : i + 6 ≤ N) (U : SU h xs N D I K W B L F Q) (ih : ∀ h' D' I' K' W' B' L' F' Q', SU h' xs N D' I' K' W' B' L' F' Q' → zS (mL nm) (zrl d c s) 2083 [(6, 0), zA 0, zA 108, zI i] [] TT h' zOK) (hr : (Nat.ble c 600000 && Nat.ble s 7302250) = true) : zS (mL nm) (zrl d c s) 1947 [(6, 0), zA 0, zA 108, zI i] [] TT h zOK := by
  have iN := U.1.1.2
  refine zS_aload_n (zdec eL8 13 rfl) rfl rfl ?_
  refine zS_aload_n (zdec eL8 14 rfl) rfl rfl ?_
  refine zS_iload_n (zdec eL8 15 rfl) rfl ?_
  refine zS_iconst (zdec eL8 16 rfl) rfl ?_
  refine zS_iadd (zdec eL8 17 rfl) ⟨by omega, by omega⟩ ?_
  refine zS_scr (v := (xs (i + 1))) (zdec eL8 18 rfl) U.1 (by omega) (by omega) rfl ?_
  refine zS_aload_n (zdec eL8 19 rfl) rfl rfl ?_
  refine zS_iload_n (zdec eL8 20 rfl) rfl ?_
  refine zS_iconst (zdec eL8 21 rfl) rfl ?_
  refine zS_iadd (zdec eL8 22 rfl) ⟨by omega, by omega⟩ ?_
  refine zS_scr (v := (xs (i + 2))) (zdec eL8 23 rfl) U.1 (by omega) (by omega) rfl ?_
  refine zS_aload_n (zdec eL8 24 rfl) rfl rfl ?_
  refine zS_iload_n (zdec eL8 25 rfl) rfl ?_
  refine zS_iconst (zdec eL8 26 rfl) rfl ?_
  refine zS_iadd (zdec eL8 27 rfl) ⟨by omega, by omega⟩ ?_
  refine zS_scr (v := (xs (i + 3))) (zdec eL8 28 rfl) U.1 (by omega) (by omega) rfl ?_
  refine zS_i2l (zdec eL8 29 rfl) ?_
  refine zS_bipush (zdec eL8 30 rfl) rfl rfl ?_
  refine zS_lshl (zdec eL8 31 rfl) ?_
  refine zS_aload_n (zdec eL8 32 rfl) rfl rfl ?_
  refine zS_iload_n (zdec eL8 33 rfl) rfl ?_
  refine zS_iconst (zdec eL8 34 rfl) rfl ?_
  refine zS_iadd (zdec eL8 35 rfl) ⟨by omega, by omega⟩ ?_
  refine zS_scr (v := (xs (i + 4))) (zdec eL8 36 rfl) U.1 (by omega) (by omega) rfl ?_
  refine zS_i2l (zdec eL8 37 rfl) ?_
  refine zS_ldc2_w (zdec eL8 38 rfl) kj_L_300 rfl ?_
  refine zS_land (zdec eL8 39 rfl) ?_
  refine zS_lor (zdec eL8 40 rfl) ?_
  refine zvMIr (M' := mX9_write) (As := [zI (xs (i + 1)), zI (xs (i + 2)), zJ (zLOr (zLShl (xs (i + 3)) 32) (zLAnd (xs (i + 4)) 4294967295))]) (st := []) hr (zdec eL8 41 rfl) kM_L_302 kV_X9_write ⟨by decide, rfl⟩ rfl rfl rfl rfl rfl (by show 1 ≤ d; omega) (p_write (by show _ ≤ d - 1; omega) U.2.1.2.2.1 U.2.2.2.2.2.1) (fun x2 h2 q2 => ?_)
  obtain ⟨rfl, g2, f2⟩ := q2
  have S2 := U.1.fr f2 (fun k j z => by omega)
  have C2 := U.2.1.w f2 g2
  have R2 := U.2.2.1.c f2 (fun k j z => by omega)
  refine zS_aload_n (zdec eL8 42 rfl) rfl rfl ?_
  refine zS_aload_n (zdec eL8 43 rfl) rfl rfl ?_
  refine zS_iload_n (zdec eL8 44 rfl) rfl ?_
  refine zS_iconst (zdec eL8 45 rfl) rfl ?_
  refine zS_iadd (zdec eL8 46 rfl) ⟨by omega, by omega⟩ ?_
  refine zS_scr (v := (xs (i + 1))) (zdec eL8 47 rfl) S2 (by omega) (by omega) rfl ?_
  refine zS_aload_n (zdec eL8 48 rfl) rfl rfl ?_
  refine zS_iload_n (zdec eL8 49 rfl) rfl ?_
  refine zS_iconst (zdec eL8 50 rfl) rfl ?_
  refine zS_iadd (zdec eL8 51 rfl) ⟨by omega, by omega⟩ ?_
  refine zS_scr (v := (xs (i + 2))) (zdec eL8 52 rfl) S2 (by omega) (by omega) rfl ?_
  refine zS_aload_n (zdec eL8 53 rfl) rfl rfl ?_
  refine zS_iload_n (zdec eL8 54 rfl) rfl ?_
  refine zS_iconst (zdec eL8 55 rfl) rfl ?_
  refine zS_iadd (zdec eL8 56 rfl) ⟨by omega, by omega⟩ ?_
  refine zS_scr (v := (xs (i + 3))) (zdec eL8 57 rfl) S2 (by omega) (by omega) rfl ?_
  refine zS_i2l (zdec eL8 58 rfl) ?_
  refine zS_bipush (zdec eL8 59 rfl) rfl rfl ?_
  refine zS_lshl (zdec eL8 60 rfl) ?_
  refine zS_aload_n (zdec eL8 61 rfl) rfl rfl ?_
  refine zS_iload_n (zdec eL8 62 rfl) rfl ?_
  refine zS_iconst (zdec eL8 63 rfl) rfl ?_
  refine zS_iadd (zdec eL8 64 rfl) ⟨by omega, by omega⟩ ?_
  refine zS_scr (v := (xs (i + 4))) (zdec eL8 65 rfl) S2 (by omega) (by omega) rfl ?_
  refine zS_i2l (zdec eL8 66 rfl) ?_
  refine zS_ldc2_w (zdec eL8 67 rfl) kj_L_300 rfl ?_
  refine zS_land (zdec eL8 68 rfl) ?_
  refine zS_lor (zdec eL8 69 rfl) ?_
  refine zvMIr (M' := mX10_write) (As := [zI (xs (i + 1)), zI (xs (i + 2)), zJ (zLOr (zLShl (xs (i + 3)) 32) (zLAnd (xs (i + 4)) 4294967295))]) (st := [zI (a_write W (xs (i + 1)) (xs (i + 2)))]) hr (zdec eL8 70 rfl) kM_L_306 kV_X10_write ⟨by decide, rfl⟩ rfl rfl rfl rfl rfl (by show 1 ≤ d; omega) (q_write (by show _ ≤ d - 1; omega) R2.2.2.1 U.2.2.2.2.2.1) (fun x3 h3 q3 => ?_)
  obtain ⟨rfl, g3, f3⟩ := q3
  have S3 := S2.fr f3 (fun k j z => by omega)
  have C3 := C2.c f3 (fun k j z => by omega)
  have R3 := R2.w f3 g3
  refine zS_icmp_eq (tgt := 2083) (zdec eL8 71 rfl) rfl (fun _ => ?_) (fun c => absurd rfl c)
  exact ih _ _ _ _ _ _ _ _ _ ⟨S3, C3, R3, ⟨U.2.2.2.1, U.2.2.2.2.1, n_write_V U.2.2.2.2.2.1 (xs (i + 1)) (xs (i + 2)) (zLOr (zLShl (xs (i + 3)) 32) (zLAnd (xs (i + 4)) 4294967295)), U.2.2.2.2.2.2⟩⟩
theorem cs_71 {nm : String} {d c s : Nat} {h : zH} {xs : Int → Int} {N i : Int} {D : Dk} {I : Int → Dk} {K : Int → Int} {W : Rw} {B : Int → Int} {L F Q : Int} (hd : 300 ≤ d) (i0 : 0 ≤ i) (i1 : i + 6 ≤ N) (U : SU h xs N D I K W B L F Q) (ih : ∀ h' D' I' K' W' B' L' F' Q', SU h' xs N D' I' K' W' B' L' F' Q' → zS (mL nm) (zrl d c s) 2083 [(6, 0), zA 0, zA 108, zI i] [] TT h' zOK) (hr : (Nat.ble c 600000 && Nat.ble s 7302250) = true) : zS (mL nm) (zrl d c s) 2020 [(6, 0), zA 0, zA 108, zI i] [] TT h zOK := by
  have iN := U.1.1.2
  refine zS_aload_n (zdec eL8 74 rfl) rfl rfl ?_
  refine zS_aload_n (zdec eL8 75 rfl) rfl rfl ?_
  refine zS_iload_n (zdec eL8 76 rfl) rfl ?_
  refine zS_iconst (zdec eL8 77 rfl) rfl ?_
  refine zS_iadd (zdec eL8 78 rfl) ⟨by omega, by omega⟩ ?_
  refine zS_scr (v := (xs (i + 1))) (zdec eL8 79 rfl) U.1 (by omega) (by omega) rfl ?_
  refine zS_aload_n (zdec eL8 80 rfl) rfl rfl ?_
  refine zS_iload_n (zdec eL8 81 rfl) rfl ?_
  refine zS_iconst (zdec eL8 82 rfl) rfl ?_
  refine zS_iadd (zdec eL8 83 rfl) ⟨by omega, by omega⟩ ?_
  refine zS_scr (v := (xs (i + 2))) (zdec eL8 84 rfl) U.1 (by omega) (by omega) rfl ?_
  refine zS_aload_n (zdec eL8 85 rfl) rfl rfl ?_
  refine zS_iload_n (zdec eL8 86 rfl) rfl ?_
  refine zS_iconst (zdec eL8 87 rfl) rfl ?_
  refine zS_iadd (zdec eL8 88 rfl) ⟨by omega, by omega⟩ ?_
  refine zS_scr (v := (xs (i + 3))) (zdec eL8 89 rfl) U.1 (by omega) (by omega) rfl ?_
  refine zS_aload_n (zdec eL8 90 rfl) rfl rfl ?_
  refine zS_iload_n (zdec eL8 91 rfl) rfl ?_
  refine zS_iconst (zdec eL8 92 rfl) rfl ?_
  refine zS_iadd (zdec eL8 93 rfl) ⟨by omega, by omega⟩ ?_
  refine zS_scr (v := (xs (i + 4))) (zdec eL8 94 rfl) U.1 (by omega) (by omega) rfl ?_
  refine zS_aload_n (zdec eL8 95 rfl) rfl rfl ?_
  refine zS_iload_n (zdec eL8 96 rfl) rfl ?_
  refine zS_iconst (zdec eL8 97 rfl) rfl ?_
  refine zS_iadd (zdec eL8 98 rfl) ⟨by omega, by omega⟩ ?_
  refine zS_scr (v := (xs (i + 5))) (zdec eL8 99 rfl) U.1 (by omega) (by omega) rfl ?_
  refine zvMIr (M' := mX9_paste) (As := [zI (xs (i + 1)), zI (xs (i + 2)), zI (xs (i + 3)), zI (xs (i + 4)), zI (xs (i + 5))]) (st := []) hr (zdec eL8 100 rfl) kM_L_307 kV_X9_paste ⟨by decide, rfl⟩ rfl rfl rfl rfl rfl (by show 1 ≤ d; omega) (p_paste (by show _ ≤ d - 1; omega) U.2.1.2.2.1 U.2.2.2.2.2.1 (U.1.2 _ (by omega) (by omega)).2 (U.1.2 _ (by omega) (by omega)).2 (U.1.2 _ (by omega) (by omega)).2) (fun x2 h2 q2 => ?_)
  obtain ⟨rfl, g2, f2⟩ := q2
  have S2 := U.1.fr f2 (fun k j z => by omega)
  have C2 := U.2.1.w f2 g2
  have R2 := U.2.2.1.c f2 (fun k j z => by omega)
  refine zS_aload_n (zdec eL8 101 rfl) rfl rfl ?_
  refine zS_aload_n (zdec eL8 102 rfl) rfl rfl ?_
  refine zS_iload_n (zdec eL8 103 rfl) rfl ?_
  refine zS_iconst (zdec eL8 104 rfl) rfl ?_
  refine zS_iadd (zdec eL8 105 rfl) ⟨by omega, by omega⟩ ?_
  refine zS_scr (v := (xs (i + 1))) (zdec eL8 106 rfl) S2 (by omega) (by omega) rfl ?_
  refine zS_aload_n (zdec eL8 107 rfl) rfl rfl ?_
  refine zS_iload_n (zdec eL8 108 rfl) rfl ?_
  refine zS_iconst (zdec eL8 109 rfl) rfl ?_
  refine zS_iadd (zdec eL8 110 rfl) ⟨by omega, by omega⟩ ?_
  refine zS_scr (v := (xs (i + 2))) (zdec eL8 111 rfl) S2 (by omega) (by omega) rfl ?_
  refine zS_aload_n (zdec eL8 112 rfl) rfl rfl ?_
  refine zS_iload_n (zdec eL8 113 rfl) rfl ?_
  refine zS_iconst (zdec eL8 114 rfl) rfl ?_
  refine zS_iadd (zdec eL8 115 rfl) ⟨by omega, by omega⟩ ?_
  refine zS_scr (v := (xs (i + 3))) (zdec eL8 116 rfl) S2 (by omega) (by omega) rfl ?_
  refine zS_aload_n (zdec eL8 117 rfl) rfl rfl ?_
  refine zS_iload_n (zdec eL8 118 rfl) rfl ?_
  refine zS_iconst (zdec eL8 119 rfl) rfl ?_
  refine zS_iadd (zdec eL8 120 rfl) ⟨by omega, by omega⟩ ?_
  refine zS_scr (v := (xs (i + 4))) (zdec eL8 121 rfl) S2 (by omega) (by omega) rfl ?_
  refine zS_aload_n (zdec eL8 122 rfl) rfl rfl ?_
  refine zS_iload_n (zdec eL8 123 rfl) rfl ?_
  refine zS_iconst (zdec eL8 124 rfl) rfl ?_
  refine zS_iadd (zdec eL8 125 rfl) ⟨by omega, by omega⟩ ?_
  refine zS_scr (v := (xs (i + 5))) (zdec eL8 126 rfl) S2 (by omega) (by omega) rfl ?_
  refine zvMIr (M' := mX10_paste) (As := [zI (xs (i + 1)), zI (xs (i + 2)), zI (xs (i + 3)), zI (xs (i + 4)), zI (xs (i + 5))]) (st := [zI (a_paste W (xs (i + 1)) (xs (i + 2)) (xs (i + 3)) (xs (i + 4)) (xs (i + 5)))]) hr (zdec eL8 127 rfl) kM_L_310 kV_X10_paste ⟨by decide, rfl⟩ rfl rfl rfl rfl rfl (by show 1 ≤ d; omega) (q_paste (by show _ ≤ d - 1; omega) R2.2.2.1 U.2.2.2.2.2.1 (U.1.2 _ (by omega) (by omega)).2 (U.1.2 _ (by omega) (by omega)).2 (U.1.2 _ (by omega) (by omega)).2) (fun x3 h3 q3 => ?_)
  obtain ⟨rfl, g3, f3⟩ := q3
  have S3 := S2.fr f3 (fun k j z => by omega)
  have C3 := C2.c f3 (fun k j z => by omega)
  have R3 := R2.w f3 g3
  refine zS_icmp_eq (tgt := 2083) (zdec eL8 128 rfl) rfl (fun _ => ?_) (fun c => absurd rfl c)
  exact ih _ _ _ _ _ _ _ _ _ ⟨S3, C3, R3, ⟨U.2.2.2.1, U.2.2.2.2.1, n_paste_V U.2.2.2.2.2.1 (xs (i + 1)) (xs (i + 2)) (xs (i + 3)) (xs (i + 4)) (xs (i + 5)), U.2.2.2.2.2.2⟩⟩

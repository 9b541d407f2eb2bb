theorem law_loop {nm : String} {d c0 s : Nat} {xs : Int → Int} {N : Int} (hd : 300 ≤ d) (hr : (Nat.ble c0 600000 && Nat.ble s 7302250) = true) : ∀ (n : Nat) (i : Int) (h : zH) (D : Dk) (I : Int → Dk) (K : Int → Int) (W : Rw) (B : Int → Int) (L F Q : Int), 0 ≤ i → i ≤ N + 6 → N - i < n → SU h xs N D I K W B L F Q → zS (mL nm) (zrl d c0 s) 18 [(6, 0), zA 0, zA 108, zI i] [] TT h zOK := by
  intro n
  induction n with
  | zero =>
    intro i h D I K W B L F Q i0 i1 m U
    have iN := U.1.1
    refine zS_iload_n (zdec eL0 10 rfl) rfl ?_
    refine zS_aload_n (zdec eL0 11 rfl) rfl rfl ?_
    refine zS_slen (zdec eL0 12 rfl) (by omega) ?_
    rw [iN.1]
    refine zS_bipush (zdec eL0 13 rfl) rfl rfl ?_
    refine zS_isub (zdec eL0 14 rfl) ⟨by omega, by omega⟩ ?_
    refine zS_icmp_gt (tgt := 2089) (zdec eL0 15 rfl) rfl (fun _ => ?_) (fun c => absurd (by omega) c)
    refine zS_iconst (zdec eL8 133 rfl) rfl ?_
    exact zS_zreturn (zdec eL8 134 rfl) rfl (Or.inr rfl) ⟨Nat.le_of_ble_eq_true (Bool.and_eq_true .. ▸ hr).1, Nat.le_of_ble_eq_true (Bool.and_eq_true .. ▸ hr).2⟩ rfl
  | succ n IH =>
    intro i h D I K W B L F Q i0 i1 m U
    have iN := U.1.1
    refine zS_iload_n (zdec eL0 10 rfl) rfl ?_
    refine zS_aload_n (zdec eL0 11 rfl) rfl rfl ?_
    refine zS_slen (zdec eL0 12 rfl) (by omega) ?_
    rw [iN.1]
    refine zS_bipush (zdec eL0 13 rfl) rfl rfl ?_
    refine zS_isub (zdec eL0 14 rfl) ⟨by omega, by omega⟩ ?_
    refine zS_icmp_gt (tgt := 2089) (zdec eL0 15 rfl) rfl (fun _ => ?_) (fun c => ?_)
    · refine zS_iconst (zdec eL8 133 rfl) rfl ?_
      exact zS_zreturn (zdec eL8 134 rfl) rfl (Or.inr rfl) ⟨Nat.le_of_ble_eq_true (Bool.and_eq_true .. ▸ hr).1, Nat.le_of_ble_eq_true (Bool.and_eq_true .. ▸ hr).2⟩ rfl
    · have j1 : i + 6 ≤ N := by omega
      have ih : ∀ h' D' I' K' W' B' L' F' Q', SU h' xs N D' I' K' W' B' L' F' Q' → zS (mL nm) (zrl d c0 s) 2083 [(6, 0), zA 0, zA 108, zI i] [] TT h' zOK := by
        intro h' D' I' K' W' B' L' F' Q' U'
        refine zS_iinc (zdec eL8 131 rfl) rfl rfl ⟨by omega, by omega⟩ ?_
        refine zS_goto (tgt := 18) (zdec eL8 132 rfl) rfl ?_
        exact IH (i + 6) h' D' I' K' W' B' L' F' Q' (by omega) (by omega) (by omega) U'
      refine zS_aload_n (zdec eL0 16 rfl) rfl rfl ?_
      refine zS_iload_n (zdec eL0 17 rfl) rfl ?_
      refine zS_scr (v := xs i) (zdec eL0 18 rfl) U.1 i0 (by omega) rfl ?_
      refine zS_bipush (zdec eL0 19 rfl) rfl rfl ?_
      refine zS_iand (zdec eL0 20 rfl) ?_
      by_cases hx : 0 ≤ zAnd (xs i) 127 ∧ zAnd (xs i) 127 ≤ 71
      · obtain ⟨x, ex⟩ := Int.eq_ofNat_of_zero_le hx.1
        rw [ex] at hx ⊢
        have hx1 : x ≤ 71 := by omega
        clear ex hx
        match x, hx1 with
        | 0, _ => exact zS_tableIn (tgt := 336) (zdec eL0 21 rfl) (by decide) (by decide) rfl rfl (cs_0 hd i0 j1 U ih hr)
        | 1, _ => exact zS_tableIn (tgt := 399) (zdec eL0 21 rfl) (by decide) (by decide) rfl rfl (cs_1 hd i0 j1 U ih hr)
        | 2, _ => exact zS_tableIn (tgt := 422) (zdec eL0 21 rfl) (by decide) (by decide) rfl rfl (cs_2 hd i0 j1 U ih hr)
        | 3, _ => exact zS_tableIn (tgt := 435) (zdec eL0 21 rfl) (by decide) (by decide) rfl rfl (cs_3 hd i0 j1 U ih hr)
        | 4, _ => exact zS_tableIn (tgt := 458) (zdec eL0 21 rfl) (by decide) (by decide) rfl rfl (cs_4 hd i0 j1 U ih hr)
        | 5, _ => exact zS_tableIn (tgt := 481) (zdec eL0 21 rfl) (by decide) (by decide) rfl rfl (cs_5 hd i0 j1 U ih hr)
        | 6, _ => exact zS_tableIn (tgt := 514) (zdec eL0 21 rfl) (by decide) (by decide) rfl rfl (cs_6 hd i0 j1 U ih hr)
        | 7, _ => exact zS_tableIn (tgt := 537) (zdec eL0 21 rfl) (by decide) (by decide) rfl rfl (cs_7 hd i0 j1 U ih hr)
        | 8, _ => exact zS_tableIn (tgt := 570) (zdec eL0 21 rfl) (by decide) (by decide) rfl rfl (cs_8 hd i0 j1 U ih hr)
        | 9, _ => exact zS_tableIn (tgt := 593) (zdec eL0 21 rfl) (by decide) (by decide) rfl rfl (cs_9 hd i0 j1 U ih hr)
        | 10, _ => exact zS_tableIn (tgt := 606) (zdec eL0 21 rfl) (by decide) (by decide) rfl rfl (cs_10 hd i0 j1 U ih hr)
        | 11, _ => exact zS_tableIn (tgt := 639) (zdec eL0 21 rfl) (by decide) (by decide) rfl rfl (cs_11 hd i0 j1 U ih hr)
        | 12, _ => exact zS_tableIn (tgt := 652) (zdec eL0 21 rfl) (by decide) (by decide) rfl rfl (cs_12 hd i0 j1 U ih hr)
        | 13, _ => exact zS_tableIn (tgt := 675) (zdec eL0 21 rfl) (by decide) (by decide) rfl rfl (cs_13 hd i0 j1 U ih hr)
        | 14, _ => exact zS_tableIn (tgt := 698) (zdec eL0 21 rfl) (by decide) (by decide) rfl rfl (cs_14 hd i0 j1 U ih hr)
        | 15, _ => exact zS_tableIn (tgt := 721) (zdec eL0 21 rfl) (by decide) (by decide) rfl rfl (cs_15 hd i0 j1 U ih hr)
        | 16, _ => exact zS_tableIn (tgt := 744) (zdec eL0 21 rfl) (by decide) (by decide) rfl rfl (cs_16 hd i0 j1 U ih hr)
        | 17, _ => exact zS_tableIn (tgt := 767) (zdec eL0 21 rfl) (by decide) (by decide) rfl rfl (cs_17 hd i0 j1 U ih hr)
        | 18, _ => exact zS_tableIn (tgt := 780) (zdec eL0 21 rfl) (by decide) (by decide) rfl rfl (cs_18 hd i0 j1 U ih hr)
        | 19, _ => exact zS_tableIn (tgt := 793) (zdec eL0 21 rfl) (by decide) (by decide) rfl rfl (cs_19 hd i0 j1 U ih hr)
        | 20, _ => exact zS_tableIn (tgt := 806) (zdec eL0 21 rfl) (by decide) (by decide) rfl rfl (cs_20 hd i0 j1 U ih hr)
        | 21, _ => exact zS_tableIn (tgt := 819) (zdec eL0 21 rfl) (by decide) (by decide) rfl rfl (cs_21 hd i0 j1 U ih hr)
        | 22, _ => exact zS_tableIn (tgt := 832) (zdec eL0 21 rfl) (by decide) (by decide) rfl rfl (cs_22 hd i0 j1 U ih hr)
        | 23, _ => exact zS_tableIn (tgt := 845) (zdec eL0 21 rfl) (by decide) (by decide) rfl rfl (cs_23 hd i0 j1 U ih hr)
        | 24, _ => exact zS_tableIn (tgt := 858) (zdec eL0 21 rfl) (by decide) (by decide) rfl rfl (cs_24 hd i0 j1 U ih hr)
        | 25, _ => exact zS_tableIn (tgt := 871) (zdec eL0 21 rfl) (by decide) (by decide) rfl rfl (cs_25 hd i0 j1 U ih hr)
        | 26, _ => exact zS_tableIn (tgt := 884) (zdec eL0 21 rfl) (by decide) (by decide) rfl rfl (cs_26 hd i0 j1 U ih hr)
        | 27, _ => exact zS_tableIn (tgt := 907) (zdec eL0 21 rfl) (by decide) (by decide) rfl rfl (cs_27 hd i0 j1 U ih hr)
        | 28, _ => exact zS_tableIn (tgt := 930) (zdec eL0 21 rfl) (by decide) (by decide) rfl rfl (cs_28 hd i0 j1 U ih hr)
        | 29, _ => exact zS_tableIn (tgt := 943) (zdec eL0 21 rfl) (by decide) (by decide) rfl rfl (cs_29 hd i0 j1 U ih hr)
        | 30, _ => exact zS_tableIn (tgt := 956) (zdec eL0 21 rfl) (by decide) (by decide) rfl rfl (cs_30 hd i0 j1 U ih hr)
        | 31, _ => exact zS_tableIn (tgt := 979) (zdec eL0 21 rfl) (by decide) (by decide) rfl rfl (cs_31 hd i0 j1 U ih hr)
        | 32, _ => exact zS_tableIn (tgt := 1002) (zdec eL0 21 rfl) (by decide) (by decide) rfl rfl (cs_32 hd i0 j1 U ih hr)
        | 33, _ => exact zS_tableIn (tgt := 1025) (zdec eL0 21 rfl) (by decide) (by decide) rfl rfl (cs_33 hd i0 j1 U ih hr)
        | 34, _ => exact zS_tableIn (tgt := 1038) (zdec eL0 21 rfl) (by decide) (by decide) rfl rfl (cs_34 hd i0 j1 U ih hr)
        | 35, _ => exact zS_tableIn (tgt := 1061) (zdec eL0 21 rfl) (by decide) (by decide) rfl rfl (cs_35 hd i0 j1 U ih hr)
        | 36, _ => exact zS_tableIn (tgt := 1074) (zdec eL0 21 rfl) (by decide) (by decide) rfl rfl (cs_36 hd i0 j1 U ih hr)
        | 37, _ => exact zS_tableIn (tgt := 1087) (zdec eL0 21 rfl) (by decide) (by decide) rfl rfl (cs_37 hd i0 j1 U ih hr)
        | 38, _ => exact zS_tableIn (tgt := 1100) (zdec eL0 21 rfl) (by decide) (by decide) rfl rfl (cs_38 hd i0 j1 U ih hr)
        | 39, _ => exact zS_tableIn (tgt := 1133) (zdec eL0 21 rfl) (by decide) (by decide) rfl rfl (cs_39 hd i0 j1 U ih hr)
        | 40, _ => exact zS_tableIn (tgt := 1156) (zdec eL0 21 rfl) (by decide) (by decide) rfl rfl (cs_40 hd i0 j1 U ih hr)
        | 41, _ => exact zS_tableIn (tgt := 1169) (zdec eL0 21 rfl) (by decide) (by decide) rfl rfl (cs_41 hd i0 j1 U ih hr)
        | 42, _ => exact zS_tableIn (tgt := 1182) (zdec eL0 21 rfl) (by decide) (by decide) rfl rfl (cs_42 hd i0 j1 U ih hr)
        | 43, _ => exact zS_tableIn (tgt := 1195) (zdec eL0 21 rfl) (by decide) (by decide) rfl rfl (cs_43 hd i0 j1 U ih hr)
        | 44, _ => exact zS_tableIn (tgt := 1208) (zdec eL0 21 rfl) (by decide) (by decide) rfl rfl (cs_44 hd i0 j1 U ih hr)
        | 45, _ => exact zS_tableIn (tgt := 1231) (zdec eL0 21 rfl) (by decide) (by decide) rfl rfl (cs_45 hd i0 j1 U ih hr)
        | 46, _ => exact zS_tableIn (tgt := 1264) (zdec eL0 21 rfl) (by decide) (by decide) rfl rfl (cs_46 hd i0 j1 U ih hr)
        | 47, _ => exact zS_tableIn (tgt := 1297) (zdec eL0 21 rfl) (by decide) (by decide) rfl rfl (cs_47 hd i0 j1 U ih hr)
        | 48, _ => exact zS_tableIn (tgt := 1330) (zdec eL0 21 rfl) (by decide) (by decide) rfl rfl (cs_48 hd i0 j1 U ih hr)
        | 49, _ => exact zS_tableIn (tgt := 1363) (zdec eL0 21 rfl) (by decide) (by decide) rfl rfl (cs_49 hd i0 j1 U ih hr)
        | 50, _ => exact zS_tableIn (tgt := 1396) (zdec eL0 21 rfl) (by decide) (by decide) rfl rfl (cs_50 hd i0 j1 U ih hr)
        | 51, _ => exact zS_tableIn (tgt := 1419) (zdec eL0 21 rfl) (by decide) (by decide) rfl rfl (cs_51 hd i0 j1 U ih hr)
        | 52, _ => exact zS_tableIn (tgt := 1442) (zdec eL0 21 rfl) (by decide) (by decide) rfl rfl (cs_52 hd i0 j1 U ih hr)
        | 53, _ => exact zS_tableIn (tgt := 1455) (zdec eL0 21 rfl) (by decide) (by decide) rfl rfl (cs_53 hd i0 j1 U ih hr)
        | 54, _ => exact zS_tableIn (tgt := 1478) (zdec eL0 21 rfl) (by decide) (by decide) rfl rfl (cs_54 hd i0 j1 U ih hr)
        | 55, _ => exact zS_tableIn (tgt := 1511) (zdec eL0 21 rfl) (by decide) (by decide) rfl rfl (cs_55 hd i0 j1 U ih hr)
        | 56, _ => exact zS_tableIn (tgt := 1544) (zdec eL0 21 rfl) (by decide) (by decide) rfl rfl (cs_56 hd i0 j1 U ih hr)
        | 57, _ => exact zS_tableIn (tgt := 1597) (zdec eL0 21 rfl) (by decide) (by decide) rfl rfl (cs_57 hd i0 j1 U ih hr)
        | 58, _ => exact zS_tableIn (tgt := 1630) (zdec eL0 21 rfl) (by decide) (by decide) rfl rfl (cs_58 hd i0 j1 U ih hr)
        | 59, _ => exact zS_tableIn (tgt := 1654) (zdec eL0 21 rfl) (by decide) (by decide) rfl rfl (cs_59 hd i0 j1 U ih hr)
        | 60, _ => exact zS_tableIn (tgt := 1677) (zdec eL0 21 rfl) (by decide) (by decide) rfl rfl (cs_60 hd i0 j1 U ih hr)
        | 61, _ => exact zS_tableIn (tgt := 1700) (zdec eL0 21 rfl) (by decide) (by decide) rfl rfl (cs_61 hd i0 j1 U ih hr)
        | 62, _ => exact zS_tableIn (tgt := 1713) (zdec eL0 21 rfl) (by decide) (by decide) rfl rfl (cs_62 hd i0 j1 U ih hr)
        | 63, _ => exact zS_tableIn (tgt := 1726) (zdec eL0 21 rfl) (by decide) (by decide) rfl rfl (cs_63 hd i0 j1 U ih hr)
        | 64, _ => exact zS_tableIn (tgt := 1759) (zdec eL0 21 rfl) (by decide) (by decide) rfl rfl (cs_64 hd i0 j1 U ih hr)
        | 65, _ => exact zS_tableIn (tgt := 1802) (zdec eL0 21 rfl) (by decide) (by decide) rfl rfl (cs_65 hd i0 j1 U ih hr)
        | 66, _ => exact zS_tableIn (tgt := 1835) (zdec eL0 21 rfl) (by decide) (by decide) rfl rfl (cs_66 hd i0 j1 U ih hr)
        | 67, _ => exact zS_tableIn (tgt := 1858) (zdec eL0 21 rfl) (by decide) (by decide) rfl rfl (cs_67 hd i0 j1 U ih hr)
        | 68, _ => exact zS_tableIn (tgt := 1881) (zdec eL0 21 rfl) (by decide) (by decide) rfl rfl (cs_68 hd i0 j1 U ih hr)
        | 69, _ => exact zS_tableIn (tgt := 1904) (zdec eL0 21 rfl) (by decide) (by decide) rfl rfl (cs_69 hd i0 j1 U ih hr)
        | 70, _ => exact zS_tableIn (tgt := 1947) (zdec eL0 21 rfl) (by decide) (by decide) rfl rfl (cs_70 hd i0 j1 U ih hr)
        | 71, _ => exact zS_tableIn (tgt := 2020) (zdec eL0 21 rfl) (by decide) (by decide) rfl rfl (cs_71 hd i0 j1 U ih hr)
        | x + 72, q => omega
      · refine zS_tableOut (tgt := 2083) (zdec eL0 21 rfl) (by omega) rfl ?_
        exact ih _ _ _ _ _ _ _ _ _ U

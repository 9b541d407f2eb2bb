/-! READS WITH A NAMED VALUE; rows by their places; Math -/
section More
variable {M : zM} {r : zB} {pc : Nat} {ls st : List zV} {T : zT} {h : zH} {Q : Option zV → zT → zH → Prop}
theorem zS_getfieldE {ix ci j n : Nat} {kk x v : Int} (hd : decode M.2.1 pc = .ok (.getfield ix, 3)) (hL : zLk M.1.cls ix ci j) (ht : zAt T kk (ci, n)) (hj : (decide (j < n) && decide (ci < 20)) = true) (hx : (j : Int) = x) {t : Nat} (htg : zF ci j = t) (hv : h kk x = v) (k : zS M r (pc + 3) ls ((t, v) :: st) T h Q) : zS M r pc ls (zA kk :: st) T h Q := by
  refine zS_getfield hd hL ht hj hx ?_
  rw [hv, htg]; exact k
theorem zS_ialoadE {n : Nat} {kk j v : Int} (hd : decode M.2.1 pc = .ok (.iaload, 1)) (ht : zAt T kk (21, n)) (h0 : 0 ≤ j) (h1 : j < n) (hv : h kk j = v) (k : zS M r (pc + 1) ls (zI v :: st) T h Q) : zS M r pc ls (zI j :: zA kk :: st) T h Q := by
  refine zS_iaload hd ht h0 h1 ?_
  rw [hv]; exact k
theorem zS_laloadE {n : Nat} {kk j v : Int} (hd : decode M.2.1 pc = .ok (.laload, 1)) (ht : zAt T kk (22, n)) (h0 : 0 ≤ j) (h1 : j < n) (hv : h kk j = v) (k : zS M r (pc + 1) ls (zJ v :: st) T h Q) : zS M r pc ls (zI j :: zA kk :: st) T h Q := by
  refine zS_laload hd ht h0 h1 ?_
  rw [hv]; exact k
theorem zS_baloadE {n t : Nat} {kk j v : Int} (hd : decode M.2.1 pc = .ok (.baload, 1)) (htt : t = 20 ∨ t = 23) (ht : zAt T kk (t, n)) (h0 : 0 ≤ j) (h1 : j < n) (hv : h kk j = v) (k : zS M r (pc + 1) ls (zI v :: st) T h Q) : zS M r pc ls (zI j :: zA kk :: st) T h Q := by
  refine zS_baload hd htt ht h0 h1 ?_
  rw [hv]; exact k
theorem zmin_eq {a b : Int} (ha : zR a) (hb : zR b) : (if Int32.ofInt b < Int32.ofInt a then Int32.ofInt b else Int32.ofInt a) = Int32.ofInt (min a b) := by
  have q := zI_lt hb ha
  by_cases z : b < a
  · rw [if_pos (q.mpr z), Int.min_eq_right (by omega)]
  · rw [if_neg (fun y => z (q.mp y)), Int.min_eq_left (by omega)]
theorem zmax_eq {a b : Int} (ha : zR a) (hb : zR b) : (if Int32.ofInt a < Int32.ofInt b then Int32.ofInt b else Int32.ofInt a) = Int32.ofInt (max a b) := by
  have q := zI_lt ha hb
  by_cases z : a < b
  · rw [if_pos (q.mpr z), Int.max_eq_right (by omega)]
  · rw [if_neg (fun y => z (q.mp y)), Int.max_eq_left (by omega)]
theorem zmaxJ_eq {a b : Int} (ha : zRl a) (hb : zRl b) : (if Int64.ofInt b < Int64.ofInt a then Int64.ofInt a else Int64.ofInt b) = Int64.ofInt (max a b) := by
  have q := zJ_lt hb ha
  by_cases z : b < a
  · rw [if_pos (q.mpr z), Int.max_eq_left (by omega)]
  · rw [if_neg (fun y => z (q.mp y)), Int.max_eq_right (by omega)]
theorem zR_min {a b : Int} (ha : zR a) (hb : zR b) : zR (min a b) := by unfold zR at *; omega
theorem zR_max {a b : Int} (ha : zR a) (hb : zR b) : zR (max a b) := by unfold zR at *; omega
theorem zRl_max {a b : Int} (ha : zRl a) (hb : zRl b) : zRl (max a b) := by unfold zRl at *; omega
theorem zsum {G : zG} {st : List zV} {d n : Nat} {R : Room} (hw : Nat.ble (st.map zcat).sum 8 = true) (hd : 1 ≤ d) (hR : 64 * d ≤ R.locals) (hn : n ≤ 50) : ((st.map (zc G)).map fun v => v.category).sum + n ≤ R.locals := by
  have := zcat_le (G := G) (Nat.le_of_ble_eq_true hw)
  omega
theorem zS_min {ix d : Nat} {a b : Int} (hd : decode M.2.1 pc = .ok (.invokestatic ix, 3)) (hl1 : Cond.methodLink M.1.cls ix yJ9_min_7cf53 ∈ lwg) (hw : Nat.ble (st.map zcat).sum 8 = true) (hdd : 1 ≤ d) (k : zS M (zr d) (pc + 3) ls (zI (min a b) :: st) T h Q) : zS M (zr d) pc ls (zI b :: zI a :: st) T h Q := by
  intro p l e R s m args below meth c Qm G0 T0 C G H locs la hX hP hS hl hls hst
  obtain ⟨vb, hst⟩ := List.forall_mem_cons.mp hst
  obtain ⟨va, hst⟩ := List.forall_mem_cons.mp hst
  have hts := C.2.2.2.2.1
  have hR := C.2.2.2.2.2.2.1
  have hk := k p l e R s m args below meth c Qm G0 T0 C G H locs la hX hP hS hl hls (zok_c (show zok T (zI (min a b)) from zR_min va vb) hst)
  have e9 : zc G (zI (min a b)) = .int (if Int32.ofInt b < Int32.ofInt a then Int32.ofInt b else Int32.ofInt a) := congrArg Value.int (zmin_eq va vb).symm
  rw [List.map_cons, e9] at hk
  have hh : 1 ≤ R.frames := Nat.le_trans hdd hR.1
  exact va_mmin C.1 C.2.1 (C.2.2.1.trans hl.1.symm) C.2.2.2.1 (hts _ hl1) (hts _ kS_J9_min_7cf53.2) (hts _ kS_J9_min_7cf53.1.2.1) (hts _ kS_J9_min_7cf53.1.1) hh (zsum hw hdd hR.2.1 (by decide)) (Nat.zero_le _) (Nat.zero_le _) hd hk
theorem zS_max {ix d : Nat} {a b : Int} (hd : decode M.2.1 pc = .ok (.invokestatic ix, 3)) (hl1 : Cond.methodLink M.1.cls ix yJ9_max_7cf53 ∈ lwg) (hw : Nat.ble (st.map zcat).sum 8 = true) (hdd : 1 ≤ d) (k : zS M (zr d) (pc + 3) ls (zI (max a b) :: st) T h Q) : zS M (zr d) pc ls (zI b :: zI a :: st) T h Q := by
  intro p l e R s m args below meth c Qm G0 T0 C G H locs la hX hP hS hl hls hst
  obtain ⟨vb, hst⟩ := List.forall_mem_cons.mp hst
  obtain ⟨va, hst⟩ := List.forall_mem_cons.mp hst
  have hts := C.2.2.2.2.1
  have hR := C.2.2.2.2.2.2.1
  have hk := k p l e R s m args below meth c Qm G0 T0 C G H locs la hX hP hS hl hls (zok_c (show zok T (zI (max a b)) from zR_max va vb) hst)
  have e9 : zc G (zI (max a b)) = .int (if Int32.ofInt a < Int32.ofInt b then Int32.ofInt b else Int32.ofInt a) := congrArg Value.int (zmax_eq va vb).symm
  rw [List.map_cons, e9] at hk
  have hh : 1 ≤ R.frames := Nat.le_trans hdd hR.1
  exact va_mmax C.1 C.2.1 (C.2.2.1.trans hl.1.symm) C.2.2.2.1 (hts _ hl1) (hts _ kS_J9_max_7cf53.2) (hts _ kS_J9_max_7cf53.1.2.1) (hts _ kS_J9_max_7cf53.1.1) hh (zsum hw hdd hR.2.1 (by decide)) (Nat.zero_le _) (Nat.zero_le _) hd hk
theorem zS_maxJ {ix d : Nat} {a b : Int} (hd : decode M.2.1 pc = .ok (.invokestatic ix, 3)) (hl1 : Cond.methodLink M.1.cls ix yJ9_max_f86c9 ∈ lwg) (hw : Nat.ble (st.map zcat).sum 8 = true) (hdd : 1 ≤ d) (k : zS M (zr d) (pc + 3) ls (zJ (max a b) :: st) T h Q) : zS M (zr d) pc ls (zJ b :: zJ a :: st) T h Q := by
  intro p l e R s m args below meth c Qm G0 T0 C G H locs la hX hP hS hl hls hst
  obtain ⟨vb, hst⟩ := List.forall_mem_cons.mp hst
  obtain ⟨va, hst⟩ := List.forall_mem_cons.mp hst
  have hts := C.2.2.2.2.1
  have hR := C.2.2.2.2.2.2.1
  have hk := k p l e R s m args below meth c Qm G0 T0 C G H locs la hX hP hS hl hls (zok_c (show zok T (zJ (max a b)) from zRl_max va vb) hst)
  have e9 : zc G (zJ (max a b)) = .long (if Int64.ofInt b < Int64.ofInt a then Int64.ofInt a else Int64.ofInt b) := congrArg Value.long (zmaxJ_eq va vb).symm
  rw [List.map_cons, e9] at hk
  have hh : 1 ≤ R.frames := Nat.le_trans hdd hR.1
  exact va_mmax_long C.1 C.2.1 (C.2.2.1.trans hl.1.symm) C.2.2.2.1 (hts _ hl1) (hts _ kS_J9_max_f86c9.2) (hts _ kS_J9_max_f86c9.1.2.1) (hts _ kS_J9_max_f86c9.1.1) hh (zsum hw hdd hR.2.1 (by decide)) (Nat.zero_le _) (Nat.zero_le _) hd hk
theorem zS_absJ {ix d : Nat} {a : Int} (hd : decode M.2.1 pc = .ok (.invokestatic ix, 3)) (hl1 : Cond.methodLink M.1.cls ix yJ9_abs_067f4 ∈ lwg) (hw : Nat.ble (st.map zcat).sum 8 = true) (hdd : 1 ≤ d) (ha : zRl (-a)) (k : zS M (zr d) (pc + 3) ls (zJ (if 0 < a then a else -a) :: st) T h Q) : zS M (zr d) pc ls (zJ a :: st) T h Q := by
  intro p l e R s m args below meth c Qm G0 T0 C G H locs la hX hP hS hl hls hst
  obtain ⟨va, hst⟩ := List.forall_mem_cons.mp hst
  have hts := C.2.2.2.2.1
  have hR := C.2.2.2.2.2.2.1
  have hk := k p l e R s m args below meth c Qm G0 T0 C G H locs la hX hP hS hl hls (zok_c (show zok T (zJ (if 0 < a then a else -a)) by split <;> assumption) hst)
  have q0 : (0 : Int64) < Int64.ofInt a ↔ 0 < a := zJ_lt (zR_l zR0) va
  have e9 : zc G (zJ (if 0 < a then a else -a)) = .long (if 0 < Int64.ofInt a then Int64.ofInt a else -Int64.ofInt a) := by
    by_cases z : 0 < a
    · rw [if_pos z, if_pos (q0.mpr z)]; rfl
    · rw [if_neg z, if_neg (fun y => z (q0.mp y))]; exact congrArg Value.long (Int64.ofInt_neg a)
  rw [List.map_cons, e9] at hk
  have hh : 1 ≤ R.frames := Nat.le_trans hdd hR.1
  exact va_mabs_long C.1 C.2.1 (C.2.2.1.trans hl.1.symm) C.2.2.2.1 (hts _ hl1) (hts _ kS_J9_abs_067f4.2) (hts _ kS_J9_abs_067f4.1.2.1) (hts _ kS_J9_abs_067f4.1.1) hh (zsum hw hdd hR.2.1 (by decide)) (Nat.zero_le _) (Nat.zero_le _) hd hk
end More
theorem zrow_6 {j : Int} (h0 : 0 ≤ j) (h1 : j < 5) : zAt TT (6 + j) (21, 7) := zAt_row 6 5 (21, 7) (by decide) h0 h1
theorem zrow_18 {j : Int} (h0 : 0 ≤ j) (h1 : j < 5) : zAt TT (18 + j) (21, 7) := zAt_row 18 5 (21, 7) (by decide) h0 h1
theorem zrow_36 {j : Int} (h0 : 0 ≤ j) (h1 : j < 5) : zAt TT (36 + j) (21, 7) := zAt_row 36 5 (21, 7) (by decide) h0 h1
theorem zrow_47 {j : Int} (h0 : 0 ≤ j) (h1 : j < 5) : zAt TT (47 + j) (21, 7) := zAt_row 47 5 (21, 7) (by decide) h0 h1
theorem zrow_58 {j : Int} (h0 : 0 ≤ j) (h1 : j < 5) : zAt TT (58 + j) (21, 7) := zAt_row 58 5 (21, 7) (by decide) h0 h1
theorem zrow_69 {j : Int} (h0 : 0 ≤ j) (h1 : j < 4) : zAt TT (69 + j) (22, 60) := zAt_row 69 4 (22, 60) (by decide) h0 h1
theorem zrow_82 {j : Int} (h0 : 0 ≤ j) (h1 : j < 21) : zAt TT (82 + j) (21, 5) := zAt_row 82 21 (21, 5) (by decide) h0 h1

section Str
variable {M : zM} {d pc : Nat} {ls : List zV} {T : zT} {h : zH} {Q : Option zV → zT → zH → Prop}
variable {ix n : Nat} {M' : zM} {As st stk : List zV} {x : Int}
theorem zS_vstr {i : Int} (hd : decode M.2.1 pc = .ok (.invokevirtual ix, 3)) (hl1 : Cond.methodLink M.1.cls ix M'.1 ∈ lwg) (hL : zLv M' n) (hcl : M'.1.cls = "java/lang/String") (i0 : 0 ≤ i) (i1 : i < 18) (hn : As.length = n) (hw : Nat.ble (st.map zcat).sum 8 = true) (hs : As.reverse ++ (5, i) :: st = stk) (hdd : 1 ≤ d)
    {Q1 : Option zV → zT → zH → Prop} (hM : zMet (d - 1) 0 0 M' ((5, i) :: As) T h Q1) (k : ∀ rv T' h', Q1 rv T' h' → zS M (zr d) (pc + 3) ls (rv.toList ++ st) T' h' Q) : zS M (zr d) pc ls stk T h Q := by
  subst hs
  intro p l e R s m args below meth c Qm G0 T0 C G H locs la hX hP hS hl hls hst
  have hAs : ∀ v ∈ As, zok T v := fun v hv => hst v (List.mem_append_left _ (List.mem_reverse.mpr hv))
  have hA : ∀ v ∈ ((5, i) : zV) :: As, zok T v := List.forall_mem_cons.mpr ⟨hst _ (List.mem_append_right _ List.mem_cons_self), hAs⟩
  have hst : ∀ v ∈ st, zok T v := fun v hv => hst v (List.mem_append_right _ (List.mem_cons_of_mem _ hv))
  have hR := C.2.2.2.2.2.2.1
  have hrv := vk_recv (C.K hX).2.2.2.1 (show i.toNat < 18 by omega) hS
  rw [← hcl] at hrv
  refine zgo (Q1 := Q1) (a := (Value.ref (gSk G i.toNat) :: As.map (zc G)).toArray) C hX hP hS hl hls hst (va_runV (As := As.map (zc G)) (b := gSk G i.toNat) (Ts := lwg) ⟨C.1, C.2.1, C.2.2.1, C.2.2.2.1, C.2.2.2.2.1⟩ (hM l G)
      (cwV n C.2.2.2.2.1 (zgood (fun w hw => by
        rcases List.mem_append.mp hw with g | g
        · simp only [List.mem_cons, List.not_mem_nil, or_false] at g
          rcases g with rfl | rfl | rfl | rfl
          · exact hl1
          · exact hL.2.1
          · exact hL.2.2
          · exact hL.1.2.1
        · exact zws_in hL.1 w g)) rfl rfl rfl ⟨rfl, hL.1.2.2.1⟩ (zroom (show d - 1 + 1 ≤ d by omega) ⟨hR.1, hR.2.1⟩ hL.1.2.2.2)) ⟨zPc_blind, hrv, fun U hU hW => ?_⟩ rfl (by rw [List.length_map]; exact hn) hl.1 ?_ (lv_room (zcat_le (Nat.le_of_ble_eq_true hw))) hd ⟨Nat.le_trans zm0.1 hR.2.2.1, Nat.le_trans zm0.2 hR.2.2.2⟩) (fun rv T' h' q _ => k rv T' h' q)
  · exact zpre C hX hP hS hA U hU hW
  · show List.map (zc G) (As.reverse ++ (5, i) :: st) = _
    rw [List.map_append, List.map_cons, List.map_reverse]
    rfl
theorem zS_i2c {a : Int} (hd : decode M.2.1 pc = .ok (.i2c, 1)) (k : zS M (zr d) (pc + 1) ls (zI (zCh a) :: st) T h Q) : zS M (zr d) pc ls (zI a :: st) T h Q := by
  intro p l e R s m args below meth c Qm G0 T0 C G H locs la hX hP hS hl hls hst
  obtain ⟨va, hst⟩ := List.forall_mem_cons.mp hst
  have hk := (k p l e R s m args below meth c Qm G0 T0 C G H locs la hX hP hS hl hls (zok_c (show zok T (zI _) from zR_toInt _) hst))
  rw [List.map_cons] at hk
  have e : zc G (zI (zCh a)) = .int (((Int32.ofInt a).toUInt32 % 65536).toInt32) := congrArg Value.int (zI_of _)
  rw [e] at hk
  exact lv_i2c C.1 C.2.1 hd rfl hk
theorem zlC {y : Int} {ty : FieldType} (hd : decode M.2.1 pc = .ok (.ireturn, 1)) (hty : M.2.2.2 = some ty) (hn : narrow ty (.int (Int32.ofInt x)) = .int (Int32.ofInt x)) (e : x = y) : zS M (zr d) pc ls [zI x] TT h (zOne y h) := zS_ret (rv := some (zI x)) ⟨⟨ty, hty, hn⟩, hd⟩ zm0 ⟨by rw [e], rfl, rfl⟩
theorem zstI {i : Int} (hd : decode M.2.1 pc = .ok (.invokevirtual ix, 3)) (hl1 : Cond.methodLink M.1.cls ix M'.1 ∈ lwg) (hL : zLv M' n) (hcl : M'.1.cls = "java/lang/String") (i0 : 0 ≤ i) (i1 : i < 18) (hn : As.length = n) (hw : Nat.ble (st.map zcat).sum 8 = true) (hs : As.reverse ++ (5, i) :: st = stk) (hdd : 1 ≤ d)
    (hM : zPI (d - 1) M' ((5, i) :: As) h x) (k : zS M (zr d) (pc + 3) ls (zI x :: st) TT h Q) : zS M (zr d) pc ls stk TT h Q :=
  zS_vstr hd hl1 hL hcl i0 i1 hn hw hs hdd hM (fun rv T' h' q => by obtain ⟨rfl, rfl, rfl⟩ := q; exact k)
end Str
theorem c_coder {d : Nat} {h : zH} {i : Int} (i0 : 0 ≤ i) (i1 : i < 18) : zPI d mJ0_coder_7d493 [(5, i)] h 0 := by
  refine zmet rfl rfl rfl ?_
  refine zS_getcomp (zdec eJ0_coder_7d493 0 rfl) kFC ?_
  refine zS_if_eq (tgt := 13) (zdec eJ0_coder_7d493 1 rfl) rfl (fun cz => absurd cz (by decide)) (fun cz => ?_)
  refine zS_aload_n (zdec eJ0_coder_7d493 2 rfl) rfl rfl ?_
  refine zS_scod (zdec eJ0_coder_7d493 3 rfl) kFd i0 i1 ?_
  refine zS_goto (tgt := 14) (zdec eJ0_coder_7d493 4 rfl) rfl ?_
  exact zlC (zdec eJ0_coder_7d493 6 rfl) rfl rfl rfl
theorem c_isLatin1 {d : Nat} {h : zH} {i : Int} (i0 : 0 ≤ i) (i1 : i < 18) : zPI d mJ0_isLatin1_aae02 [(5, i)] h 1 := by
  refine zmet rfl rfl rfl ?_
  refine zS_getcomp (zdec eJ0_isLatin1_aae02 0 rfl) kFC ?_
  refine zS_if_eq (tgt := 17) (zdec eJ0_isLatin1_aae02 1 rfl) rfl (fun cz => absurd cz (by decide)) (fun cz => ?_)
  refine zS_aload_n (zdec eJ0_isLatin1_aae02 2 rfl) rfl rfl ?_
  refine zS_scod (zdec eJ0_isLatin1_aae02 3 rfl) kFd i0 i1 ?_
  refine zS_if_ne (tgt := 17) (zdec eJ0_isLatin1_aae02 4 rfl) rfl (fun cz => absurd rfl cz) (fun cz => ?_)
  refine zS_iconst (zdec eJ0_isLatin1_aae02 5 rfl) rfl ?_
  refine zS_goto (tgt := 18) (zdec eJ0_isLatin1_aae02 6 rfl) rfl ?_
  exact zlZ (zdec eJ0_isLatin1_aae02 8 rfl) rfl (Or.inr rfl) rfl
theorem zslN : ∀ i : Fin 18, zShr (zsl (i.val : Int)) 0 = zsl (i.val : Int) ∧ 0 ≤ zsl (i.val : Int) ∧ zsl (i.val : Int) ≤ 8 := by decide +kernel
theorem zsl_b {i : Int} (i0 : 0 ≤ i) (i1 : i < 18) : zShr (zsl i) 0 = zsl i ∧ 0 ≤ zsl i ∧ zsl i ≤ 8 := by
  obtain ⟨i, rfl⟩ := fin_of (n := 18) i0 i1
  exact zslN i
theorem zsbN : ∀ (i : Fin 18) (j : Fin 8), (j.val : Int) < zsl (i.val : Int) → zCh (zAnd (zsb (i.val : Int) (j.val : Int)) 255) = zsb (i.val : Int) (j.val : Int) ∧ 97 ≤ zsb (i.val : Int) (j.val : Int) ∧ zsb (i.val : Int) (j.val : Int) ≤ 122 := by decide +kernel
theorem zsb_b {i j : Int} (i0 : 0 ≤ i) (i1 : i < 18) (j0 : 0 ≤ j) (j1 : j < zsl i) : zCh (zAnd (zsb i j) 255) = zsb i j ∧ 97 ≤ zsb i j ∧ zsb i j ≤ 122 := by
  have := zsl_b i0 i1
  obtain ⟨i, rfl⟩ := fin_of (n := 18) i0 i1
  obtain ⟨j, rfl⟩ := fin_of (n := 8) j0 (by omega)
  exact zsbN i j j1
theorem nar_c {x : Int} (h0 : 0 ≤ x) (h1 : x < 128) : narrow .char (.int (Int32.ofInt x)) = .int (Int32.ofInt x) := by
  obtain ⟨y, rfl⟩ := fin_of (n := 128) h0 h1
  exact congrArg Value.int ((by decide +kernel : ∀ y : Fin 128, ((Int32.ofInt (y.val : Int)).toUInt32 % 65536).toInt32 = Int32.ofInt (y.val : Int)) y)
theorem c_length {d : Nat} {h : zH} {i : Int} (hd : 1 ≤ d) (i0 : 0 ≤ i) (i1 : i < 18) : zPI d mJ0_length_8abf5 [(5, i)] h (zsl i) := by
  have zb := zsl_b i0 i1
  refine zmet rfl rfl rfl ?_
  refine zS_aload_n (zdec eJ0_length_8abf5 0 rfl) rfl rfl ?_
  refine zS_sval (zdec eJ0_length_8abf5 1 rfl) kFv i0 i1 ?_
  refine zS_svlen (zdec eJ0_length_8abf5 2 rfl) i0 i1 ?_
  refine zS_aload_n (zdec eJ0_length_8abf5 3 rfl) rfl rfl ?_
  refine zstI (M' := mJ0_coder_7d493) (As := []) (st := [zI (zsl i)]) (zdec eJ0_length_8abf5 4 rfl) kM_J0_335 kV_J0_coder_7d493 rfl i0 i1 rfl rfl rfl hd (c_coder i0 i1) ?_
  refine zS_ishr (zdec eJ0_length_8abf5 5 rfl) ?_
  exact zlI (zdec eJ0_length_8abf5 6 rfl) rfl zb.1
theorem c_ckIx3 {d : Nat} {h : zH} {j n : Int} (j0 : 0 ≤ j) (j1 : j < n) : zPI d mJ3_checkIndex_8e157 [zI j, zI n, (8, 0)] h j := by
  refine zmet rfl rfl rfl ?_
  refine zS_iload_n (zdec eJ3_checkIndex_8e157 0 rfl) rfl ?_
  refine zS_if_lt (tgt := 9) (zdec eJ3_checkIndex_8e157 1 rfl) rfl (fun cz => absurd cz (by omega)) (fun cz => ?_)
  refine zS_iload_n (zdec eJ3_checkIndex_8e157 2 rfl) rfl ?_
  refine zS_iload_n (zdec eJ3_checkIndex_8e157 3 rfl) rfl ?_
  refine zS_icmp_lt (tgt := 16) (zdec eJ3_checkIndex_8e157 4 rfl) rfl (fun cz => ?_) (fun cz => absurd (by omega) cz)
  refine zS_iload_n (zdec eJ3_checkIndex_8e157 10 rfl) rfl ?_
  exact zlI (zdec eJ3_checkIndex_8e157 11 rfl) rfl rfl
theorem c_ckIx {d : Nat} {h : zH} {j n : Int} (hd : 1 ≤ d) (j0 : 0 ≤ j) (j1 : j < n) : zMV d mJ0_checkIndex_df160 [zI j, zI n] h (fun h' => h' = h) := by
  refine zmet rfl rfl rfl ?_
  refine zS_iload_n (zdec eJ0_checkIndex_df160 0 rfl) rfl ?_
  refine zS_iload_n (zdec eJ0_checkIndex_df160 1 rfl) rfl ?_
  refine zS_getform (zdec eJ0_checkIndex_df160 2 rfl) kFP ?_
  refine zsI (M' := mJ3_checkIndex_8e157) (As := [zI j, zI n, (8, 0)]) (st := []) (zdec eJ0_checkIndex_df160 3 rfl) kM_J0_1059 kS_J3_checkIndex_8e157 rfl rfl rfl hd (c_ckIx3 j0 j1) ?_
  refine zS_pop (zdec eJ0_checkIndex_df160 4 rfl) (fun q => by cases q) ?_
  exact zlMV (zdec eJ0_checkIndex_df160 5 rfl) rfl rfl
theorem c_chL {d : Nat} {h : zH} {i j : Int} (hd : 2 ≤ d) (i0 : 0 ≤ i) (i1 : i < 18) (j0 : 0 ≤ j) (j1 : j < zsl i) : zPI d mJ1_charAt_3b067 [(7, i), zI j] h (zsb i j) := by
  have zb := zsb_b i0 i1 j0 j1
  refine zmet rfl rfl rfl ?_
  refine zS_iload_n (zdec eJ1_charAt_3b067 0 rfl) rfl ?_
  refine zS_aload_n (zdec eJ1_charAt_3b067 1 rfl) rfl rfl ?_
  refine zS_svlen (zdec eJ1_charAt_3b067 2 rfl) i0 i1 ?_
  refine zsMV (M' := mJ0_checkIndex_df160) (As := [zI j, zI (zsl i)]) (st := []) (zdec eJ1_charAt_3b067 3 rfl) kM_J1_9 kS_J0_checkIndex_df160 rfl rfl rfl (by omega) (c_ckIx (by omega) j0 j1) (fun h' e => ?_)
  subst e
  refine zS_aload_n (zdec eJ1_charAt_3b067 4 rfl) rfl rfl ?_
  refine zS_iload_n (zdec eJ1_charAt_3b067 5 rfl) rfl ?_
  refine zS_schr (zdec eJ1_charAt_3b067 6 rfl) i0 i1 j0 j1 ?_
  refine zS_sipush (zdec eJ1_charAt_3b067 7 rfl) rfl rfl ?_
  refine zS_iand (zdec eJ1_charAt_3b067 8 rfl) ?_
  refine zS_i2c (zdec eJ1_charAt_3b067 9 rfl) ?_
  rw [zb.1]
  exact zlC (zdec eJ1_charAt_3b067 10 rfl) rfl (nar_c (by omega) (by omega)) rfl
theorem c_charAt {d : Nat} {h : zH} {i j : Int} (hd : 3 ≤ d) (i0 : 0 ≤ i) (i1 : i < 18) (j0 : 0 ≤ j) (j1 : j < zsl i) : zPI d mJ0_charAt_5068e [(5, i), zI j] h (zsb i j) := by
  have zb := zsb_b i0 i1 j0 j1
  refine zmet rfl rfl rfl ?_
  refine zS_aload_n (zdec eJ0_charAt_5068e 0 rfl) rfl rfl ?_
  refine zstI (M' := mJ0_isLatin1_aae02) (As := []) (st := []) (zdec eJ0_charAt_5068e 1 rfl) kM_J0_492 kV_J0_isLatin1_aae02 rfl i0 i1 rfl rfl rfl (by omega) (c_isLatin1 i0 i1) ?_
  refine zS_if_eq (tgt := 16) (zdec eJ0_charAt_5068e 2 rfl) rfl (fun cz => absurd cz (by decide)) (fun cz => ?_)
  refine zS_aload_n (zdec eJ0_charAt_5068e 3 rfl) rfl rfl ?_
  refine zS_sval (zdec eJ0_charAt_5068e 4 rfl) kFv i0 i1 ?_
  refine zS_iload_n (zdec eJ0_charAt_5068e 5 rfl) rfl ?_
  refine zsI (M' := mJ1_charAt_3b067) (As := [(7, i), zI j]) (st := []) (zdec eJ0_charAt_5068e 6 rfl) kM_J0_495 kS_J1_charAt_3b067 rfl rfl rfl (by omega) (c_chL (by omega) i0 i1 j0 j1) ?_
  exact zlC (zdec eJ0_charAt_5068e 7 rfl) rfl (nar_c (by omega) (by omega)) rfl

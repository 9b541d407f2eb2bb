/-! CONSTANTS, STRINGS, THE SCRIPT, System.arraycopy -/
theorem kFS : Cond.fieldLink RX6 45 "PaymentRuns$Shares" "FACTORIAL" "[I" ∈ lwg := zt5 101 rfl rfl
theorem kFC : Cond.fieldLink RJ0 38 "java/lang/String" "COMPACT_STRINGS" "Z" ∈ lwg := zt2 211 rfl rfl
theorem kFP : Cond.fieldLink RJ0 1053 "jdk/internal/util/Preconditions" "SIOOBE_FORMATTER" "Ljava/util/function/BiFunction;" ∈ lwg := zt2 227 rfl rfl
theorem kFv : Cond.fieldLink RJ0 9 "java/lang/String" "value" "[B" ∈ lwg := zt9 86 rfl rfl
theorem kFd : Cond.fieldLink RJ0 15 "java/lang/String" "coder" "B" ∈ lwg := zt9 87 rfl rfl
section Consts
variable {M : zM} {r : zB} {pc : Nat} {ls st : List zV} {T : zT} {h : zH} {Q : Option zV → zT → zH → Prop}
theorem zS_getfact {ix : Nat} (hd : decode M.2.1 pc = .ok (.getstatic ix, 3)) (hw : Cond.fieldLink M.1.cls ix "PaymentRuns$Shares" "FACTORIAL" "[I" ∈ lwg) (k : zS M r (pc + 3) ls ((4, 0) :: st) T h Q) : zS M r pc ls st T h Q := by
  intro p l e R s m args below meth c Qm G0 T0 C G H locs la hX hP hS hl hls hst
  exact va_gets C.1 C.2.1 (C.K hX).2.2.2.2.1 hS C.2.2.2.1 (C.2.2.2.2.1 _ hw) (fun _ q => q) hd (k p l e R s m args below meth c Qm G0 T0 C G H locs la hX hP hS hl hls (zok_c trivial hst))
theorem zS_getcomp {ix : Nat} (hd : decode M.2.1 pc = .ok (.getstatic ix, 3)) (hw : Cond.fieldLink M.1.cls ix "java/lang/String" "COMPACT_STRINGS" "Z" ∈ lwg) (k : zS M r (pc + 3) ls (zI 1 :: st) T h Q) : zS M r pc ls st T h Q := by
  intro p l e R s m args below meth c Qm G0 T0 C G H locs la hX hP hS hl hls hst
  exact va_gets C.1 C.2.1 (C.K hX).2.2.2.2.2.2.1 hS C.2.2.2.1 (C.2.2.2.2.1 _ hw) (fun _ q => q) hd (k p l e R s m args below meth c Qm G0 T0 C G H locs la hX hP hS hl hls (zok_c (show zR 1 from zR_of rfl) hst))
theorem zS_getform {ix : Nat} (hd : decode M.2.1 pc = .ok (.getstatic ix, 3)) (hw : Cond.fieldLink M.1.cls ix "jdk/internal/util/Preconditions" "SIOOBE_FORMATTER" "Ljava/util/function/BiFunction;" ∈ lwg) (k : zS M r (pc + 3) ls ((8, 0) :: st) T h Q) : zS M r pc ls st T h Q := by
  intro p l e R s m args below meth c Qm G0 T0 C G H locs la hX hP hS hl hls hst
  exact va_gets C.1 C.2.1 (C.K hX).2.2.2.2.2.2.2.1 hS C.2.2.2.1 (C.2.2.2.2.1 _ hw) (fun _ q => q) hd (k p l e R s m args below meth c Qm G0 T0 C G H locs la hX hP hS hl hls (zok_c trivial hst))
theorem zfaR (n : Nat) : zR (zfaL.getD n 0) := by
  by_cases h : n < 6
  · match n, h with
    | 0, _ => exact zR_of rfl
    | 1, _ => exact zR_of rfl
    | 2, _ => exact zR_of rfl
    | 3, _ => exact zR_of rfl
    | 4, _ => exact zR_of rfl
    | 5, _ => exact zR_of rfl
  · rw [List.getD_eq_getElem?_getD, List.getElem?_eq_none (show zfaL.length ≤ n by show 6 ≤ n; omega)]
    exact zR0
theorem zS_fact {j : Int} (hd : decode M.2.1 pc = .ok (.iaload, 1)) (h0 : 0 ≤ j) (h1 : j < 6) (k : zS M r (pc + 1) ls (zI (zfa j) :: st) T h Q) : zS M r pc ls (zI j :: (4, 0) :: st) T h Q := by
  intro p l e R s m args below meth c Qm G0 T0 C G H locs la hX hP hS hl hls hst
  obtain ⟨vj, hst⟩ := List.forall_mem_cons.mp hst
  have hst := (List.forall_mem_cons.mp hst).2
  obtain ⟨hin, hcl⟩ := zI_idx vj h0 (show j < (6 : Nat) from h1)
  exact va_ti C.1 C.2.1 (C.K hX).2.2.2.2.2.1 hS hin (v := .int (Int32.ofInt (zfa j))) (by rw [hcl]; rfl) hd (k p l e R s m args below meth c Qm G0 T0 C G H locs la hX hP hS hl hls (zok_c (zfaR _) hst))
theorem zS_ldcS {ix i : Nat} {tx : String} (hd : decode M.2.1 pc = .ok (.ldc ix, 2)) (hq : zSl[i]? = some (M.1.cls, ix, tx)) (k : zS M r (pc + 2) ls ((5, (i : Int)) :: st) T h Q) : zS M r pc ls st T h Q := by
  intro p l e R s m args below meth c Qm G0 T0 C G H locs la hX hP hS hl hls hst
  exact va_ldcS C.1 C.2.1 C.2.2.2.1 ((C.K hX).2.2.1 i _ hq) hd (k p l e R s m args below meth c Qm G0 T0 C G H locs la hX hP hS hl hls (zok_c trivial hst))
theorem zS_sval {ix : Nat} {i : Int} (hd : decode M.2.1 pc = .ok (.getfield ix, 3)) (hw : Cond.fieldLink M.1.cls ix "java/lang/String" "value" "[B" ∈ lwg) (h0 : 0 ≤ i) (h1 : i < 18) (k : zS M r (pc + 3) ls ((7, i) :: st) T h Q) : zS M r pc ls ((5, i) :: st) T h Q := by
  intro p l e R s m args below meth c Qm G0 T0 C G H locs la hX hP hS hl hls hst
  have hst := (List.forall_mem_cons.mp hst).2
  exact vk_getf C.1 C.2.1 ((C.K hX).2.2.2.1.1 i.toNat (by omega)).2.2.1 hS C.2.2.2.1 (C.2.2.2.2.1 _ hw) (fun _ q => q) hd (k p l e R s m args below meth c Qm G0 T0 C G H locs la hX hP hS hl hls (zok_c trivial hst))
theorem zS_scod {ix : Nat} {i : Int} (hd : decode M.2.1 pc = .ok (.getfield ix, 3)) (hw : Cond.fieldLink M.1.cls ix "java/lang/String" "coder" "B" ∈ lwg) (h0 : 0 ≤ i) (h1 : i < 18) (k : zS M r (pc + 3) ls (zI 0 :: st) T h Q) : zS M r pc ls ((5, i) :: st) T h Q := by
  intro p l e R s m args below meth c Qm G0 T0 C G H locs la hX hP hS hl hls hst
  have hst := (List.forall_mem_cons.mp hst).2
  exact vk_getf C.1 C.2.1 ((C.K hX).2.2.2.1.1 i.toNat (by omega)).2.1 hS C.2.2.2.1 (C.2.2.2.2.1 _ hw) (fun _ q => q) hd (k p l e R s m args below meth c Qm G0 T0 C G H locs la hX hP hS hl hls (zok_c zR0 hst))
theorem zln_lt : ∀ i, i < 18 → zln.getD i 0 < 100 := by decide
theorem zS_svlen {i : Int} (hd : decode M.2.1 pc = .ok (.arraylength, 1)) (h0 : 0 ≤ i) (h1 : i < 18) (k : zS M r (pc + 1) ls (zI (zsl i) :: st) T h Q) : zS M r pc ls ((7, i) :: st) T h Q := by
  intro p l e R s m args below meth c Qm G0 T0 C G H locs la hX hP hS hl hls hst
  have hst := (List.forall_mem_cons.mp hst).2
  have hlt := zln_lt i.toNat (by omega)
  exact va_tlen C.1 C.2.1 ((C.K hX).2.2.2.1.1 i.toNat (by omega)).2.2.2 hS (v := Int32.ofInt (zsl i)) (by unfold zsl; rw [Int32.ofInt_eq_ofNat]) hd (k p l e R s m args below meth c Qm G0 T0 C G H locs la hX hP hS hl hls (zok_c (show zR (zsl i) by unfold zsl zR; omega) hst))
theorem zS_schr {i j : Int} (hd : decode M.2.1 pc = .ok (.baload, 1)) (h0 : 0 ≤ i) (h1 : i < 18) (g0 : 0 ≤ j) (g1 : j < zsl i) (k : zS M r (pc + 1) ls (zI (zsb i j) :: st) T h Q) : zS M r pc ls (zI j :: (7, i) :: st) T h Q := by
  intro p l e R s m args below meth c Qm G0 T0 C G H locs la hX hP hS hl hls hst
  obtain ⟨vj, hst⟩ := List.forall_mem_cons.mp hst
  have hst := (List.forall_mem_cons.mp hst).2
  obtain ⟨hin, hcl⟩ := zI_idx vj g0 (show j < (zln.getD i.toNat 0 : Nat) from g1)
  exact va_tb C.1 C.2.1 ((C.K hX).2.2.2.1.1 i.toNat (by omega)).2.2.2 hS hin (v := .int (Int32.ofInt (zsb i j))) (by rw [hcl]; unfold zsb; rw [zI_of]) hd (k p l e R s m args below meth c Qm G0 T0 C G H locs la hX hP hS hl hls (zok_c (zR_toInt _) hst))
/-- the script -/
theorem zS_slen (hd : decode M.2.1 pc = .ok (.arraylength, 1)) (hL : h (-2) 0 < 2147483648) (k : zS M r (pc + 1) ls (zI (h (-2) 0) :: st) T h Q) : zS M r pc ls ((6, 0) :: st) T h Q := by
  intro p l e R s m args below meth c Qm G0 T0 C G H locs la hX hP hS hl hls hst
  have hst := (List.forall_mem_cons.mp hst).2
  obtain ⟨hx, h1, h2⟩ := (C.K hX).2.1
  have e1 := hP.2.2.2.1
  have e9 : zc G (zI (h (-2) 0)) = .int (Int32.ofNat (gL G)) := by rw [e1]; exact congrArg Value.int (Int32.ofInt_eq_ofNat)
  have hk := k p l e R s m args below meth c Qm G0 T0 C G H locs la hX hP hS hl hls (zok_c (show zR _ by unfold zR; omega) hst)
  rw [List.map_cons, e9] at hk
  exact va_slen C.1 C.2.1 hx (Nat.lt_of_lt_of_le h1 h2) (fun q => absurd h1 (Nat.not_lt.mpr q)) hS hd hk
theorem zS_script {j : Int} (hd : decode M.2.1 pc = .ok (.iaload, 1)) (h0 : 0 ≤ j) (h1 : j < h (-2) 0) (k : zS M r (pc + 1) ls (zI (h (-1) j) :: st) T h Q) : zS M r pc ls (zI j :: (6, 0) :: st) T h Q := by
  intro p l e R s m args below meth c Qm G0 T0 C G H locs la hX hP hS hl hls hst
  obtain ⟨b, rfl⟩ := Int.eq_ofNat_of_zero_le h0
  obtain ⟨vj, hst⟩ := List.forall_mem_cons.mp hst
  have hst := (List.forall_mem_cons.mp hst).2
  obtain ⟨hx, g1, g2⟩ := (C.K hX).2.1
  have e1 := hP.2.2.2.1
  have hb : b < gL G := by omega
  obtain ⟨q1, q2⟩ := hP.2.2.2.2 b hb
  obtain ⟨hin, hcl⟩ := zI_idx vj h0 (show (b : Int) < (gL G : Nat) by omega)
  refine va_sld C.1 C.2.1 hx (Nat.lt_of_lt_of_le g1 g2) (fun q => absurd g1 (Nat.not_lt.mpr q)) hS hin hd ?_
  rw [hcl, Int.toNat_natCast, ← q2]
  exact k p l e R s m args below meth c Qm G0 T0 C G H locs la hX hP hS hl hls (zok_c q1 hst)
/-- more of int's rows -/
def zUshr (a b : Int) : Int := ((Int32.ofInt a).toUInt32 >>> ((Int32.ofInt b).toUInt32 &&& Int32.toUInt32 31)).toInt32.toInt
def zCh (a : Int) : Int := ((Int32.ofInt a).toUInt32 % 65536).toInt32.toInt
end Consts
theorem kAL : Cond.native arraycopyName ∈ lwg := zt3 62 rfl rfl
theorem kAS : Cond.static arraycopyName ∈ lwg := zt3 61 rfl rfl
theorem kAI : Cond.initialized "java/lang/System" ∈ lwg := zt1 17 rfl rfl
section Copy
variable {M : zM} {r : zB} {pc : Nat} {ls st : List zV} {T : zT} {h : zH} {Q : Option zV → zT → zH → Prop}
theorem zcpy_k {h : zH} {ks sp kd dp n a : Int} (ha : a ≠ kd) : zcpy h ks sp kd dp n a = h a := funext fun b => if_neg fun q => ha q.1
theorem zcpy_wi {G : zG} {T : zT} {a b na nb sp dp n : Nat} {h : zH} (ht : T.1[b]? = some (21, nb)) : (zw G T h).set b (G.2 b, .inl (gY G 21, nb, .inl (va_cpy (fun i => Int32.ofInt (h a i)) (fun i => Int32.ofInt (h b i)) sp dp n))) = zw G T (zcpy h a sp b dp n) := by
  rw [← zw_set (h := h) (h' := zcpy h a sp b dp n) (t := (21, nb)) ht (fun c hc => zcpy_k (by omega)), zE_i (Or.inr (Or.inl rfl))]
  congr 5
  apply congrArg Sum.inl
  funext i
  unfold va_cpy zcpy
  by_cases q : dp ≤ i ∧ i < dp + n
  · rw [if_pos q, if_pos ⟨rfl, by omega, by omega⟩]
    have e : ((sp + (i - dp) : Nat) : Int) = (sp : Int) + ((i : Int) - dp) := by omega
    dsimp only
    rw [e]
  · rw [if_neg q, if_neg (by omega)]
theorem zcpy_wl {G : zG} {T : zT} {a b na nb sp dp n : Nat} {h : zH} (ht : T.1[b]? = some (22, nb)) : (zw G T h).set b (G.2 b, .inl (gY G 22, nb, .inr (.inl (va_cpy (fun i => Int64.ofInt (h a i)) (fun i => Int64.ofInt (h b i)) sp dp n)))) = zw G T (zcpy h a sp b dp n) := by
  rw [← zw_set (h := h) (h' := zcpy h a sp b dp n) (t := (22, nb)) ht (fun c hc => zcpy_k (by omega)), zE_l]
  congr 6
  apply congrArg Sum.inl
  funext i
  unfold va_cpy zcpy
  by_cases q : dp ≤ i ∧ i < dp + n
  · rw [if_pos q, if_pos ⟨rfl, by omega, by omega⟩]
    have e : ((sp + (i - dp) : Nat) : Int) = (sp : Int) + ((i : Int) - dp) := by omega
    dsimp only
    rw [e]
  · rw [if_neg q, if_neg (by omega)]
theorem zokh_cpy {T : zT} {h : zH} {a b na nb sp dp n t : Nat} (hh : zokh T h) (hta : T.1[a]? = some (t, na)) (htb : T.1[b]? = some (t, nb)) (htt : t = 21 ∨ t = 22) (h4 : sp + n ≤ na) (h5 : dp + n ≤ nb) : zokh T (zcpy h a sp b dp n) := by
  refine ⟨fun k j t' ht' hj => ?_, fun hT => ⟨(hh.2 hT).1, ?_⟩⟩
  · unfold zcpy
    by_cases q : (k : Int) = b ∧ (dp : Int) ≤ j ∧ (j : Int) < dp + n
    · rw [if_pos q]
      have hk : k = b := by omega
      subst hk
      cases htb.symm.trans ht'
      have := hh.1 a (sp + (j - dp)) _ hta (show sp + (j - dp) < na by omega)
      have e : ((sp + (j - dp) : Nat) : Int) = (sp : Int) + ((j : Int) - dp) := by omega
      rw [e] at this
      rcases htt with rfl | rfl <;> exact this
    · rw [if_neg q]
      exact hh.1 k j t' ht' hj
  · have hs := (hh.2 hT).2
    have hb : TTl[b]? = some (t, nb) := by rw [← (hh.2 hT).1]; exact htb
    refine ⟨fun q hq => ?_, fun q hq i hi => ?_⟩
    · have h1 := List.all_eq_true.mp zRo_ok q hq
      rw [zcpy_k]
      · exact hs.1 q hq
      · intro h2
        have h2 : q.1 = b := by omega
        rw [h2, hb] at h1
        simp only [Bool.and_eq_true, decide_eq_true_eq] at h1
        omega
    · have h1 := List.all_eq_true.mp zRa_ok q hq
      rw [zcpy_k]
      · exact hs.2 q hq i hi
      · intro h2
        have h2 : q.1 = b := by omega
        rw [h2, hb] at h1
        simp only [Bool.and_eq_true, decide_eq_true_eq] at h1
        omega
theorem zScr.cpy {G : zG} {h : zH} {b : Nat} {ks sp dp n : Int} (hs : zScr G h) : zScr G (zcpy h ks sp b dp n) := by
  refine ⟨?_, fun i hi => ?_⟩
  · rw [zcpy_k (by omega)]; exact hs.1
  · rw [zcpy_k (by omega)]; exact hs.2 i hi
theorem zS_copyI {ix d na nb : Nat} {ks sp kd dp n : Int} (hd : decode M.2.1 pc = .ok (.invokestatic ix, 3)) (hl1 : Cond.methodLink M.1.cls ix arraycopyName ∈ lwg) (hw : Nat.ble (st.map zcat).sum 8 = true) (hdd : 1 ≤ d) (ha : zAt T ks (21, na)) (hb : zAt T kd (21, nb)) (h1 : 0 ≤ sp) (h2 : 0 ≤ dp) (h3 : 0 ≤ n) (h4 : sp + n ≤ na) (h5 : dp + n ≤ nb)
    (k : zS M (zr d) (pc + 3) ls st T (zcpy h ks sp kd dp n) Q) : zS M (zr d) pc ls (zI n :: zI dp :: zA kd :: zI sp :: zA ks :: st) T h Q := by
  intro p l e R s m args below meth c Qm G0 T0 C G H locs la hX hP hS hl hls hst
  obtain ⟨ha0, ha⟩ := ha
  obtain ⟨a, rfl⟩ := Int.eq_ofNat_of_zero_le ha0
  obtain ⟨hb0, hb⟩ := hb
  obtain ⟨b, rfl⟩ := Int.eq_ofNat_of_zero_le hb0
  obtain ⟨sn, rfl⟩ := Int.eq_ofNat_of_zero_le h1
  obtain ⟨dn, rfl⟩ := Int.eq_ofNat_of_zero_le h2
  obtain ⟨nn, rfl⟩ := Int.eq_ofNat_of_zero_le h3
  obtain ⟨vn, hst⟩ := List.forall_mem_cons.mp hst
  obtain ⟨vd, hst⟩ := List.forall_mem_cons.mp hst
  obtain ⟨-, hst⟩ := List.forall_mem_cons.mp hst
  obtain ⟨vs, hst⟩ := List.forall_mem_cons.mp hst
  have hst := (List.forall_mem_cons.mp hst).2
  simp only [Int.toNat_natCast] at ha hb
  have c1 : ∀ {x : Nat}, zR x → (Int32.ofInt x).toNatClampNeg = x := fun {x} hx => by show (Int32.ofInt x).toInt.toNat = x; rw [zI_toInt hx]; omega
  have c2 : ∀ {x : Nat}, zR x → ¬ Int32.ofInt x < 0 := fun {x} hx q => by have := (zI_lt hx zR0).mp q; omega
  have hts := C.2.2.2.2.1
  have hR := C.2.2.2.2.2.2.1
  have hwa := zw_at (G := G) (h := h) ha
  have hwb := zw_at (G := G) (h := h) hb
  rw [zE_i (Or.inr (Or.inl rfl))] at hwa hwb
  simp only [List.map_cons]
  rw [zc_pos (G := G) ha0, zc_pos (G := G) hb0, Int.toNat_natCast, Int.toNat_natCast]
  refine va_copyi (ty := .int) C.1 C.2.1 (C.2.2.1.trans hl.1.symm) C.2.2.2.1 (hts _ hl1) (hts _ kAL) (hts _ kAS) (hts _ kAI) (C.K hX).1 hP.1 hP.2.1 hS a b 1 1 hwa hwb rfl rfl rfl (c2 vs) (c2 vd) (c2 vn) (by rw [c1 vs, c1 vn]; omega) (by rw [c1 vd, c1 vn]; omega) (fun _ _ => rfl) (Nat.le_trans hdd hR.1) (zsum hw hdd hR.2.1 (by decide)) hd (fun H1 locs1 hP1 hD1 hS1 => ?_)
  rw [c1 vs, c1 vd, c1 vn, zcpy_wi (na := na) hb] at hP1 hD1
  exact k p l e R s m args below meth c Qm G0 T0 C G H1 locs1 la hX ⟨hP1, hD1, zokh_cpy hP.2.2.1 ha hb (Or.inl rfl) (by omega) (by omega), hP.2.2.2.cpy⟩ hS1 hl hls hst
theorem zS_copyL {ix d na nb : Nat} {ks sp kd dp n : Int} (hd : decode M.2.1 pc = .ok (.invokestatic ix, 3)) (hl1 : Cond.methodLink M.1.cls ix arraycopyName ∈ lwg) (hw : Nat.ble (st.map zcat).sum 8 = true) (hdd : 1 ≤ d) (ha : zAt T ks (22, na)) (hb : zAt T kd (22, nb)) (h1 : 0 ≤ sp) (h2 : 0 ≤ dp) (h3 : 0 ≤ n) (h4 : sp + n ≤ na) (h5 : dp + n ≤ nb)
    (k : zS M (zr d) (pc + 3) ls st T (zcpy h ks sp kd dp n) Q) : zS M (zr d) pc ls (zI n :: zI dp :: zA kd :: zI sp :: zA ks :: st) T h Q := by
  intro p l e R s m args below meth c Qm G0 T0 C G H locs la hX hP hS hl hls hst
  obtain ⟨ha0, ha⟩ := ha
  obtain ⟨a, rfl⟩ := Int.eq_ofNat_of_zero_le ha0
  obtain ⟨hb0, hb⟩ := hb
  obtain ⟨b, rfl⟩ := Int.eq_ofNat_of_zero_le hb0
  obtain ⟨sn, rfl⟩ := Int.eq_ofNat_of_zero_le h1
  obtain ⟨dn, rfl⟩ := Int.eq_ofNat_of_zero_le h2
  obtain ⟨nn, rfl⟩ := Int.eq_ofNat_of_zero_le h3
  obtain ⟨vn, hst⟩ := List.forall_mem_cons.mp hst
  obtain ⟨vd, hst⟩ := List.forall_mem_cons.mp hst
  obtain ⟨-, hst⟩ := List.forall_mem_cons.mp hst
  obtain ⟨vs, hst⟩ := List.forall_mem_cons.mp hst
  have hst := (List.forall_mem_cons.mp hst).2
  simp only [Int.toNat_natCast] at ha hb
  have c1 : ∀ {x : Nat}, zR x → (Int32.ofInt x).toNatClampNeg = x := fun {x} hx => by show (Int32.ofInt x).toInt.toNat = x; rw [zI_toInt hx]; omega
  have c2 : ∀ {x : Nat}, zR x → ¬ Int32.ofInt x < 0 := fun {x} hx q => by have := (zI_lt hx zR0).mp q; omega
  have hts := C.2.2.2.2.1
  have hR := C.2.2.2.2.2.2.1
  have hwa := zw_at (G := G) (h := h) ha
  have hwb := zw_at (G := G) (h := h) hb
  rw [zE_l] at hwa hwb
  simp only [List.map_cons]
  rw [zc_pos (G := G) ha0, zc_pos (G := G) hb0, Int.toNat_natCast, Int.toNat_natCast]
  refine va_copyl (ty := .long) C.1 C.2.1 (C.2.2.1.trans hl.1.symm) C.2.2.2.1 (hts _ hl1) (hts _ kAL) (hts _ kAS) (hts _ kAI) (C.K hX).1 hP.1 hP.2.1 hS a b 2 2 hwa hwb rfl rfl rfl (c2 vs) (c2 vd) (c2 vn) (by rw [c1 vs, c1 vn]; omega) (by rw [c1 vd, c1 vn]; omega) (fun _ _ => rfl) (Nat.le_trans hdd hR.1) (zsum hw hdd hR.2.1 (by decide)) hd (fun H1 locs1 hP1 hD1 hS1 => ?_)
  rw [c1 vs, c1 vd, c1 vn, zcpy_wl (na := na) hb] at hP1 hD1
  exact k p l e R s m args below meth c Qm G0 T0 C G H1 locs1 la hX ⟨hP1, hD1, zokh_cpy hP.2.2.1 ha hb (Or.inr rfl) (by omega) (by omega), hP.2.2.2.cpy⟩ hS1 hl hls hst
end Copy
theorem kM_X0_63 : Cond.methodLink RX0 63 arraycopyName ∈ lwg := zt3 60 rfl rfl
theorem kM_X4_66 : Cond.methodLink RX4 66 arraycopyName ∈ lwg := zt4 173 rfl rfl
theorem kM_X5_43 : Cond.methodLink RX5 43 arraycopyName ∈ lwg := zt5 32 rfl rfl
theorem kM_X9_413 : Cond.methodLink RX9 413 arraycopyName ∈ lwg := zt6 20 rfl rfl

/-! ARRAYS, CALLS, RETURNS, CONTRACTS -/
theorem zE_i {G : zG} {t n : Nat} {f : Int → Int} (h : t = 20 ∨ t = 21 ∨ t = 23) : zE G (t, n) f = .inl (gY G t, n, .inl (fun j => Int32.ofInt (f j))) := by
  rcases h with rfl | rfl | rfl <;> rfl
theorem zE_l {G : zG} {n : Nat} {f : Int → Int} : zE G (22, n) f = .inl (gY G 22, n, .inr (.inl (fun j => Int64.ofInt (f j)))) := rfl
theorem zE_q {G : zG} {t n : Nat} {f : Int → Int} (h : t = 24 ∨ t = 25 ∨ t = 26) : zE G (t, n) f = .inl (gY G t, n, .inr (.inr (.inr (.inr (fun j => if f j < 0 then none else some (G.2 (f j).toNat)))))) := by
  rcases h with rfl | rfl | rfl <;> rfl
theorem zast_i {G : zG} {T : zT} {t n a j : Nat} {h : zH} {v : Int} (ht' : t = 20 ∨ t = 21 ∨ t = 23) (ht : T.1[a]? = some (t, n)) : (zw G T h).set a (G.2 a, .inl (gY G t, n, .inl (upd (fun b => Int32.ofInt (h a b)) j (Int32.ofInt v)))) = zw G T (zset h a j v) := by
  rw [← zw_set (h := h) (h' := zset h a j v) (t := (t, n)) ht (fun b hb => zset_k (by omega)), zE_i ht']
  congr 5
  apply congrArg Sum.inl
  funext b
  unfold upd zset
  by_cases hb : b = j
  · subst hb; simp
  · rw [if_neg hb, if_neg (by omega)]
theorem zast_l {G : zG} {T : zT} {n a j : Nat} {h : zH} {v : Int} (ht : T.1[a]? = some (22, n)) : (zw G T h).set a (G.2 a, .inl (gY G 22, n, .inr (.inl (vp_updL (fun b => Int64.ofInt (h a b)) j (Int64.ofInt v))))) = zw G T (zset h a j v) := by
  rw [← zw_set (h := h) (h' := zset h a j v) (t := (22, n)) ht (fun b hb => zset_k (by omega)), zE_l]
  congr 6
  apply congrArg Sum.inl
  funext b
  unfold vp_updL zset
  by_cases hb : b = j
  · subst hb; simp
  · rw [if_neg hb, if_neg (by omega)]
theorem zast_q {G : zG} {T : zT} {t n a j k : Nat} {h : zH} (ht' : t = 24 ∨ t = 25 ∨ t = 26) (ht : T.1[a]? = some (t, n)) : (zw G T h).set a (G.2 a, .inl (gY G t, n, .inr (.inr (.inr (.inr (va_up (fun b : Nat => if h a b < 0 then none else some (G.2 (h a b).toNat)) j (some (G.2 k)))))))) = zw G T (zset h a j k) := by
  rw [← zw_set (h := h) (h' := zset h a j k) (t := (t, n)) ht (fun b hb => zset_k (by omega)), zE_q ht']
  congr 8
  apply congrArg Sum.inr
  funext b
  unfold va_up zset
  by_cases hb : b = j
  · subst hb
    simp
  · have e : ¬ ((a : Int) = a ∧ (b : Int) = j) := by omega
    rw [if_neg hb, if_neg e]
def zcpy (h : zH) (ks sp kd dp n : Int) : zH := fun a b => if a = kd ∧ dp ≤ b ∧ b < dp + n then h ks (sp + (b - dp)) else h a b
section Arr
variable {M : zM} {r : zB} {pc : Nat} {ls st : List zV} {T : zT} {h : zH} {Q : Option zV → zT → zH → Prop}
theorem zst_in {T : zT} {st : List zV} {j kk : Int} (hst : ∀ v ∈ zI j :: zA kk :: st, zok T v) : zR j ∧ ∀ v ∈ st, zok T v :=
  ⟨(List.forall_mem_cons.mp hst).1, (List.forall_mem_cons.mp (List.forall_mem_cons.mp hst).2).2⟩
theorem zS_iaload {n : Nat} {kk j : Int} (hd : decode M.2.1 pc = .ok (.iaload, 1)) (ht : zAt T kk (21, n)) (h0 : 0 ≤ j) (h1 : j < n) (k : zS M r (pc + 1) ls (zI (h kk j) :: st) T h Q) : zS M r pc ls (zI j :: zA kk :: st) T h Q := by
  intro p l e R s m args below meth c Qm G0 T0 C G H locs la hX hP hS hl hls hst
  obtain ⟨hk0, ht⟩ := ht
  obtain ⟨a, rfl⟩ := Int.eq_ofNat_of_zero_le hk0
  obtain ⟨b, rfl⟩ := Int.eq_ofNat_of_zero_le h0
  simp only [Int.toNat_natCast] at ht
  obtain ⟨hj, hst⟩ := zst_in hst
  obtain ⟨hin, hcl⟩ := zI_idx hj h0 h1
  have hw := zw_at (G := G) (h := h) ht
  rw [zE_i (Or.inr (Or.inl rfl))] at hw
  rw [List.map_cons, List.map_cons, zc_pos (by omega), Int.toNat_natCast]
  refine va_iald C.1 C.2.1 (C.K hX).1 hP.1 a 1 hw rfl hin hd ?_
  rw [hcl, Int.toNat_natCast]
  exact k p l e R s m args below meth c Qm G0 T0 C G H locs la hX hP hS hl hls (zok_c (hP.2.2.1.1 a b _ ht (show b < n by omega)) hst)
theorem zS_baload {n : Nat} {t : Nat} {kk j : Int} (hd : decode M.2.1 pc = .ok (.baload, 1)) (htt : t = 20 ∨ t = 23) (ht : zAt T kk (t, n)) (h0 : 0 ≤ j) (h1 : j < n) (k : zS M r (pc + 1) ls (zI (h kk j) :: st) T h Q) : zS M r pc ls (zI j :: zA kk :: st) T h Q := by
  intro p l e R s m args below meth c Qm G0 T0 C G H locs la hX hP hS hl hls hst
  obtain ⟨hk0, ht⟩ := ht
  obtain ⟨a, rfl⟩ := Int.eq_ofNat_of_zero_le hk0
  obtain ⟨b, rfl⟩ := Int.eq_ofNat_of_zero_le h0
  simp only [Int.toNat_natCast] at ht
  obtain ⟨hj, hst⟩ := zst_in hst
  obtain ⟨hin, hcl⟩ := zI_idx hj h0 h1
  have hw := zw_at (G := G) (h := h) ht
  have hok : zR (h a b) := by
    have := hP.2.2.1.1 a b _ ht (show b < n by omega)
    rcases htt with rfl | rfl
    · have q : -128 ≤ h a b ∧ h a b < 128 := this
      unfold zR; omega
    · have q : 0 ≤ h a b ∧ h a b < 2 := this
      unfold zR; omega
  have hk := k p l e R s m args below meth c Qm G0 T0 C G H locs la hX hP hS hl hls (zok_c hok hst)
  rw [List.map_cons, List.map_cons, zc_pos (by omega), Int.toNat_natCast]
  rcases htt with rfl | rfl
  · rw [zE_i (Or.inl rfl)] at hw
    refine va_bald C.1 C.2.1 (C.K hX).1 hP.1 a 0 hw rfl hin hd ?_
    rw [hcl, Int.toNat_natCast]
    exact hk
  · rw [zE_i (Or.inr (Or.inr rfl))] at hw
    refine va_zald C.1 C.2.1 (C.K hX).1 hP.1 a 3 hw rfl hin hd ?_
    rw [hcl, Int.toNat_natCast]
    exact hk
theorem zS_laload {n : Nat} {kk j : Int} (hd : decode M.2.1 pc = .ok (.laload, 1)) (ht : zAt T kk (22, n)) (h0 : 0 ≤ j) (h1 : j < n) (k : zS M r (pc + 1) ls (zJ (h kk j) :: st) T h Q) : zS M r pc ls (zI j :: zA kk :: st) T h Q := by
  intro p l e R s m args below meth c Qm G0 T0 C G H locs la hX hP hS hl hls hst
  obtain ⟨hk0, ht⟩ := ht
  obtain ⟨a, rfl⟩ := Int.eq_ofNat_of_zero_le hk0
  obtain ⟨b, rfl⟩ := Int.eq_ofNat_of_zero_le h0
  simp only [Int.toNat_natCast] at ht
  obtain ⟨hj, hst⟩ := zst_in hst
  obtain ⟨hin, hcl⟩ := zI_idx hj h0 h1
  have hw := zw_at (G := G) (h := h) ht
  rw [zE_l] at hw
  rw [List.map_cons, List.map_cons, zc_pos (by omega), Int.toNat_natCast]
  refine va_lald C.1 C.2.1 (C.K hX).1 hP.1 a 2 hw rfl hin hd ?_
  rw [hcl, Int.toNat_natCast]
  exact k p l e R s m args below meth c Qm G0 T0 C G H locs la hX hP hS hl hls (zok_c (hP.2.2.1.1 a b _ ht (show b < n by omega)) hst)
theorem zaldq {p : Program} {l : Launch} {e : Env} {R : Room} {s : State} {m : MethodId} {args : Array Value} {below : List Frame} {meth : Method} {c : Code} {H : Heap} {locs : List Loc} {cells slots : Nat} {Q : State → Prop} {cc : ByteArray} {pc : Nat} {ls : Array Slot} {rest : List Value} {D : va_G} {cl : List vw_C} {a : Nat} {tys : List (ClassId × FieldType)} {ws : va_W}
    (hexec : p.tables.exec = Jvm.exec) (hb : c.code = cc) (hK : va_K D cl tys s) (hP : va_P D cl ws H) (q0 t0 : Nat) {cA : ClassId} {ty : FieldType} {n : Nat} {f : Nat → Option Nat} (ha : ws[q0]? = some (a, .inl (cA, n, .inr (.inr (.inr (.inr f)))))) (ht : tys[t0]? = some (cA, ty)) (hty : ty.isReference = true) {i : Int32} (hin : vp_in i n) (hdg : decode cc pc = .ok (.aaload, 1))
    (kk : W p l e R s m args below meth c H locs cells slots Q (F0 m (pc + 1) ls (va_rf (f i.toNatClampNeg) :: rest))) : W p l e R s m args below meth c H locs cells slots Q (F0 m pc ls (.int i :: .ref a :: rest)) := by
  have hlt : i.toNatClampNeg < n := Nat.not_le.mp fun q => hin (Or.inr q)
  exact W.aald (v := va_rf (f i.toNatClampNeg)) (ty := ty) hexec hb (hP q0 _ ha) ((hK.2 t0 _ ht).1 n (fun j => va_rf (f j))) hty (fun q => by cases q) (by show ¬ (i < 0 ∨ (arrV _ _ _).slots.size ≤ _); rw [arrV_size]; exact hin) (by show (arrV _ _ _).slots[_]? = _; rw [arrV_read _ _ hlt]) rfl rfl hdg kk
theorem zc_rf {G : zG} {x : Int} : zc G (2, x) = va_rf (if x < 0 then none else some (G.2 x.toNat)) := by
  by_cases q : x < 0
  · rw [if_pos q]; exact if_pos q
  · rw [if_neg q]; exact if_neg q
theorem zS_aaload {n : Nat} {t : Nat} {kk j : Int} (hd : decode M.2.1 pc = .ok (.aaload, 1)) (htt : t = 24 ∨ t = 25 ∨ t = 26) (ht : zAt T kk (t, n)) (h0 : 0 ≤ j) (h1 : j < n) (k : zS M r (pc + 1) ls (zA (h kk j) :: st) T h Q) : zS M r pc ls (zI j :: zA kk :: st) T h Q := by
  intro p l e R s m args below meth c Qm G0 T0 C G H locs la hX hP hS hl hls hst
  obtain ⟨hk0, ht⟩ := ht
  obtain ⟨a, rfl⟩ := Int.eq_ofNat_of_zero_le hk0
  obtain ⟨b, rfl⟩ := Int.eq_ofNat_of_zero_le h0
  simp only [Int.toNat_natCast] at ht
  obtain ⟨hj, hst⟩ := zst_in hst
  obtain ⟨hin, hcl⟩ := zI_idx hj h0 h1
  have hw := zw_at (G := G) (h := h) ht
  rw [zE_q htt] at hw
  have hok : zok T (zA (h a b)) := by
    have := hP.2.2.1.1 a b _ ht (show b < n by omega)
    rcases htt with rfl | rfl | rfl <;> exact this
  have hk := k p l e R s m args below meth c Qm G0 T0 C G H locs la hX hP hS hl hls (zok_c hok hst)
  rw [List.map_cons, zc_rf] at hk
  rw [List.map_cons, List.map_cons, zc_pos (by omega), Int.toNat_natCast]
  rcases htt with rfl | rfl | rfl
  · refine zaldq C.1 C.2.1 (C.K hX).1 hP.1 a 4 hw rfl rfl hin hd ?_
    rw [hcl, Int.toNat_natCast]
    exact hk
  · refine zaldq C.1 C.2.1 (C.K hX).1 hP.1 a 5 hw rfl rfl hin hd ?_
    rw [hcl, Int.toNat_natCast]
    exact hk
  · refine zaldq C.1 C.2.1 (C.K hX).1 hP.1 a 6 hw rfl rfl hin hd ?_
    rw [hcl, Int.toNat_natCast]
    exact hk
/-- an array of references, once all is made -/
theorem zS_aaloadR {n t i a : Nat} {kk j b sd : Int} (hd : decode M.2.1 pc = .ok (.aaload, 1)) (htt : t = 24 ∨ t = 25 ∨ t = 26) (ht : zAt T kk (t, n)) (hT : T.2 = true) (ha : (a : Int) = kk) (hy : zRa[i]? = some (a, n, b, sd)) (h0 : 0 ≤ j) (h1 : j < n) (k : zS M r (pc + 1) ls (zA (b + sd * j) :: st) T h Q) : zS M r pc ls (zI j :: zA kk :: st) T h Q := by
  intro p l e R s m args below meth c Qm G0 T0 C G H locs la hX hP hS hl hls hst
  have e9 : h kk j = b + sd * j := by
    have := (hP.2.2.1.2 hT).2.2 _ (List.mem_of_getElem? hy) j.toNat (show j.toNat < n by omega)
    rw [Int.toNat_of_nonneg h0] at this
    rw [← ha]
    exact this
  refine zS_aaload hd htt ht h0 h1 ?_ p l e R s m args below meth c Qm G0 T0 C G H locs la hX hP hS hl hls hst
  rw [e9]
  exact k
theorem zS_aaload1 {n t i a : Nat} {kk j b : Int} (hd : decode M.2.1 pc = .ok (.aaload, 1)) (htt : t = 24 ∨ t = 25 ∨ t = 26) (ht : zAt T kk (t, n)) (hT : T.2 = true) (ha : (a : Int) = kk) (hy : zRa[i]? = some (a, n, b, 1)) (h0 : 0 ≤ j) (h1 : j < n) (k : zS M r (pc + 1) ls (zA (b + j) :: st) T h Q) : zS M r pc ls (zI j :: zA kk :: st) T h Q :=
  zS_aaloadR hd htt ht hT ha hy h0 h1 (by rw [Int.one_mul]; exact k)
theorem zS_iastore {n : Nat} {kk j v : Int} (hd : decode M.2.1 pc = .ok (.iastore, 1)) (ht : zAt T kk (21, n)) (h0 : 0 ≤ j) (h1 : j < n) (k : zS M r (pc + 1) ls st T (zset h kk j v) Q) : zS M r pc ls (zI v :: zI j :: zA kk :: st) T h Q := by
  intro p l e R s m args below meth c Qm G0 T0 C G H locs la hX hP hS hl hls hst
  obtain ⟨hk0, ht⟩ := ht
  obtain ⟨a, rfl⟩ := Int.eq_ofNat_of_zero_le hk0
  obtain ⟨b, rfl⟩ := Int.eq_ofNat_of_zero_le h0
  simp only [Int.toNat_natCast] at ht
  obtain ⟨hv, hst⟩ := List.forall_mem_cons.mp hst
  obtain ⟨hj, hst⟩ := zst_in hst
  obtain ⟨hin, hcl⟩ := zI_idx hj h0 h1
  have hw := zw_at (G := G) (h := h) ht
  rw [zE_i (Or.inr (Or.inl rfl))] at hw
  rw [List.map_cons, List.map_cons, List.map_cons, zc_pos (by omega), Int.toNat_natCast]
  refine va_iast C.1 C.2.1 (C.K hX).1 hP.1 hP.2.1 hS a 1 hw rfl hin hd (fun H1 locs1 hP1 hD1 hS1 => ?_)
  rw [hcl, Int.toNat_natCast, zast_i (Or.inr (Or.inl rfl)) ht] at hP1 hD1
  exact k p l e R s m args below meth c Qm G0 T0 C G H1 locs1 la hX ⟨hP1, hD1, zokh_set hP.2.2.1 ht hv (fun _ => Or.inr ⟨Nat.le_of_ble_eq_true rfl, Nat.le_of_ble_eq_true rfl⟩), hP.2.2.2.set⟩ hS1 hl hls hst
theorem znar8 {v : Int} (h : -128 ≤ v ∧ v < 128) : vp_nar .byte (Int32.ofInt v) = Int32.ofInt v := by
  rw [vp_nar_byte]
  apply Int32.toInt_inj.mp
  have e : (Int32.ofInt v).toInt = v := zI_toInt (by unfold zR; omega)
  rw [Int8.toInt_toInt32, Int32.toInt_toInt8, e, Int.bmod_eq_of_le] <;> omega
theorem zS_bastore {n : Nat} {t : Nat} {kk j v : Int} (hd : decode M.2.1 pc = .ok (.bastore, 1)) (htt : (t = 20 ∧ -128 ≤ v ∧ v < 128) ∨ (t = 23 ∧ (v = 0 ∨ v = 1))) (ht : zAt T kk (t, n)) (h0 : 0 ≤ j) (h1 : j < n) (k : zS M r (pc + 1) ls st T (zset h kk j v) Q) : zS M r pc ls (zI v :: zI j :: zA kk :: st) T h Q := by
  intro p l e R s m args below meth c Qm G0 T0 C G H locs la hX hP hS hl hls hst
  obtain ⟨hk0, ht⟩ := ht
  obtain ⟨a, rfl⟩ := Int.eq_ofNat_of_zero_le hk0
  obtain ⟨b, rfl⟩ := Int.eq_ofNat_of_zero_le h0
  simp only [Int.toNat_natCast] at ht
  obtain ⟨hv, hst⟩ := List.forall_mem_cons.mp hst
  obtain ⟨hj, hst⟩ := zst_in hst
  obtain ⟨hin, hcl⟩ := zI_idx hj h0 h1
  have hw := zw_at (G := G) (h := h) ht
  rw [List.map_cons, List.map_cons, List.map_cons, zc_pos (by omega), Int.toNat_natCast]
  rcases htt with ⟨rfl, hb⟩ | ⟨rfl, hb⟩
  · rw [zE_i (Or.inl rfl)] at hw
    refine va_bast C.1 C.2.1 (C.K hX).1 hP.1 hP.2.1 hS a 0 hw rfl hin hd (fun H1 locs1 hP1 hD1 hS1 => ?_)
    rw [hcl, Int.toNat_natCast, znar8 hb, zast_i (Or.inl rfl) ht] at hP1 hD1
    exact k p l e R s m args below meth c Qm G0 T0 C G H1 locs1 la hX ⟨hP1, hD1, zokh_set hP.2.2.1 ht hb (fun _ => Or.inr ⟨Nat.le_of_ble_eq_true rfl, Nat.le_of_ble_eq_true rfl⟩), hP.2.2.2.set⟩ hS1 hl hls hst
  · rw [zE_i (Or.inr (Or.inr rfl))] at hw
    refine va_zast C.1 C.2.1 (C.K hX).1 hP.1 hP.2.1 hS a 3 hw rfl hin hd (fun H1 locs1 hP1 hD1 hS1 => ?_)
    have hz : vp_nar .boolean (Int32.ofInt v) = Int32.ofInt v := by rcases hb with rfl | rfl <;> rfl
    rw [hcl, Int.toNat_natCast, hz, zast_i (Or.inr (Or.inr rfl)) ht] at hP1 hD1
    exact k p l e R s m args below meth c Qm G0 T0 C G H1 locs1 la hX ⟨hP1, hD1, zokh_set hP.2.2.1 ht (show 0 ≤ v ∧ v < 2 by omega) (fun _ => Or.inr ⟨Nat.le_of_ble_eq_true rfl, Nat.le_of_ble_eq_true rfl⟩), hP.2.2.2.set⟩ hS1 hl hls hst
theorem zS_lastore {n : Nat} {kk j v : Int} (hd : decode M.2.1 pc = .ok (.lastore, 1)) (ht : zAt T kk (22, n)) (h0 : 0 ≤ j) (h1 : j < n) (k : zS M r (pc + 1) ls st T (zset h kk j v) Q) : zS M r pc ls (zJ v :: zI j :: zA kk :: st) T h Q := by
  intro p l e R s m args below meth c Qm G0 T0 C G H locs la hX hP hS hl hls hst
  obtain ⟨hk0, ht⟩ := ht
  obtain ⟨a, rfl⟩ := Int.eq_ofNat_of_zero_le hk0
  obtain ⟨b, rfl⟩ := Int.eq_ofNat_of_zero_le h0
  simp only [Int.toNat_natCast] at ht
  obtain ⟨hv, hst⟩ := List.forall_mem_cons.mp hst
  obtain ⟨hj, hst⟩ := zst_in hst
  obtain ⟨hin, hcl⟩ := zI_idx hj h0 h1
  have hw := zw_at (G := G) (h := h) ht
  rw [zE_l] at hw
  rw [List.map_cons, List.map_cons, List.map_cons, zc_pos (by omega), Int.toNat_natCast]
  refine va_last C.1 C.2.1 (C.K hX).1 hP.1 hP.2.1 hS a 2 hw rfl hin hd (fun H1 locs1 hP1 hD1 hS1 => ?_)
  rw [hcl, Int.toNat_natCast, zast_l ht] at hP1 hD1
  exact k p l e R s m args below meth c Qm G0 T0 C G H1 locs1 la hX ⟨hP1, hD1, zokh_set hP.2.2.1 ht hv (fun _ => Or.inr ⟨Nat.le_of_ble_eq_true rfl, Nat.le_of_ble_eq_true rfl⟩), hP.2.2.2.set⟩ hS1 hl hls hst
theorem zAt_row (b n : Nat) (t : Nat × Nat) (hall : (List.range n).all (fun i => TTl[b + i]? == some t) = true) {j : Int} (h0 : 0 ≤ j) (h1 : j < n) : zAt TT ((b : Int) + j) t := by
  refine ⟨by omega, ?_⟩
  have := List.all_eq_true.mp hall j.toNat (List.mem_range.mpr (by omega))
  have e : ((b : Int) + j).toNat = b + j.toNat := by omega
  rw [e]
  simpa using this
end Arr
/-! contracts and calls -/
def zcat (v : zV) : Nat := if v.1 = 1 then 2 else 1
theorem zcat_le {G : zG} {st : List zV} (h : (st.map zcat).sum ≤ 8) : ((st.map (zc G)).map fun v => v.category).sum ≤ 8 := by
  rw [List.map_map]
  refine Nat.le_trans (Nat.le_of_eq ?_) h
  congr 1
  apply List.map_congr_left
  intro v _
  unfold zcat Function.comp
  split
  · obtain ⟨t, x⟩ := v
    rename_i q
    dsimp only at q
    subst q
    rfl
  · rename_i q
    exact zc_cat q
theorem zPc_blind {G : zG} {av : List zV} {T : zT} {h : zH} : FrameBlind (zPc G av T h) := fun a U g mk q => by
  obtain ⟨q0, q1, q2, q3⟩ := q
  exact ⟨q0, zK.calling q1, q2, q3⟩
/-- a method that may be called: its words, its number of parameters -/
def zLm (M : zM) (n : Nat) : Prop := Cond.code M.1 M.2.1 M.2.2.1 M.2.2.2 ∈ lwg ∧ Cond.initialized M.1.cls ∈ lwg ∧ (M.1.cls ≠ "java/lang/invoke/MethodHandle" ∧ M.1.cls ≠ "java/lang/invoke/VarHandle" ∧ (parseMethodDescriptor M.1.desc).map (fun d => d.parameters.length) = some n) ∧ M.2.2.1 ≤ 45
def zLv (M : zM) (n : Nat) : Prop := zLm M n ∧ Cond.instanceMethod M.1 ∈ lwg ∧ Cond.selects M.1.cls M.1 M.1 ∈ lwg
def zLs (M : zM) (n : Nat) : Prop := zLm M n ∧ Cond.static M.1 ∈ lwg
def zLi (M : zM) (n : Nat) : Prop := zLm M n ∧ Cond.instanceMethod M.1 ∈ lwg ∧ M.1.name = "<init>" ∧ M.2.2.2 = none
theorem zgood {ws : List Cond} (h : ∀ w ∈ ws, w ∈ lwg) : GoodIn lwg ws := fun w hw => lwg_good w (h w hw)
theorem zws_in {M : zM} {n : Nat} (h : zLm M n) : ∀ w ∈ zws M, w ∈ lwg := List.forall_mem_cons.mpr ⟨h.1, fun _ q => q⟩
/-- the script is the same -/
def zSame (h h' : zH) : Prop := h' (-2) 0 = h (-2) 0 ∧ ∀ j : Nat, (j : Int) < h (-2) 0 → h' (-1) j = h (-1) j
theorem zScr.same {G G' : zG} {h h' : zH} (e : G.1 = G'.1) (hs : zScr G h) (hs' : zScr G' h') : zSame h h' := by
  have e1 : gL G = gL G' := by unfold gL; rw [e]
  have e2 : gXs G = gXs G' := by unfold gXs; rw [e]
  refine ⟨by rw [hs.1, hs'.1, e1], fun j hj => ?_⟩
  rw [hs.1] at hj
  have hj : j < gL G := by omega
  obtain ⟨a1, a2⟩ := hs.2 j hj
  obtain ⟨b1, b2⟩ := hs'.2 j (by rw [← e1]; exact hj)
  rw [← e2, ← a2] at b2
  exact (zI_eq b1 a1).mp b2
section Calls
variable {M : zM} {r : zB} {pc : Nat} {ls st : List zV} {T : zT} {h : zH} {Q : Option zV → zT → zH → Prop}
theorem zgo {p : Program} {l : Launch} {e : Env} {R : Room} {s : State} {m : MethodId} {args : Array Value} {below : List Frame} {meth : Method} {c : Code} {Qm : State → Prop} {G0 G : zG} {T0 : zT} {H : Heap} {locs : List Loc} {la : Array Slot} {st0 : List Value} {mc ms : Nat} {a : Array Value} {Q1 : Option zV → zT → zH → Prop}
    (C : zC M r Q p l e R s m args below meth c Qm G0 T0) (hX : zX T0 T G0 G) (hP : zP G T h H) (hS : va_S (zAd G) s.heap H locs) (hl : lv_has la M.2.2.1 (zlv G ls)) (hls : ∀ v ∈ ls, zok T v) (hst : ∀ v ∈ st, zok T v)
    (hr : va_Run p l e R s m args below meth c H locs r.2.1 r.2.2.1 mc ms (F0 m pc la st0) (st.map (zc G)) (zQc G T Q1 a) (zAd G))
    (k : ∀ rv T' h', Q1 rv T' h' → zSame h h' → zS M (r.1, r.2.1 + mc, r.2.2.1 + ms, r.2.2.2.1, r.2.2.2.2) (pc + 3) ls (rv.toList ++ st) T' h' Q) : W p l e R s m args below meth c H locs r.2.1 r.2.2.1 Qm (F0 m pc la st0) := by
  intro Ts hT X
  obtain ⟨v, st₀, t, T', L, h0, X', hL, e1, e2, ⟨⟨rv, T1, h1, G1, hv, hX1, hP1, hok1, hq⟩, hz, hkk⟩, stp⟩ := hr Ts hT X
  have hv' : v = rv.map (zc G1) := by injection hv
  subst hv'
  rw [h0] at hz hkk
  have hS1 : va_S (zAd G) s.heap T'.heap (locs ++ L) := ⟨Nat.le_trans hS.1 (by rw [e1]; exact hz), fun q g1 g2 => by rw [e1, hkk q (Nat.lt_of_lt_of_le g1 hS.1) g2]; exact hS.2.1 q g1 g2, fun q hq => by
      rcases List.mem_append.mp hq with g | g
      · exact hS.2.2 q g
      · exact hL q g⟩
  have C' : zC M (r.1, r.2.1 + mc, r.2.2.1 + ms, r.2.2.2.1, r.2.2.2.2) Q p l e R s m args below meth c Qm G0 T0 := C
  have hW := k rv T1 h1 hq (hP.2.2.2.same hX1.2.1 hP1.2.2.2) p l e R s m args below meth c Qm G0 T0 C' G1 T'.heap (locs ++ L) la (hX.tr hX1) (by rw [e1]; exact hP1) (by rw [← zX_ad hX1]; exact hS1) (by rw [← zX_lv hX1 hls]; exact hl) (fun v hv => zX_ok hX1 (hls v hv)) (fun v hv => by
    rcases List.mem_append.mp hv with g | g
    · exact hok1 v (by simpa using g)
    · exact zX_ok hX1 (hst v g))
  rw [List.map_append, ← zX_map hX1 hst] at hW
  obtain ⟨t2, a1, b1⟩ := hW T' rfl X'
  refine ⟨t2, stp t2 ?_, b1⟩
  have e3 : (rv.map (zc G1)).toList = rv.toList.map (zc G1) := by cases rv <;> rfl
  rw [e3]
  exact a1
theorem zpre {p : Program} {l : Launch} {e : Env} {R : Room} {s : State} {m : MethodId} {args : Array Value} {below : List Frame} {meth : Method} {c : Code} {Qm : State → Prop} {G0 G : zG} {T0 : zT} {H : Heap} {locs : List Loc} {av : List zV}
    (C : zC M r Q p l e R s m args below meth c Qm G0 T0) (hX : zX T0 T G0 G) (hP : zP G T h H) (hS : va_S (zAd G) s.heap H locs) (hav : ∀ v ∈ av, zok T v) : ∀ U : State, U.heap = H → s.WarmedH U.vm → zPc G av T h (av.map (zc G)).toArray U :=
  fun U hU hW => ⟨rfl, (C.K hX).next hS hU hW, by rw [hU]; exact hP, hav⟩
theorem zroom {d d' mx : Nat} {R : Room} {mc ms : Nat} (hd : d' + 1 ≤ d) (hR : d ≤ R.frames ∧ 64 * d ≤ R.locals) (hm : mx ≤ 45) : (zRm d' mc ms).frames + 1 ≤ R.frames ∧ 8 + (mx + 11) + (zRm d' mc ms).locals ≤ R.locals := by
  have e1 : (zRm d' mc ms).frames = d' := rfl
  have e2 : (zRm d' mc ms).locals = 64 * d' := rfl
  rw [e1, e2]
  omega
theorem zS_invokevirtual {ix n d' mc ms ci nf : Nat} {M' : zM} {kk : Int} {As : List zV} {Q1 : Option zV → zT → zH → Prop} (hd : decode M.2.1 pc = .ok (.invokevirtual ix, 3)) (hl1 : Cond.methodLink M.1.cls ix M'.1 ∈ lwg) (hL : zLv M' n) (ht : zAt T kk (ci, nf)) (hci : ci < 20) (hcl : (vwCl[ci]?).map (fun q => q.1) = some M'.1.cls) (hn : As.length = n) (hw : (st.map zcat).sum ≤ 8) (hdd : d' + 1 ≤ r.1)
    (hM : zMet d' mc ms M' (zA kk :: As) T h Q1) (hmc : r.2.1 + mc ≤ r.2.2.2.1 ∧ r.2.2.1 + ms ≤ r.2.2.2.2)
    (k : ∀ rv T' h', Q1 rv T' h' → zSame h h' → zS M (r.1, r.2.1 + mc, r.2.2.1 + ms, r.2.2.2.1, r.2.2.2.2) (pc + 3) ls (rv.toList ++ st) T' h' Q) : zS M r pc ls (As.reverse ++ zA kk :: st) T h Q := by
  intro p l e R s m args below meth c Qm G0 T0 C G H locs la hX hP hS hl hls hst
  obtain ⟨hk0, ht⟩ := ht
  obtain ⟨a, rfl⟩ := Int.eq_ofNat_of_zero_le hk0
  simp only [Int.toNat_natCast] at ht
  have hAs : ∀ v ∈ As, zok T v := fun v hv => hst v (List.mem_append_left _ (List.mem_reverse.mpr hv))
  have hA : ∀ v ∈ zA a :: As, zok T v := List.forall_mem_cons.mpr ⟨hst _ (List.mem_append_right _ List.mem_cons_self), hAs⟩
  have hst : ∀ v ∈ st, zok T v := fun v hv => hst v (List.mem_append_right _ (List.mem_cons_of_mem _ hv))
  have hw9 := zw_at (G := G) (h := h) ht
  rw [zE_obj hci] at hw9
  cases hq : vwCl[ci]? with
  | none => rw [hq] at hcl; cases hcl
  | some q =>
    rw [hq] at hcl
    have hcl : q.1 = M'.1.cls := Option.some.inj hcl
    have hR := C.2.2.2.2.2.2.1
    have hrv := va_recv (C.K hX).1 hP.1 hq hw9
    rw [hcl] at hrv
    refine zgo (Q1 := Q1) (a := (Value.ref (G.2 a) :: As.map (zc G)).toArray) C hX hP hS hl hls hst (va_runV (As := As.map (zc G)) (b := G.2 a) (Ts := lwg) ⟨C.1, C.2.1, C.2.2.1, C.2.2.2.1, C.2.2.2.2.1⟩ (hM l G)
      (cwV n C.2.2.2.2.1 (zgood (fun w hw => by
        rcases List.mem_append.mp hw with g | g
        · simp only [List.mem_cons, List.not_mem_nil, or_false] at g
          rcases g with rfl | rfl | rfl | rfl
          · exact hl1
          · exact hL.2.1
          · exact hL.2.2
          · exact hL.1.2.1
        · exact zws_in hL.1 w g)) rfl rfl rfl ⟨rfl, hL.1.2.2.1⟩ (zroom hdd ⟨hR.1, hR.2.1⟩ hL.1.2.2.2)) ⟨zPc_blind, hrv, fun U hU hW => ?_⟩ rfl (by rw [List.length_map]; exact hn) hl.1 ?_ (lv_room (zcat_le hw)) hd ⟨Nat.le_trans hmc.1 hR.2.2.1, Nat.le_trans hmc.2 hR.2.2.2⟩) k
    · have := zpre C hX hP hS hA U hU hW
      rw [List.map_cons, zc_pos (by omega), Int.toNat_natCast] at this
      exact this
    · show List.map (zc G) (As.reverse ++ zA a :: st) = _
      rw [List.map_append, List.map_cons, List.map_reverse, zc_pos (by omega), Int.toNat_natCast]
theorem zS_invokestatic {ix n d' mc ms : Nat} {M' : zM} {As : List zV} {Q1 : Option zV → zT → zH → Prop} (hd : decode M.2.1 pc = .ok (.invokestatic ix, 3)) (hl1 : Cond.methodLink M.1.cls ix M'.1 ∈ lwg) (hL : zLs M' n) (hn : As.length = n) (hw : (st.map zcat).sum ≤ 8) (hdd : d' + 1 ≤ r.1)
    (hM : zMet d' mc ms M' As T h Q1) (hmc : r.2.1 + mc ≤ r.2.2.2.1 ∧ r.2.2.1 + ms ≤ r.2.2.2.2)
    (k : ∀ rv T' h', Q1 rv T' h' → zSame h h' → zS M (r.1, r.2.1 + mc, r.2.2.1 + ms, r.2.2.2.1, r.2.2.2.2) (pc + 3) ls (rv.toList ++ st) T' h' Q) : zS M r pc ls (As.reverse ++ st) T h Q := by
  intro p l e R s m args below meth c Qm G0 T0 C G H locs la hX hP hS hl hls hst
  have hAs : ∀ v ∈ As, zok T v := fun v hv => hst v (List.mem_append_left _ (List.mem_reverse.mpr hv))
  have hst : ∀ v ∈ st, zok T v := fun v hv => hst v (List.mem_append_right _ hv)
  have hR := C.2.2.2.2.2.2.1
  refine zgo (Q1 := Q1) (a := (As.map (zc G)).toArray) C hX hP hS hl hls hst (va_runS (As := As.map (zc G)) (Ts := lwg) ⟨C.1, C.2.1, C.2.2.1, C.2.2.2.1, C.2.2.2.2.1⟩ (hM l G)
    (va_cwS n C.2.2.2.2.1 (zgood (fun w hw => by
      rcases List.mem_append.mp hw with g | g
      · simp only [List.mem_cons, List.not_mem_nil, or_false] at g
        rcases g with rfl | rfl | rfl
        · exact hl1
        · exact hL.2
        · exact hL.1.2.1
      · exact zws_in hL.1 w g)) rfl rfl rfl hL.1.2.2.1 (zroom hdd ⟨hR.1, hR.2.1⟩ hL.1.2.2.2)) ⟨zPc_blind, fun U hU hW => zpre C hX hP hS hAs U hU hW⟩ rfl (by rw [List.length_map]; exact hn) hl.1 ?_ (lv_room (zcat_le hw)) hd ⟨Nat.le_trans hmc.1 hR.2.2.1, Nat.le_trans hmc.2 hR.2.2.2⟩) k
  show List.map (zc G) (As.reverse ++ st) = _
  rw [List.map_append, List.map_reverse]
/-! returns -/
theorem zS_ret {rv : Option zV} (hrv : zRv M pc rv) (hle : r.2.1 ≤ r.2.2.2.1 ∧ r.2.2.1 ≤ r.2.2.2.2) (hq : Q rv T h) : zS M r pc ls rv.toList T h Q := by
  intro p l e R s m args below meth c Qm G0 T0 C G H locs la hX hP hS hl hls hst
  exact W.widen hle.1 hle.2 (C.2.2.2.2.2.2.2.2 G T h H locs la pc rv hX hP hS (fun v hv => hst v (by simpa using hv)) hrv hq)
theorem zS_ireturn {x : Int} (hd : decode M.2.1 pc = .ok (.ireturn, 1)) (hty : M.2.2.2 = some .int) (hle : r.2.1 ≤ r.2.2.2.1 ∧ r.2.2.1 ≤ r.2.2.2.2) (hq : Q (some (zI x)) T h) : zS M r pc ls [zI x] T h Q :=
  zS_ret (rv := some (zI x)) ⟨⟨.int, hty, rfl⟩, hd⟩ hle hq
theorem zS_zreturn {x : Int} (hd : decode M.2.1 pc = .ok (.ireturn, 1)) (hty : M.2.2.2 = some .boolean) (hx : x = 0 ∨ x = 1) (hle : r.2.1 ≤ r.2.2.2.1 ∧ r.2.2.1 ≤ r.2.2.2.2) (hq : Q (some (zI x)) T h) : zS M r pc ls [zI x] T h Q :=
  zS_ret (rv := some (zI x)) ⟨⟨.boolean, hty, by rcases hx with rfl | rfl <;> rfl⟩, hd⟩ hle hq
theorem zS_lreturn {x : Int} (hd : decode M.2.1 pc = .ok (.lreturn, 1)) (hty : M.2.2.2 = some .long) (hle : r.2.1 ≤ r.2.2.2.1 ∧ r.2.2.1 ≤ r.2.2.2.2) (hq : Q (some (zJ x)) T h) : zS M r pc ls [zJ x] T h Q :=
  zS_ret (rv := some (zJ x)) ⟨hty, hd⟩ hle hq
theorem zS_areturn {x : Int} {n : String} (hd : decode M.2.1 pc = .ok (.areturn, 1)) (hty : M.2.2.2 = some (.object n)) (hx : 0 ≤ x) (hle : r.2.1 ≤ r.2.2.2.1 ∧ r.2.2.1 ≤ r.2.2.2.2) (hq : Q (some (zA x)) T h) : zS M r pc ls [zA x] T h Q :=
  zS_ret (rv := some (zA x)) ⟨hx, ⟨n, hty⟩, hd⟩ hle hq
theorem zS_return (hd : decode M.2.1 pc = .ok (.return_, 1)) (hty : M.2.2.2 = none) (hle : r.2.1 ≤ r.2.2.2.1 ∧ r.2.2.1 ≤ r.2.2.2.2) (hq : Q none T h) : zS M r pc ls [] T h Q :=
  zS_ret (rv := none) ⟨hty, hd⟩ hle hq
end Calls
/-! a contract out of a walk -/
def zlay : List zV → List zV
  | [] => []
  | v :: l => if v.1 = 1 then v :: zN :: zlay l else v :: zlay l
theorem zlay_len {G : zG} : ∀ av : List zV, (lg_sl (av.map (zc G))).length = (zlay av).length
  | [] => rfl
  | v :: l => by
    have ih := zlay_len (G := G) l
    unfold lg_sl at ih ⊢
    rw [List.map_cons, List.flatMap_cons, List.length_append, ih]
    show _ = (if v.1 = 1 then v :: zN :: zlay l else v :: zlay l).length
    by_cases hv : v.1 = 1
    · obtain ⟨t, x⟩ := v
      dsimp only at hv
      subst hv
      rw [if_pos (zc_cat2), if_pos rfl]
      simp
      omega
    · rw [if_neg (by rw [zc_cat hv]; decide), if_neg hv]
      simp
      omega
theorem zlay_at {G : zG} : ∀ (av : List zV) (o k : Nat) (v : zV), (zlay av)[k]? = some v → v.1 ≠ 3 → (o + k, zc G v) ∈ lv_args o (av.map (zc G))
  | [], o, k, v, h, _ => by cases h
  | u :: l, o, k, v, h, hv => by
    rw [List.map_cons]
    unfold lv_args
    unfold zlay at h
    by_cases hu : u.1 = 1
    · rw [if_pos hu] at h
      have hc : (zc G u).category = 2 := by
        obtain ⟨t, x⟩ := u
        dsimp only at hu
        subst hu
        rfl
      match k, h with
      | 0, h => cases h; simp
      | 1, h => cases h; exact absurd rfl hv
      | k + 2, h =>
        have := zlay_at (G := G) l (o + 2) k v h hv
        rw [hc]
        refine List.mem_cons_of_mem _ ?_
        have e : o + (k + 2) = o + 2 + k := by omega
        rw [e]
        exact this
    · rw [if_neg hu] at h
      have hc : (zc G u).category = 1 := zc_cat hu
      match k, h with
      | 0, h => cases h; simp
      | k + 1, h =>
        have := zlay_at (G := G) l (o + 1) k v h hv
        rw [hc]
        refine List.mem_cons_of_mem _ ?_
        have e : o + (k + 1) = o + 1 + k := by omega
        rw [e]
        exact this
theorem zMet.of {d mc ms : Nat} {M : zM} {av : List zV} {T : zT} {h : zH} {Q : Option zV → zT → zH → Prop} {ls : List zV} (hp : plainName M.1.cls = true) (he : zlay av ++ List.replicate (M.2.2.1 - (zlay av).length) zN = ls) (hle : (zlay av).length ≤ M.2.2.1)
    (k : zS M (d, 0, 0, mc, ms) 0 ls [] T h Q) : zMet d mc ms M av T h Q := by
  intro l G
  refine Met.ofW (cc := M.2.1) (maxL := M.2.2.1) (ret := M.2.2.2) hp rfl ?_
  intro p e s m args below meth c s₁ B hml hv
  obtain ⟨rfl, hK, hP, hok⟩ := hv
  have hts := atoms_spec (ws := zws M) B.pre
  have hl := lv_entry (av.map (zc G)) (n := M.2.2.1) (by rw [zlay_len]; exact hle)
  rw [lg_entry_eq]
  generalize (lg_sl (av.map (zc G)) ++ List.replicate (M.2.2.1 - (lg_sl (av.map (zc G))).length) Slot.unset).toArray = la at hl ⊢
  have hla : lv_has la M.2.2.1 (zlv G ls) := by
    refine ⟨hl.1, hl.2.1, fun q hq => ?_⟩
    obtain ⟨v, h1, h2, h3⟩ := zlv_of hq
    obtain ⟨k, w⟩ := q
    dsimp only at h1 h3 ⊢
    subst h3
    rw [← he] at h1
    have h4 : (zlay av)[k]? = some v := by
      by_cases hk : k < (zlay av).length
      · rw [List.getElem?_append_left hk] at h1
        exact h1
      · rw [List.getElem?_append_right (by omega), List.getElem?_replicate] at h1
        split at h1
        · cases h1
          exact absurd rfl h2
        · cases h1
    have := zlay_at (G := G) av 0 k v h4 h2
    rw [Nat.zero_add] at this
    exact hl.2.2 _ this
  have hls : ∀ v ∈ ls, zok T v := by
    have hlay : ∀ (av : List zV), (∀ v ∈ av, zok T v) → ∀ v ∈ zlay av, zok T v := by
      intro av
      induction av with
      | nil => intro _ v hv; cases hv
      | cons u l ih =>
        intro h v hv
        obtain ⟨h1, h2⟩ := List.forall_mem_cons.mp h
        unfold zlay at hv
        split at hv
        · rcases List.mem_cons.mp hv with rfl | hv
          · exact h1
          · rcases List.mem_cons.mp hv with rfl | hv
            · trivial
            · exact ih h2 v hv
        · rcases List.mem_cons.mp hv with rfl | hv
          · exact h1
          · exact ih h2 v hv
    intro v hv
    rw [← he] at hv
    rcases List.mem_append.mp hv with g | g
    · exact hlay av hok v g
    · rw [(List.mem_replicate.mp g).2]
      trivial
  refine k p l e _ s m _ below meth c _ G T ⟨B.exec, B.bytes, hml, findClass_of_methodNamed B.named, fun w hw => hts w (List.mem_cons_of_mem _ hw), (name_of_methodNamed B.named B.method).1, ⟨Nat.le_refl _, Nat.le_refl _, Nat.le_refl _, Nat.le_refl _⟩, hK, ?_⟩ G s.heap [] la zX.rf hP va_S.rf hla hls (fun v hv => by cases hv)
  intro G' T' h' H locs la pc rv hX hP' hS hok' hrv hq
  have hlocks := B.notSynchronized
  have hfin : ∀ t : State, t.heap = H → s.WarmedH t.vm → zQc G T Q (av.map (zc G)).toArray s (.returned (rv.map (zc G'))) t := fun t ht hW => ⟨⟨rv, T', h', G', rfl, hX, by rw [ht]; exact hP', hok', hq⟩, by rw [zX_ad hX]; exact hS.F ht⟩
  have hfree : ∀ q ∈ locs, zAd G q.base := fun q hq => by rw [zX_ad hX]; exact hS.2.2 q hq
  cases rv with
  | none => exact W.vret B.exec B.bytes (B.returns.trans hrv.1) hfin hfree hrv.2
  | some v =>
    obtain ⟨t, x⟩ := v
    match t, hrv, hok', hfin, hq with
    | 0, hrv, hok', hfin, hq =>
      obtain ⟨⟨ty, h1, h2⟩, h3⟩ := hrv
      exact W.zret B.exec B.bytes (B.returns.trans h1) h2 hfin hfree h3
    | 1, hrv, hok', hfin, hq => exact W.lret B.exec B.bytes (B.returns.trans hrv.1) hfin hfree hrv.2
    | 2, hrv, hok', hfin, hq =>
      obtain ⟨h1, ⟨n, h2⟩, h3⟩ := hrv
      exact W.aret B.exec B.bytes (B.returns.trans h2) (Or.inl ⟨n, rfl⟩) (Or.inr ⟨G'.2 x.toNat, zc_pos h1⟩) hfin hfree h3
    | n + 3, hrv, hok', hfin, hq => exact absurd hrv (by unfold zRv; simp)

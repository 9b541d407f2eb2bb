/-! ONE LEMMA AN INSTRUCTION: numbers, locals, stack, branches -/
def zRb (n : Int) : Bool := decide (-2147483648 ≤ n) && decide (n < 2147483648)
def zRlb (n : Int) : Bool := decide (-9223372036854775808 ≤ n) && decide (n < 9223372036854775808)
theorem zR_of {n : Int} (h : zRb n = true) : zR n := by simpa [zRb, zR] using h
theorem zRl_of {n : Int} (h : zRlb n = true) : zRl n := by simpa [zRlb, zRl] using h
theorem zR_l {n : Int} (h : zR n) : zRl n := by unfold zR at h; unfold zRl; omega
theorem zI_toInt {n : Int} (h : zR n) : (Int32.ofInt n).toInt = n := Int32.toInt_ofInt_of_le h.1 h.2
theorem zJ_toInt {n : Int} (h : zRl n) : (Int64.ofInt n).toInt = n := Int64.toInt_ofInt_of_le h.1 h.2
theorem zI_lt {a b : Int} (ha : zR a) (hb : zR b) : Int32.ofInt a < Int32.ofInt b ↔ a < b := by rw [Int32.lt_iff_toInt_lt, zI_toInt ha, zI_toInt hb]
theorem zI_le {a b : Int} (ha : zR a) (hb : zR b) : Int32.ofInt a ≤ Int32.ofInt b ↔ a ≤ b := by rw [Int32.le_iff_toInt_le, zI_toInt ha, zI_toInt hb]
theorem zI_eq {a b : Int} (ha : zR a) (hb : zR b) : Int32.ofInt a = Int32.ofInt b ↔ a = b := by rw [← Int32.toInt_inj, zI_toInt ha, zI_toInt hb]
theorem zJ_lt {a b : Int} (ha : zRl a) (hb : zRl b) : Int64.ofInt a < Int64.ofInt b ↔ a < b := by rw [Int64.lt_iff_toInt_lt, zJ_toInt ha, zJ_toInt hb]
theorem zJ_eq {a b : Int} (ha : zRl a) (hb : zRl b) : Int64.ofInt a = Int64.ofInt b ↔ a = b := by rw [← Int64.toInt_inj, zJ_toInt ha, zJ_toInt hb]
theorem zR0 : zR 0 := zR_of rfl
theorem zI_of (x : Int32) : Int32.ofInt x.toInt = x := Int32.ofInt_toInt x
theorem zR_toInt (x : Int32) : zR x.toInt := ⟨Int32.le_toInt x, Int32.toInt_lt x⟩
theorem zRl_toInt (x : Int64) : zRl x.toInt := ⟨Int64.le_toInt x, Int64.toInt_lt x⟩
theorem zI_idx {j : Int} {n : Nat} (hj : zR j) (h0 : 0 ≤ j) (h1 : j < n) : vp_in (Int32.ofInt j) n ∧ (Int32.ofInt j).toNatClampNeg = j.toNat := by
  have e : (Int32.ofInt j).toInt = j := zI_toInt hj
  refine ⟨vp_in_iff.mpr (by rw [e]; exact ⟨h0, h1⟩), ?_⟩
  show (Int32.ofInt j).toInt.toNat = _
  rw [e]
/-- bit by bit, as the machine has it -/
def zAnd (a b : Int) : Int := (Int32.ofInt a &&& Int32.ofInt b).toInt
def zOr (a b : Int) : Int := (Int32.ofInt a ||| Int32.ofInt b).toInt
def zXor (a b : Int) : Int := (Int32.ofInt a ^^^ Int32.ofInt b).toInt
def zShl (a b : Int) : Int := (Int32.ofInt a <<< (Int32.ofInt b &&& 31)).toInt
def zShr (a b : Int) : Int := (Int32.ofInt a >>> (Int32.ofInt b &&& 31)).toInt
def zB8 (a : Int) : Int := (Int32.ofInt a).toInt8.toInt32.toInt
def zB16 (a : Int) : Int := (Int32.ofInt a).toInt16.toInt32.toInt
def zL2I (a : Int) : Int := (Int64.ofInt a).toInt32.toInt
def zLAnd (a b : Int) : Int := (Int64.ofInt a &&& Int64.ofInt b).toInt
def zLOr (a b : Int) : Int := (Int64.ofInt a ||| Int64.ofInt b).toInt
def zLShl (a b : Int) : Int := (Int64.ofInt a <<< ((Int32.ofInt b).toInt64 &&& 63)).toInt
def zCmp (a b : Int) : Int := if a < b then -1 else if a = b then 0 else 1
theorem zI_div {a b : Int} (ha : zR a) (hb : zR b) (h : ¬ (a = -2147483648 ∧ b = -1)) : Int32.ofInt a / Int32.ofInt b = Int32.ofInt (a.tdiv b) := by
  have e := Int32.toInt_div_of_ne_left (Int32.ofInt a) (Int32.ofInt b)
  apply Int32.toInt_inj.mp
  by_cases h1 : Int32.ofInt a = Int32.minValue
  · have h2 : ¬ Int32.ofInt b = -1 := fun q => h ⟨by rw [← zI_toInt ha, h1]; rfl, by rw [← zI_toInt hb, q]; rfl⟩
    rw [Int32.toInt_div_of_ne_right _ _ h2, zI_toInt ha, zI_toInt hb]
    have := Int32.toInt_div_of_ne_right (Int32.ofInt a) (Int32.ofInt b) h2
    rw [zI_toInt ha, zI_toInt hb] at this
    have hr := zR_toInt (Int32.ofInt a / Int32.ofInt b)
    rw [this] at hr
    exact (zI_toInt hr).symm
  · rw [e h1, zI_toInt ha, zI_toInt hb]
    have := e h1
    rw [zI_toInt ha, zI_toInt hb] at this
    have hr := zR_toInt (Int32.ofInt a / Int32.ofInt b)
    rw [this] at hr
    exact (zI_toInt hr).symm
theorem zJ_div {a b : Int} (ha : zRl a) (hb : zRl b) (h : ¬ (a = -9223372036854775808 ∧ b = -1)) : Int64.ofInt a / Int64.ofInt b = Int64.ofInt (a.tdiv b) := by
  have e := Int64.toInt_div_of_ne_left (Int64.ofInt a) (Int64.ofInt b)
  apply Int64.toInt_inj.mp
  by_cases h1 : Int64.ofInt a = Int64.minValue
  · have h2 : ¬ Int64.ofInt b = -1 := fun q => h ⟨by rw [← zJ_toInt ha, h1]; rfl, by rw [← zJ_toInt hb, q]; rfl⟩
    have := Int64.toInt_div_of_ne_right (Int64.ofInt a) (Int64.ofInt b) h2
    rw [zJ_toInt ha, zJ_toInt hb] at this
    have hr := zRl_toInt (Int64.ofInt a / Int64.ofInt b)
    rw [this] at hr ⊢
    exact (zJ_toInt hr).symm
  · have := e h1
    rw [zJ_toInt ha, zJ_toInt hb] at this
    have hr := zRl_toInt (Int64.ofInt a / Int64.ofInt b)
    rw [this] at hr ⊢
    exact (zJ_toInt hr).symm
theorem zI_rem {a b : Int} (ha : zR a) (hb : zR b) (h : ¬ (a = -2147483648 ∧ b = -1)) : Int32.ofInt a - Int32.ofInt a / Int32.ofInt b * Int32.ofInt b = Int32.ofInt (a.tmod b) := by
  rw [zI_div ha hb h, ← Int32.ofInt_mul, ← Int32.ofInt_sub, Int.tmod_def, Int.mul_comm]
theorem zJ_rem {a b : Int} (ha : zRl a) (hb : zRl b) (h : ¬ (a = -9223372036854775808 ∧ b = -1)) : Int64.ofInt a - Int64.ofInt a / Int64.ofInt b * Int64.ofInt b = Int64.ofInt (a.tmod b) := by
  rw [zJ_div ha hb h, ← Int64.ofInt_mul, ← Int64.ofInt_sub, Int.tmod_def, Int.mul_comm]
/-- locals -/
theorem zlv_in {G : zG} {ls : List zV} {k : Nat} {v : zV} (h : ls[k]? = some v) (hv : v.1 ≠ 3) : (k, zc G v) ∈ zlv G ls :=
  List.mem_map.mpr ⟨(v, k), List.mem_filter.mpr ⟨List.mk_mem_zipIdx_iff_getElem?.mpr h, by simpa using hv⟩, rfl⟩
theorem zlv_of {G : zG} {ls : List zV} {q : Nat × Value} (h : q ∈ zlv G ls) : ∃ v, ls[q.1]? = some v ∧ v.1 ≠ 3 ∧ q.2 = zc G v := by
  obtain ⟨x, hx, rfl⟩ := List.mem_map.mp h
  obtain ⟨h1, h2⟩ := List.mem_filter.mp hx
  exact ⟨x.1, List.mk_mem_zipIdx_iff_getElem?.mp h1, by simpa using h2, rfl⟩
theorem zld {G : zG} {ls : List zV} {la : Array Slot} {n k : Nat} {v : zV} (hl : lv_has la n (zlv G ls)) (h : ls[k]? = some v) (hv : v.1 ≠ 3) : la[k]? = some (.val (zc G v)) := hl.2.2 _ (zlv_in h hv)
theorem zc_cat {G : zG} {v : zV} (h : v.1 ≠ 1) : (zc G v).category = 1 := by
  obtain ⟨t, x⟩ := v
  unfold zc
  split
  · rfl
  · rename_i q; cases q; exact absurd rfl h
  · split <;> rfl
  all_goals first | rfl | (cases gFo G <;> rfl)
theorem zc_cat2 {G : zG} {x : Int} : (zc G (1, x)).category = 2 := rfl
def zq (ls : List zV) (i : Nat) : Bool := i == 0 || (match ls[i - 1]? with | some v => v.1 != 1 | none => true)
theorem zst1 {G : zG} {ls : List zV} {la : Array Slot} {n i : Nat} {v : zV} (hv : v.1 ≠ 1) (hq : zq ls i = true)
    (h : lv_has la n ((i, zc G v) :: (zlv G ls).filter (fun q => !(q.1 == i) && !(q.1 + 1 == i && q.2.category == 2)))) : lv_has la n (zlv G (ls.set i v)) := by
  refine ⟨h.1, h.2.1, fun q hm => ?_⟩
  obtain ⟨u, h1, h2, h3⟩ := zlv_of hm
  obtain ⟨k, val⟩ := q
  dsimp only at h1 h3 ⊢
  subst h3
  by_cases hk : k = i
  · subst hk
    have : u = v := by
      rw [List.getElem?_set] at h1
      simp only [if_true] at h1
      split at h1
      · exact (Option.some.inj h1).symm
      · cases h1
    subst this
    exact h.2.2 (k, zc G u) List.mem_cons_self
  · rw [List.getElem?_set, if_neg (fun q => hk q.symm)] at h1
    refine h.2.2 (k, zc G u) (List.mem_cons_of_mem _ (List.mem_filter.mpr ⟨zlv_in h1 h2, ?_⟩))
    simp only [Bool.and_eq_true, Bool.not_eq_true', beq_eq_false_iff_ne, ne_eq, hk, not_false_eq_true, true_and, Bool.and_eq_false_iff]
    by_cases hki : k + 1 = i
    · right
      have hu : u.1 ≠ 1 := by
        unfold zq at hq
        have e : i - 1 = k := by omega
        rw [e, h1] at hq
        have : (i == 0) = false := by simp; omega
        rw [this] at hq
        simpa using hq
      rw [zc_cat hu]
      decide
    · left
      exact hki
theorem zst2 {G : zG} {ls : List zV} {la : Array Slot} {n i : Nat} {x : Int} (hq : zq ls i = true)
    (h : lv_has la n ((i, zc G (1, x)) :: (zlv G ls).filter (fun q => !(q.1 == i) && (!(q.1 == i + 1) && !(q.1 + 1 == i && q.2.category == 2))))) : lv_has la n (zlv G ((ls.set i (1, x)).set (i + 1) zN)) := by
  refine ⟨h.1, h.2.1, fun q hm => ?_⟩
  obtain ⟨u, h1, h2, h3⟩ := zlv_of hm
  obtain ⟨k, val⟩ := q
  dsimp only at h1 h3 ⊢
  subst h3
  by_cases hk1 : k = i + 1
  · subst hk1
    rw [List.getElem?_set] at h1
    simp only [if_true] at h1
    split at h1
    · cases h1
      exact absurd rfl h2
    · cases h1
  · rw [List.getElem?_set, if_neg (fun q => hk1 q.symm)] at h1
    by_cases hk : k = i
    · subst hk
      have : u = (1, x) := by
        rw [List.getElem?_set] at h1
        simp only [if_true] at h1
        split at h1
        · exact (Option.some.inj h1).symm
        · cases h1
      subst this
      exact h.2.2 (k, zc G (1, x)) List.mem_cons_self
    · rw [List.getElem?_set, if_neg (fun q => hk q.symm)] at h1
      refine h.2.2 (k, zc G u) (List.mem_cons_of_mem _ (List.mem_filter.mpr ⟨zlv_in h1 h2, ?_⟩))
      simp only [Bool.and_eq_true, Bool.not_eq_true', beq_eq_false_iff_ne, ne_eq, hk, hk1, not_false_eq_true, true_and, Bool.and_eq_false_iff]
      by_cases hki : k + 1 = i
      · right
        have hu : u.1 ≠ 1 := by
          unfold zq at hq
          have e : i - 1 = k := by omega
          rw [e, h1] at hq
          have : (i == 0) = false := by simp; omega
          rw [this] at hq
          simpa using hq
        rw [zc_cat hu]
        decide
      · left
        exact hki
theorem zok_set {T : zT} {ls : List zV} {i : Nat} {v : zV} (h : ∀ u ∈ ls, zok T u) (hv : zok T v) : ∀ u ∈ ls.set i v, zok T u := fun u hu => by
  rcases List.mem_or_eq_of_mem_set hu with q | q
  · exact h u q
  · rw [q]; exact hv
theorem zok_at {T : zT} {ls : List zV} {i : Nat} {v : zV} (h : ∀ u ∈ ls, zok T u) (hi : ls[i]? = some v) : zok T v := h v (List.mem_of_getElem? hi)
theorem zok_c {T : zT} {st : List zV} {v : zV} (hv : zok T v) (h : ∀ u ∈ st, zok T u) : ∀ u ∈ v :: st, zok T u := List.forall_mem_cons.mpr ⟨hv, h⟩
def zrf (v : zV) : Bool := v.1 == 2 || v.1 == 4 || v.1 == 5 || v.1 == 6 || v.1 == 7 || v.1 == 8
theorem zc_ref {G : zG} {v : zV} (h : zrf v = true) : zc G v = .null ∨ ∃ a, zc G v = .ref a := by
  obtain ⟨t, x⟩ := v
  unfold zc
  split
  · rename_i q; cases q; exact absurd h (fun z => by cases z)
  · rename_i q; cases q; exact absurd h (fun z => by cases z)
  · split
    · exact Or.inl rfl
    · exact Or.inr ⟨_, rfl⟩
  all_goals first | exact Or.inr ⟨_, rfl⟩ | exact Or.inl rfl | (cases gFo G with | none => exact Or.inl rfl | some a => exact Or.inr ⟨a, rfl⟩)
theorem zJ_of_I {a : Int} (h : zR a) : Int64.ofInt a = (Int32.ofInt a).toInt64 := by
  apply Int64.toInt_inj.mp
  rw [zJ_toInt (zR_l h), Int32.toInt_toInt64, zI_toInt h]
theorem zI_tdR {a b : Int} (ha : zR a) (hb : zR b) (h : ¬ (a = -2147483648 ∧ b = -1)) : zR (a.tdiv b) := by
  have h1 := zR_toInt (Int32.ofInt a / Int32.ofInt b)
  by_cases q : Int32.ofInt a = Int32.minValue
  · have h2 : ¬ Int32.ofInt b = -1 := fun z => h ⟨by rw [← zI_toInt ha, q]; rfl, by rw [← zI_toInt hb, z]; rfl⟩
    rw [Int32.toInt_div_of_ne_right _ _ h2, zI_toInt ha, zI_toInt hb] at h1
    exact h1
  · rw [Int32.toInt_div_of_ne_left _ _ q, zI_toInt ha, zI_toInt hb] at h1
    exact h1
theorem zJ_tdR {a b : Int} (ha : zRl a) (hb : zRl b) (h : ¬ (a = -9223372036854775808 ∧ b = -1)) : zRl (a.tdiv b) := by
  have h1 := zRl_toInt (Int64.ofInt a / Int64.ofInt b)
  by_cases q : Int64.ofInt a = Int64.minValue
  · have h2 : ¬ Int64.ofInt b = -1 := fun z => h ⟨by rw [← zJ_toInt ha, q]; rfl, by rw [← zJ_toInt hb, z]; rfl⟩
    rw [Int64.toInt_div_of_ne_right _ _ h2, zJ_toInt ha, zJ_toInt hb] at h1
    exact h1
  · rw [Int64.toInt_div_of_ne_left _ _ q, zJ_toInt ha, zJ_toInt hb] at h1
    exact h1
theorem z_em {a : Int} (h : 0 ≤ a) (b : Int) : a % b ≤ a := by
  obtain ⟨n, rfl⟩ := Int.eq_ofNat_of_zero_le h
  exact Int.ofNat_le.mpr (Nat.mod_le n b.natAbs)
theorem z_tm {a b : Int} {n : Int} (h1 : -n ≤ a) (h2 : a < n) : -n ≤ a.tmod b ∧ a.tmod b < n := by
  rcases Int.le_total 0 a with q | q
  · have := Int.tmod_nonneg b q
    have h3 : a.tmod b ≤ a := by
      rw [Int.tmod_eq_emod_of_nonneg q]
      exact z_em q b
    omega
  · have h4 : (-a).tmod b = -(a.tmod b) := Int.neg_tmod a b
    have h5 : 0 ≤ (-a).tmod b := Int.tmod_nonneg b (by omega)
    have h6 : (-a).tmod b ≤ -a := by
      rw [Int.tmod_eq_emod_of_nonneg (by omega)]
      exact z_em (by omega) b
    omega
theorem zI_tmR {a b : Int} (ha : zR a) (_ : zR b) : zR (a.tmod b) := z_tm ha.1 ha.2
theorem zJ_tmR {a b : Int} (ha : zRl a) (_ : zRl b) : zRl (a.tmod b) := z_tm ha.1 ha.2
theorem zCmpR (a b : Int) : zR (zCmp a b) := by 
  unfold zCmp
  split
  · exact zR_of rfl
  · split <;> exact zR_of rfl
theorem zCmp_eq {a b : Int} (ha : zRl a) (hb : zRl b) : Int32.ofInt (zCmp a b) = lg_cmp (Int64.ofInt a) (Int64.ofInt b) := by
  unfold zCmp lg_cmp
  have h1 := zJ_lt ha hb
  have h2 := zJ_eq ha hb
  have h3 := zJ_lt hb ha
  simp only [gt_iff_lt, h2, h3]
  by_cases q1 : a < b
  · rw [if_pos q1, if_neg (by omega), if_neg (by omega)]; rfl
  · rw [if_neg q1]
    by_cases q2 : a = b
    · rw [if_pos q2, if_neg (by omega), if_pos q2]; rfl
    · rw [if_neg q2, if_pos (by omega)]; rfl
section Rows
variable {M : zM} {r : zB} {pc : Nat} {ls st : List zV} {T : zT} {h : zH} {Q : Option zV → zT → zH → Prop}

theorem zS_iconst {n : Int} (hd : decode M.2.1 pc = .ok (.iconst n, 1)) (hn : zRb n = true) (k : zS M r (pc + 1) ls (zI n :: st) T h Q) : zS M r pc ls st T h Q := by
  intro p l e R s m args below meth c Qm G0 T0 C G H locs la hX hP hS hl hls hst
  exact lv_iconst C.1 C.2.1 hd rfl (k p l e R s m args below meth c Qm G0 T0 C G H locs la hX hP hS hl hls (zok_c (zR_of hn) hst))
theorem zbp {n : Int} (h : zRb n = true) (h8 : (Int8.ofInt n).toInt = n) : (Int8.ofInt n).toInt32 = Int32.ofInt n := by
  apply Int32.toInt_inj.mp; rw [Int8.toInt_toInt32, h8, zI_toInt (zR_of h)]
theorem zsp {n : Int} (h : zRb n = true) (h8 : (Int16.ofInt n).toInt = n) : (Int16.ofInt n).toInt32 = Int32.ofInt n := by
  apply Int32.toInt_inj.mp; rw [Int16.toInt_toInt32, h8, zI_toInt (zR_of h)]
theorem zS_bipush {n : Int} (hd : decode M.2.1 pc = .ok (.bipush n, 2)) (hn : zRb n = true) (h8 : (Int8.ofInt n).toInt = n) (k : zS M r (pc + 2) ls (zI n :: st) T h Q) : zS M r pc ls st T h Q := by
  intro p l e R s m args below meth c Qm G0 T0 C G H locs la hX hP hS hl hls hst
  exact lv_bipush C.1 C.2.1 hd (zbp hn h8) (k p l e R s m args below meth c Qm G0 T0 C G H locs la hX hP hS hl hls (zok_c (zR_of hn) hst))
theorem zS_sipush {n : Int} (hd : decode M.2.1 pc = .ok (.sipush n, 3)) (hn : zRb n = true) (h8 : (Int16.ofInt n).toInt = n) (k : zS M r (pc + 3) ls (zI n :: st) T h Q) : zS M r pc ls st T h Q := by
  intro p l e R s m args below meth c Qm G0 T0 C G H locs la hX hP hS hl hls hst
  exact lv_sipush C.1 C.2.1 hd (zsp hn h8) (k p l e R s m args below meth c Qm G0 T0 C G H locs la hX hP hS hl hls (zok_c (zR_of hn) hst))
theorem zS_lconst {n : Fin 2} (hd : decode M.2.1 pc = .ok (.lconst n, 1)) (k : zS M r (pc + 1) ls (zJ ((n : Nat) : Int) :: st) T h Q) : zS M r pc ls st T h Q := by
  intro p l e R s m args below meth c Qm G0 T0 C G H locs la hX hP hS hl hls hst
  exact lv_lconst C.1 C.2.1 hd (Int64.ofInt_eq_ofNat).symm (k p l e R s m args below meth c Qm G0 T0 C G H locs la hX hP hS hl hls (zok_c (show zRl _ from ⟨by omega, by omega⟩) hst))
theorem zS_ldc {n : Int} {ix : Nat} (hd : decode M.2.1 pc = .ok (.ldc ix, 2)) (hw : Cond.constant M.1.cls ix (Int32.ofInt n) ∈ lwg) (hn : zRb n = true) (k : zS M r (pc + 2) ls (zI n :: st) T h Q) : zS M r pc ls st T h Q := by
  intro p l e R s m args below meth c Qm G0 T0 C G H locs la hX hP hS hl hls hst
  exact lv_ldc C.1 C.2.1 C.2.2.2.1 (C.2.2.2.2.1 _ hw) hd (k p l e R s m args below meth c Qm G0 T0 C G H locs la hX hP hS hl hls (zok_c (zR_of hn) hst))
theorem zS_ldc_w {n : Int} {ix : Nat} (hd : decode M.2.1 pc = .ok (.ldc_w ix, 3)) (hw : Cond.constant M.1.cls ix (Int32.ofInt n) ∈ lwg) (hn : zRb n = true) (k : zS M r (pc + 3) ls (zI n :: st) T h Q) : zS M r pc ls st T h Q := by
  intro p l e R s m args below meth c Qm G0 T0 C G H locs la hX hP hS hl hls hst
  exact lv_ldcw C.1 C.2.1 C.2.2.2.1 (C.2.2.2.2.1 _ hw) hd (k p l e R s m args below meth c Qm G0 T0 C G H locs la hX hP hS hl hls (zok_c (zR_of hn) hst))
theorem zS_ldc2_w {n : Int} {ix : Nat} (hd : decode M.2.1 pc = .ok (.ldc2_w ix, 3)) (hw : Cond.constantLong M.1.cls ix (Int64.ofInt n) ∈ lwg) (hn : zRlb n = true) (k : zS M r (pc + 3) ls (zJ n :: st) T h Q) : zS M r pc ls st T h Q := by
  intro p l e R s m args below meth c Qm G0 T0 C G H locs la hX hP hS hl hls hst
  exact lv_ldc2 C.1 C.2.1 C.2.2.2.1 (C.2.2.2.2.1 _ hw) hd (k p l e R s m args below meth c Qm G0 T0 C G H locs la hX hP hS hl hls (zok_c (zRl_of hn) hst))
theorem zS_iload_n {i : Fin 4} {x : Int} (hd : decode M.2.1 pc = .ok (.iload_n i, 1)) (hi : ls[(i : Nat)]? = some (zI x)) (k : zS M r (pc + 1) ls (zI x :: st) T h Q) : zS M r pc ls st T h Q := by
  intro p l e R s m args below meth c Qm G0 T0 C G H locs la hX hP hS hl hls hst
  exact lv_iload_n C.1 C.2.1 hd rfl (zld hl hi (fun q => by cases q)) (k p l e R s m args below meth c Qm G0 T0 C G H locs la hX hP hS hl hls (zok_c (zok_at hls hi) hst))
theorem zS_iload {i : Nat} {x : Int} (hd : decode M.2.1 pc = .ok (.iload i, 2)) (hi : ls[i]? = some (zI x)) (k : zS M r (pc + 2) ls (zI x :: st) T h Q) : zS M r pc ls st T h Q := by
  intro p l e R s m args below meth c Qm G0 T0 C G H locs la hX hP hS hl hls hst
  exact lv_iload C.1 C.2.1 hd (zld hl hi (fun q => by cases q)) (k p l e R s m args below meth c Qm G0 T0 C G H locs la hX hP hS hl hls (zok_c (zok_at hls hi) hst))
theorem zS_lload_n {i : Fin 4} {x : Int} (hd : decode M.2.1 pc = .ok (.lload_n i, 1)) (hi : ls[(i : Nat)]? = some (zJ x)) (k : zS M r (pc + 1) ls (zJ x :: st) T h Q) : zS M r pc ls st T h Q := by
  intro p l e R s m args below meth c Qm G0 T0 C G H locs la hX hP hS hl hls hst
  exact lv_lload_n C.1 C.2.1 hd rfl (zld hl hi (fun q => by cases q)) (k p l e R s m args below meth c Qm G0 T0 C G H locs la hX hP hS hl hls (zok_c (zok_at hls hi) hst))
theorem zS_lload {i : Nat} {x : Int} (hd : decode M.2.1 pc = .ok (.lload i, 2)) (hi : ls[i]? = some (zJ x)) (k : zS M r (pc + 2) ls (zJ x :: st) T h Q) : zS M r pc ls st T h Q := by
  intro p l e R s m args below meth c Qm G0 T0 C G H locs la hX hP hS hl hls hst
  exact lv_lload C.1 C.2.1 hd (zld hl hi (fun q => by cases q)) (k p l e R s m args below meth c Qm G0 T0 C G H locs la hX hP hS hl hls (zok_c (zok_at hls hi) hst))
theorem zS_aload_n {i : Fin 4} {v : zV} (hd : decode M.2.1 pc = .ok (.aload_n i, 1)) (hi : ls[(i : Nat)]? = some v) (hv : zrf v = true) (k : zS M r (pc + 1) ls (v :: st) T h Q) : zS M r pc ls st T h Q := by
  intro p l e R s m args below meth c Qm G0 T0 C G H locs la hX hP hS hl hls hst
  have h3 : v.1 ≠ 3 := fun q => by unfold zrf at hv; rw [q] at hv; cases hv
  have hk := (k p l e R s m args below meth c Qm G0 T0 C G H locs la hX hP hS hl hls (zok_c (zok_at hls hi) hst))
  have ha := zld hl hi h3
  rw [List.map_cons] at hk
  rcases zc_ref (G := G) hv with e | ⟨a, e⟩ <;> rw [e] at ha hk
  · exact lv_aload_nN C.1 C.2.1 hd rfl ha hk
  · exact lv_aload_n C.1 C.2.1 hd rfl ha hk
theorem zS_aload {i : Nat} {v : zV} (hd : decode M.2.1 pc = .ok (.aload i, 2)) (hi : ls[i]? = some v) (hv : zrf v = true) (k : zS M r (pc + 2) ls (v :: st) T h Q) : zS M r pc ls st T h Q := by
  intro p l e R s m args below meth c Qm G0 T0 C G H locs la hX hP hS hl hls hst
  have h3 : v.1 ≠ 3 := fun q => by unfold zrf at hv; rw [q] at hv; cases hv
  have hk := (k p l e R s m args below meth c Qm G0 T0 C G H locs la hX hP hS hl hls (zok_c (zok_at hls hi) hst))
  have ha := zld hl hi h3
  rw [List.map_cons] at hk
  rcases zc_ref (G := G) hv with e | ⟨a, e⟩ <;> rw [e] at ha hk
  · exact lv_aloadN C.1 C.2.1 hd ha hk
  · exact lv_aload C.1 C.2.1 hd ha hk
theorem zS_istore_n {i : Fin 4} {x : Int} (hd : decode M.2.1 pc = .ok (.istore_n i, 1)) (hq : (zq ls (i : Nat) && decide ((i : Nat) < M.2.2.1)) = true) (k : zS M r (pc + 1) (ls.set (i : Nat) (zI x)) st T h Q) : zS M r pc ls (zI x :: st) T h Q := by
  intro p l e R s m args below meth c Qm G0 T0 C G H locs la hX hP hS hl hls hst
  rw [Bool.and_eq_true, decide_eq_true_eq] at hq
  have hv := List.forall_mem_cons.mp hst
  refine lv_istore_n C.1 C.2.1 hd rfl hl hq.2 rfl (fun la' hl' => ?_)
  exact k p l e R s m args below meth c Qm G0 T0 C G H locs la' hX hP hS (zst1 (v := zI x) (fun q => by cases q) hq.1 hl') (zok_set hls hv.1) hv.2
theorem zS_istore {i : Nat} {x : Int} (hd : decode M.2.1 pc = .ok (.istore i, 2)) (hq : (zq ls i && decide (i < M.2.2.1)) = true) (k : zS M r (pc + 2) (ls.set i (zI x)) st T h Q) : zS M r pc ls (zI x :: st) T h Q := by
  intro p l e R s m args below meth c Qm G0 T0 C G H locs la hX hP hS hl hls hst
  rw [Bool.and_eq_true, decide_eq_true_eq] at hq
  have hv := List.forall_mem_cons.mp hst
  refine lv_istore C.1 C.2.1 hd hl hq.2 rfl (fun la' hl' => ?_)
  exact k p l e R s m args below meth c Qm G0 T0 C G H locs la' hX hP hS (zst1 (v := zI x) (fun q => by cases q) hq.1 hl') (zok_set hls hv.1) hv.2
theorem zS_lstore_n {i : Fin 4} {x : Int} (hd : decode M.2.1 pc = .ok (.lstore_n i, 1)) (hq : (zq ls (i : Nat) && decide ((i : Nat) + 1 < M.2.2.1)) = true) (k : zS M r (pc + 1) ((ls.set (i : Nat) (zJ x)).set ((i : Nat) + 1) zN) st T h Q) : zS M r pc ls (zJ x :: st) T h Q := by
  intro p l e R s m args below meth c Qm G0 T0 C G H locs la hX hP hS hl hls hst
  rw [Bool.and_eq_true, decide_eq_true_eq] at hq
  have hv := List.forall_mem_cons.mp hst
  refine lv_lstore_n C.1 C.2.1 hd rfl hl hq.2 rfl (fun la' hl' => ?_)
  exact k p l e R s m args below meth c Qm G0 T0 C G H locs la' hX hP hS (zst2 hq.1 hl') (zok_set (zok_set hls hv.1) trivial) hv.2
theorem zS_lstore {i : Nat} {x : Int} (hd : decode M.2.1 pc = .ok (.lstore i, 2)) (hq : (zq ls i && decide (i + 1 < M.2.2.1)) = true) (k : zS M r (pc + 2) ((ls.set i (zJ x)).set (i + 1) zN) st T h Q) : zS M r pc ls (zJ x :: st) T h Q := by
  intro p l e R s m args below meth c Qm G0 T0 C G H locs la hX hP hS hl hls hst
  rw [Bool.and_eq_true, decide_eq_true_eq] at hq
  have hv := List.forall_mem_cons.mp hst
  refine lv_lstore C.1 C.2.1 hd hl hq.2 rfl (fun la' hl' => ?_)
  exact k p l e R s m args below meth c Qm G0 T0 C G H locs la' hX hP hS (zst2 hq.1 hl') (zok_set (zok_set hls hv.1) trivial) hv.2
theorem zS_astore_n {i : Fin 4} {v : zV} (hd : decode M.2.1 pc = .ok (.astore_n i, 1)) (hv : zrf v = true) (hq : (zq ls (i : Nat) && decide ((i : Nat) < M.2.2.1)) = true) (k : zS M r (pc + 1) (ls.set (i : Nat) v) st T h Q) : zS M r pc ls (v :: st) T h Q := by
  intro p l e R s m args below meth c Qm G0 T0 C G H locs la hX hP hS hl hls hst
  rw [Bool.and_eq_true, decide_eq_true_eq] at hq
  have hv9 := List.forall_mem_cons.mp hst
  have h1 : v.1 ≠ 1 := fun q => by unfold zrf at hv; rw [q] at hv; cases hv
  have go : ∀ la', lv_has la' M.2.2.1 (((i : Nat), zc G v) :: (zlv G ls).filter (fun q => !(q.1 == (i : Nat)) && !(q.1 + 1 == (i : Nat) && q.2.category == 2))) → W p l e R s m args below meth c H locs r.2.1 r.2.2.1 Qm (F0 m (pc + 1) la' (st.map (zc G))) := fun la' hl' => k p l e R s m args below meth c Qm G0 T0 C G H locs la' hX hP hS (zst1 h1 hq.1 hl') (zok_set hls hv9.1) hv9.2
  rw [List.map_cons]
  rcases zc_ref (G := G) hv with e | ⟨a, e⟩ <;> rw [e] at go ⊢
  · exact lv_astore_nN C.1 C.2.1 hd rfl hl hq.2 rfl go
  · exact lv_astore_n C.1 C.2.1 hd rfl hl hq.2 rfl go
theorem zS_astore {i : Nat} {v : zV} (hd : decode M.2.1 pc = .ok (.astore i, 2)) (hv : zrf v = true) (hq : (zq ls i && decide (i < M.2.2.1)) = true) (k : zS M r (pc + 2) (ls.set i v) st T h Q) : zS M r pc ls (v :: st) T h Q := by
  intro p l e R s m args below meth c Qm G0 T0 C G H locs la hX hP hS hl hls hst
  rw [Bool.and_eq_true, decide_eq_true_eq] at hq
  have hv9 := List.forall_mem_cons.mp hst
  have h1 : v.1 ≠ 1 := fun q => by unfold zrf at hv; rw [q] at hv; cases hv
  have go : ∀ la', lv_has la' M.2.2.1 ((i, zc G v) :: (zlv G ls).filter (fun q => !(q.1 == i) && !(q.1 + 1 == i && q.2.category == 2))) → W p l e R s m args below meth c H locs r.2.1 r.2.2.1 Qm (F0 m (pc + 2) la' (st.map (zc G))) := fun la' hl' => k p l e R s m args below meth c Qm G0 T0 C G H locs la' hX hP hS (zst1 h1 hq.1 hl') (zok_set hls hv9.1) hv9.2
  rw [List.map_cons]
  rcases zc_ref (G := G) hv with e | ⟨a, e⟩ <;> rw [e] at go ⊢
  · exact lv_astoreN C.1 C.2.1 hd hl hq.2 rfl go
  · exact lv_astore C.1 C.2.1 hd hl hq.2 rfl go
theorem zS_iinc {i : Nat} {n x : Int} (hd : decode M.2.1 pc = .ok (.iinc i n, 3)) (hi : ls[i]? = some (zI x)) (hq : (zq ls i && decide (i < M.2.2.1)) = true) (hr : zR (x + n)) (k : zS M r (pc + 3) (ls.set i (zI (x + n))) st T h Q) : zS M r pc ls st T h Q := by
  intro p l e R s m args below meth c Qm G0 T0 C G H locs la hX hP hS hl hls hst
  rw [Bool.and_eq_true, decide_eq_true_eq] at hq
  obtain ⟨j, hj⟩ := List.getElem?_of_mem (zlv_in (G := G) hi (fun q => by cases q))
  refine lv_iinc (v := Int32.ofInt (x + n)) C.1 C.2.1 hd hl hj (by rw [Int32.ofInt_add]) hq.2 rfl (fun la' hl' => ?_)
  exact k p l e R s m args below meth c Qm G0 T0 C G H locs la' hX hP hS (zst1 (v := zI (x + n)) (fun q => by cases q) hq.1 hl') (zok_set hls hr) hst
theorem zS_iadd {a b : Int} (hd : decode M.2.1 pc = .ok (.iadd, 1)) (hr : zR (a + b)) (k : zS M r (pc + 1) ls (zI (a + b) :: st) T h Q) : zS M r pc ls (zI b :: zI a :: st) T h Q := by
  intro p l e R s m args below meth c Qm G0 T0 C G H locs la hX hP hS hl hls hst
  obtain ⟨vb, hst⟩ := List.forall_mem_cons.mp hst
  obtain ⟨va, hst⟩ := List.forall_mem_cons.mp hst
  have hk := (k p l e R s m args below meth c Qm G0 T0 C G H locs la hX hP hS hl hls (zok_c (show zok T (zI _) from hr) hst))
  rw [List.map_cons] at hk
  have e : zc G (zI (a + b)) = .int (Int32.ofInt a + Int32.ofInt b) := congrArg Value.int (Int32.ofInt_add a b)
  rw [e] at hk
  exact lv_iadd C.1 C.2.1 hd hk
theorem zS_isub {a b : Int} (hd : decode M.2.1 pc = .ok (.isub, 1)) (hr : zR (a - b)) (k : zS M r (pc + 1) ls (zI (a - b) :: st) T h Q) : zS M r pc ls (zI b :: zI a :: st) T h Q := by
  intro p l e R s m args below meth c Qm G0 T0 C G H locs la hX hP hS hl hls hst
  obtain ⟨vb, hst⟩ := List.forall_mem_cons.mp hst
  obtain ⟨va, hst⟩ := List.forall_mem_cons.mp hst
  have hk := (k p l e R s m args below meth c Qm G0 T0 C G H locs la hX hP hS hl hls (zok_c (show zok T (zI _) from hr) hst))
  rw [List.map_cons] at hk
  have e : zc G (zI (a - b)) = .int (Int32.ofInt a - Int32.ofInt b) := congrArg Value.int (Int32.ofInt_sub a b)
  rw [e] at hk
  exact lv_isub C.1 C.2.1 hd hk
theorem zS_imul {a b : Int} (hd : decode M.2.1 pc = .ok (.imul, 1)) (hr : zR (a * b)) (k : zS M r (pc + 1) ls (zI (a * b) :: st) T h Q) : zS M r pc ls (zI b :: zI a :: st) T h Q := by
  intro p l e R s m args below meth c Qm G0 T0 C G H locs la hX hP hS hl hls hst
  obtain ⟨vb, hst⟩ := List.forall_mem_cons.mp hst
  obtain ⟨va, hst⟩ := List.forall_mem_cons.mp hst
  have hk := (k p l e R s m args below meth c Qm G0 T0 C G H locs la hX hP hS hl hls (zok_c (show zok T (zI _) from hr) hst))
  rw [List.map_cons] at hk
  have e : zc G (zI (a * b)) = .int (Int32.ofInt a * Int32.ofInt b) := congrArg Value.int (Int32.ofInt_mul a b)
  rw [e] at hk
  exact lv_imul C.1 C.2.1 hd hk
theorem zS_idiv {a b : Int} (hd : decode M.2.1 pc = .ok (.idiv, 1)) (hb0 : b ≠ 0) (hr : ¬ (a = -2147483648 ∧ b = -1)) (k : zS M r (pc + 1) ls (zI (a.tdiv b) :: st) T h Q) : zS M r pc ls (zI b :: zI a :: st) T h Q := by
  intro p l e R s m args below meth c Qm G0 T0 C G H locs la hX hP hS hl hls hst
  obtain ⟨vb, hst⟩ := List.forall_mem_cons.mp hst
  obtain ⟨va, hst⟩ := List.forall_mem_cons.mp hst
  have hk := (k p l e R s m args below meth c Qm G0 T0 C G H locs la hX hP hS hl hls (zok_c (show zok T (zI _) from (by have e := zI_toInt va; have := zR_toInt (Int32.ofInt a / Int32.ofInt b); rw [zI_div va vb hr] at this; exact zI_tdR va vb hr)) hst))
  rw [List.map_cons] at hk
  have e : zc G (zI (a.tdiv b)) = .int (Int32.ofInt a / Int32.ofInt b) := congrArg Value.int (zI_div va vb hr).symm
  rw [e] at hk
  exact lv_idiv C.1 C.2.1 hd (fun q => hb0 ((zI_eq vb zR0).mp q)) hk
theorem zS_irem {a b : Int} (hd : decode M.2.1 pc = .ok (.irem, 1)) (hb0 : b ≠ 0) (hr : ¬ (a = -2147483648 ∧ b = -1)) (k : zS M r (pc + 1) ls (zI (a.tmod b) :: st) T h Q) : zS M r pc ls (zI b :: zI a :: st) T h Q := by
  intro p l e R s m args below meth c Qm G0 T0 C G H locs la hX hP hS hl hls hst
  obtain ⟨vb, hst⟩ := List.forall_mem_cons.mp hst
  obtain ⟨va, hst⟩ := List.forall_mem_cons.mp hst
  have hk := (k p l e R s m args below meth c Qm G0 T0 C G H locs la hX hP hS hl hls (zok_c (show zok T (zI _) from zI_tmR va vb) hst))
  rw [List.map_cons] at hk
  have e : zc G (zI (a.tmod b)) = .int (Int32.ofInt a - Int32.ofInt a / Int32.ofInt b * Int32.ofInt b) := congrArg Value.int (zI_rem va vb hr).symm
  rw [e] at hk
  exact lv_irem C.1 C.2.1 hd (fun q => hb0 ((zI_eq vb zR0).mp q)) hk
theorem zS_iand {a b : Int} (hd : decode M.2.1 pc = .ok (.iand, 1)) (k : zS M r (pc + 1) ls (zI (zAnd a b) :: st) T h Q) : zS M r pc ls (zI b :: zI a :: st) T h Q := by
  intro p l e R s m args below meth c Qm G0 T0 C G H locs la hX hP hS hl hls hst
  obtain ⟨vb, hst⟩ := List.forall_mem_cons.mp hst
  obtain ⟨va, hst⟩ := List.forall_mem_cons.mp hst
  have hk := (k p l e R s m args below meth c Qm G0 T0 C G H locs la hX hP hS hl hls (zok_c (show zok T (zI _) from zR_toInt _) hst))
  rw [List.map_cons] at hk
  have e : zc G (zI (zAnd a b)) = .int (Int32.ofInt a &&& Int32.ofInt b) := congrArg Value.int (zI_of _)
  rw [e] at hk
  exact lv_iand C.1 C.2.1 hd hk
theorem zS_ior {a b : Int} (hd : decode M.2.1 pc = .ok (.ior, 1)) (k : zS M r (pc + 1) ls (zI (zOr a b) :: st) T h Q) : zS M r pc ls (zI b :: zI a :: st) T h Q := by
  intro p l e R s m args below meth c Qm G0 T0 C G H locs la hX hP hS hl hls hst
  obtain ⟨vb, hst⟩ := List.forall_mem_cons.mp hst
  obtain ⟨va, hst⟩ := List.forall_mem_cons.mp hst
  have hk := (k p l e R s m args below meth c Qm G0 T0 C G H locs la hX hP hS hl hls (zok_c (show zok T (zI _) from zR_toInt _) hst))
  rw [List.map_cons] at hk
  have e : zc G (zI (zOr a b)) = .int (Int32.ofInt a ||| Int32.ofInt b) := congrArg Value.int (zI_of _)
  rw [e] at hk
  exact lv_ior C.1 C.2.1 hd hk
theorem zS_ixor {a b : Int} (hd : decode M.2.1 pc = .ok (.ixor, 1)) (k : zS M r (pc + 1) ls (zI (zXor a b) :: st) T h Q) : zS M r pc ls (zI b :: zI a :: st) T h Q := by
  intro p l e R s m args below meth c Qm G0 T0 C G H locs la hX hP hS hl hls hst
  obtain ⟨vb, hst⟩ := List.forall_mem_cons.mp hst
  obtain ⟨va, hst⟩ := List.forall_mem_cons.mp hst
  have hk := (k p l e R s m args below meth c Qm G0 T0 C G H locs la hX hP hS hl hls (zok_c (show zok T (zI _) from zR_toInt _) hst))
  rw [List.map_cons] at hk
  have e : zc G (zI (zXor a b)) = .int (Int32.ofInt a ^^^ Int32.ofInt b) := congrArg Value.int (zI_of _)
  rw [e] at hk
  exact lv_ixor C.1 C.2.1 hd hk
theorem zS_ishl {a b : Int} (hd : decode M.2.1 pc = .ok (.ishl, 1)) (k : zS M r (pc + 1) ls (zI (zShl a b) :: st) T h Q) : zS M r pc ls (zI b :: zI a :: st) T h Q := by
  intro p l e R s m args below meth c Qm G0 T0 C G H locs la hX hP hS hl hls hst
  obtain ⟨vb, hst⟩ := List.forall_mem_cons.mp hst
  obtain ⟨va, hst⟩ := List.forall_mem_cons.mp hst
  have hk := (k p l e R s m args below meth c Qm G0 T0 C G H locs la hX hP hS hl hls (zok_c (show zok T (zI _) from zR_toInt _) hst))
  rw [List.map_cons] at hk
  have e : zc G (zI (zShl a b)) = .int (Int32.ofInt a <<< (Int32.ofInt b &&& 31)) := congrArg Value.int (zI_of _)
  rw [e] at hk
  exact lv_ishl C.1 C.2.1 hd hk
theorem zS_ishr {a b : Int} (hd : decode M.2.1 pc = .ok (.ishr, 1)) (k : zS M r (pc + 1) ls (zI (zShr a b) :: st) T h Q) : zS M r pc ls (zI b :: zI a :: st) T h Q := by
  intro p l e R s m args below meth c Qm G0 T0 C G H locs la hX hP hS hl hls hst
  obtain ⟨vb, hst⟩ := List.forall_mem_cons.mp hst
  obtain ⟨va, hst⟩ := List.forall_mem_cons.mp hst
  have hk := (k p l e R s m args below meth c Qm G0 T0 C G H locs la hX hP hS hl hls (zok_c (show zok T (zI _) from zR_toInt _) hst))
  rw [List.map_cons] at hk
  have e : zc G (zI (zShr a b)) = .int (Int32.ofInt a >>> (Int32.ofInt b &&& 31)) := congrArg Value.int (zI_of _)
  rw [e] at hk
  exact lv_ishr C.1 C.2.1 hd hk
theorem zS_ladd {a b : Int} (hd : decode M.2.1 pc = .ok (.ladd, 1)) (hr : zRl (a + b)) (k : zS M r (pc + 1) ls (zJ (a + b) :: st) T h Q) : zS M r pc ls (zJ b :: zJ a :: st) T h Q := by
  intro p l e R s m args below meth c Qm G0 T0 C G H locs la hX hP hS hl hls hst
  obtain ⟨vb, hst⟩ := List.forall_mem_cons.mp hst
  obtain ⟨va, hst⟩ := List.forall_mem_cons.mp hst
  have hk := (k p l e R s m args below meth c Qm G0 T0 C G H locs la hX hP hS hl hls (zok_c (show zok T (zJ _) from hr) hst))
  rw [List.map_cons] at hk
  have e : zc G (zJ (a + b)) = .long (Int64.ofInt a + Int64.ofInt b) := congrArg Value.long (Int64.ofInt_add a b)
  rw [e] at hk
  exact lv_ladd C.1 C.2.1 hd hk
theorem zS_lsub {a b : Int} (hd : decode M.2.1 pc = .ok (.lsub, 1)) (hr : zRl (a - b)) (k : zS M r (pc + 1) ls (zJ (a - b) :: st) T h Q) : zS M r pc ls (zJ b :: zJ a :: st) T h Q := by
  intro p l e R s m args below meth c Qm G0 T0 C G H locs la hX hP hS hl hls hst
  obtain ⟨vb, hst⟩ := List.forall_mem_cons.mp hst
  obtain ⟨va, hst⟩ := List.forall_mem_cons.mp hst
  have hk := (k p l e R s m args below meth c Qm G0 T0 C G H locs la hX hP hS hl hls (zok_c (show zok T (zJ _) from hr) hst))
  rw [List.map_cons] at hk
  have e : zc G (zJ (a - b)) = .long (Int64.ofInt a - Int64.ofInt b) := congrArg Value.long (Int64.ofInt_sub a b)
  rw [e] at hk
  exact lv_lsub C.1 C.2.1 hd hk
theorem zS_lmul {a b : Int} (hd : decode M.2.1 pc = .ok (.lmul, 1)) (hr : zRl (a * b)) (k : zS M r (pc + 1) ls (zJ (a * b) :: st) T h Q) : zS M r pc ls (zJ b :: zJ a :: st) T h Q := by
  intro p l e R s m args below meth c Qm G0 T0 C G H locs la hX hP hS hl hls hst
  obtain ⟨vb, hst⟩ := List.forall_mem_cons.mp hst
  obtain ⟨va, hst⟩ := List.forall_mem_cons.mp hst
  have hk := (k p l e R s m args below meth c Qm G0 T0 C G H locs la hX hP hS hl hls (zok_c (show zok T (zJ _) from hr) hst))
  rw [List.map_cons] at hk
  have e : zc G (zJ (a * b)) = .long (Int64.ofInt a * Int64.ofInt b) := congrArg Value.long (Int64.ofInt_mul a b)
  rw [e] at hk
  exact lv_lmul C.1 C.2.1 hd hk
theorem zS_ldiv {a b : Int} (hd : decode M.2.1 pc = .ok (.ldiv, 1)) (hb0 : b ≠ 0) (hr : ¬ (a = -9223372036854775808 ∧ b = -1)) (k : zS M r (pc + 1) ls (zJ (a.tdiv b) :: st) T h Q) : zS M r pc ls (zJ b :: zJ a :: st) T h Q := by
  intro p l e R s m args below meth c Qm G0 T0 C G H locs la hX hP hS hl hls hst
  obtain ⟨vb, hst⟩ := List.forall_mem_cons.mp hst
  obtain ⟨va, hst⟩ := List.forall_mem_cons.mp hst
  have hk := (k p l e R s m args below meth c Qm G0 T0 C G H locs la hX hP hS hl hls (zok_c (show zok T (zJ _) from zJ_tdR va vb hr) hst))
  rw [List.map_cons] at hk
  have e : zc G (zJ (a.tdiv b)) = .long (Int64.ofInt a / Int64.ofInt b) := congrArg Value.long (zJ_div va vb hr).symm
  rw [e] at hk
  exact lv_ldiv C.1 C.2.1 hd (fun q => hb0 ((zJ_eq vb (zR_l zR0)).mp q)) hk
theorem zS_lrem {a b : Int} (hd : decode M.2.1 pc = .ok (.lrem, 1)) (hb0 : b ≠ 0) (hr : ¬ (a = -9223372036854775808 ∧ b = -1)) (k : zS M r (pc + 1) ls (zJ (a.tmod b) :: st) T h Q) : zS M r pc ls (zJ b :: zJ a :: st) T h Q := by
  intro p l e R s m args below meth c Qm G0 T0 C G H locs la hX hP hS hl hls hst
  obtain ⟨vb, hst⟩ := List.forall_mem_cons.mp hst
  obtain ⟨va, hst⟩ := List.forall_mem_cons.mp hst
  have hk := (k p l e R s m args below meth c Qm G0 T0 C G H locs la hX hP hS hl hls (zok_c (show zok T (zJ _) from zJ_tmR va vb) hst))
  rw [List.map_cons] at hk
  have e : zc G (zJ (a.tmod b)) = .long (Int64.ofInt a - Int64.ofInt a / Int64.ofInt b * Int64.ofInt b) := congrArg Value.long (zJ_rem va vb hr).symm
  rw [e] at hk
  exact lv_lrem C.1 C.2.1 hd (fun q => hb0 ((zJ_eq vb (zR_l zR0)).mp q)) hk
theorem zS_land {a b : Int} (hd : decode M.2.1 pc = .ok (.land, 1)) (k : zS M r (pc + 1) ls (zJ (zLAnd a b) :: st) T h Q) : zS M r pc ls (zJ b :: zJ a :: st) T h Q := by
  intro p l e R s m args below meth c Qm G0 T0 C G H locs la hX hP hS hl hls hst
  obtain ⟨vb, hst⟩ := List.forall_mem_cons.mp hst
  obtain ⟨va, hst⟩ := List.forall_mem_cons.mp hst
  have hk := (k p l e R s m args below meth c Qm G0 T0 C G H locs la hX hP hS hl hls (zok_c (show zok T (zJ _) from zRl_toInt _) hst))
  rw [List.map_cons] at hk
  have e : zc G (zJ (zLAnd a b)) = .long (Int64.ofInt a &&& Int64.ofInt b) := congrArg Value.long (Int64.ofInt_toInt _)
  rw [e] at hk
  exact lv_land C.1 C.2.1 hd hk
theorem zS_lor {a b : Int} (hd : decode M.2.1 pc = .ok (.lor, 1)) (k : zS M r (pc + 1) ls (zJ (zLOr a b) :: st) T h Q) : zS M r pc ls (zJ b :: zJ a :: st) T h Q := by
  intro p l e R s m args below meth c Qm G0 T0 C G H locs la hX hP hS hl hls hst
  obtain ⟨vb, hst⟩ := List.forall_mem_cons.mp hst
  obtain ⟨va, hst⟩ := List.forall_mem_cons.mp hst
  have hk := (k p l e R s m args below meth c Qm G0 T0 C G H locs la hX hP hS hl hls (zok_c (show zok T (zJ _) from zRl_toInt _) hst))
  rw [List.map_cons] at hk
  have e : zc G (zJ (zLOr a b)) = .long (Int64.ofInt a ||| Int64.ofInt b) := congrArg Value.long (Int64.ofInt_toInt _)
  rw [e] at hk
  exact lv_lor C.1 C.2.1 hd hk
theorem zS_ineg {a : Int} (hd : decode M.2.1 pc = .ok (.ineg, 1)) (hr : zR (-a)) (k : zS M r (pc + 1) ls (zI (-a) :: st) T h Q) : zS M r pc ls (zI a :: st) T h Q := by
  intro p l e R s m args below meth c Qm G0 T0 C G H locs la hX hP hS hl hls hst
  obtain ⟨va, hst⟩ := List.forall_mem_cons.mp hst
  have hk := (k p l e R s m args below meth c Qm G0 T0 C G H locs la hX hP hS hl hls (zok_c (show zok T (zI _) from hr) hst))
  rw [List.map_cons] at hk
  have e : zc G (zI (-a)) = .int (-Int32.ofInt a) := congrArg Value.int (Int32.ofInt_neg a)
  rw [e] at hk
  exact lv_ineg C.1 C.2.1 hd hk
theorem zS_lneg {a : Int} (hd : decode M.2.1 pc = .ok (.lneg, 1)) (hr : zRl (-a)) (k : zS M r (pc + 1) ls (zJ (-a) :: st) T h Q) : zS M r pc ls (zJ a :: st) T h Q := by
  intro p l e R s m args below meth c Qm G0 T0 C G H locs la hX hP hS hl hls hst
  obtain ⟨va, hst⟩ := List.forall_mem_cons.mp hst
  have hk := (k p l e R s m args below meth c Qm G0 T0 C G H locs la hX hP hS hl hls (zok_c (show zok T (zJ _) from hr) hst))
  rw [List.map_cons] at hk
  have e : zc G (zJ (-a)) = .long (-Int64.ofInt a) := congrArg Value.long (Int64.ofInt_neg a)
  rw [e] at hk
  exact lv_lneg C.1 C.2.1 hd hk
theorem zS_i2b {a : Int} (hd : decode M.2.1 pc = .ok (.i2b, 1)) (k : zS M r (pc + 1) ls (zI (zB8 a) :: st) T h Q) : zS M r pc ls (zI a :: st) T h Q := by
  intro p l e R s m args below meth c Qm G0 T0 C G H locs la hX hP hS hl hls hst
  obtain ⟨va, hst⟩ := List.forall_mem_cons.mp hst
  have hk := (k p l e R s m args below meth c Qm G0 T0 C G H locs la hX hP hS hl hls (zok_c (show zok T (zI _) from zR_toInt _) hst))
  rw [List.map_cons] at hk
  have e : zc G (zI (zB8 a)) = .int ((Int32.ofInt a).toInt8.toInt32) := congrArg Value.int (zI_of _)
  rw [e] at hk
  exact lv_i2b C.1 C.2.1 hd rfl hk
theorem zS_i2s {a : Int} (hd : decode M.2.1 pc = .ok (.i2s, 1)) (k : zS M r (pc + 1) ls (zI (zB16 a) :: st) T h Q) : zS M r pc ls (zI a :: st) T h Q := by
  intro p l e R s m args below meth c Qm G0 T0 C G H locs la hX hP hS hl hls hst
  obtain ⟨va, hst⟩ := List.forall_mem_cons.mp hst
  have hk := (k p l e R s m args below meth c Qm G0 T0 C G H locs la hX hP hS hl hls (zok_c (show zok T (zI _) from zR_toInt _) hst))
  rw [List.map_cons] at hk
  have e : zc G (zI (zB16 a)) = .int ((Int32.ofInt a).toInt16.toInt32) := congrArg Value.int (zI_of _)
  rw [e] at hk
  exact lv_i2s C.1 C.2.1 hd rfl hk
theorem zS_l2i {a : Int} (hd : decode M.2.1 pc = .ok (.l2i, 1)) (k : zS M r (pc + 1) ls (zI (zL2I a) :: st) T h Q) : zS M r pc ls (zJ a :: st) T h Q := by
  intro p l e R s m args below meth c Qm G0 T0 C G H locs la hX hP hS hl hls hst
  obtain ⟨va, hst⟩ := List.forall_mem_cons.mp hst
  have hk := (k p l e R s m args below meth c Qm G0 T0 C G H locs la hX hP hS hl hls (zok_c (show zok T (zI _) from zR_toInt _) hst))
  rw [List.map_cons] at hk
  have e : zc G (zI (zL2I a)) = .int ((Int64.ofInt a).toInt32) := congrArg Value.int (zI_of _)
  rw [e] at hk
  exact lv_l2i C.1 C.2.1 hd rfl hk
theorem zS_i2l {a : Int} (hd : decode M.2.1 pc = .ok (.i2l, 1)) (k : zS M r (pc + 1) ls (zJ (a) :: st) T h Q) : zS M r pc ls (zI a :: st) T h Q := by
  intro p l e R s m args below meth c Qm G0 T0 C G H locs la hX hP hS hl hls hst
  obtain ⟨va, hst⟩ := List.forall_mem_cons.mp hst
  have hk := (k p l e R s m args below meth c Qm G0 T0 C G H locs la hX hP hS hl hls (zok_c (show zok T (zJ _) from zR_l va) hst))
  rw [List.map_cons] at hk
  have e : zc G (zJ (a)) = .long ((Int32.ofInt a).toInt64) := congrArg Value.long (zJ_of_I va)
  rw [e] at hk
  exact lv_i2l C.1 C.2.1 hd rfl hk
theorem zS_lshl {a b : Int} (hd : decode M.2.1 pc = .ok (.lshl, 1)) (k : zS M r (pc + 1) ls (zJ (zLShl a b) :: st) T h Q) : zS M r pc ls (zI b :: zJ a :: st) T h Q := by
  intro p l e R s m args below meth c Qm G0 T0 C G H locs la hX hP hS hl hls hst
  obtain ⟨vb, hst⟩ := List.forall_mem_cons.mp hst
  obtain ⟨va, hst⟩ := List.forall_mem_cons.mp hst
  have hk := (k p l e R s m args below meth c Qm G0 T0 C G H locs la hX hP hS hl hls (zok_c (show zok T (zJ _) from zRl_toInt _) hst))
  rw [List.map_cons] at hk
  have e : zc G (zJ (zLShl a b)) = .long (Int64.ofInt a <<< ((Int32.ofInt b).toInt64 &&& 63)) := congrArg Value.long (Int64.ofInt_toInt _)
  rw [e] at hk
  exact lv_lshl C.1 C.2.1 hd rfl hk
theorem zS_lcmp {a b : Int} (hd : decode M.2.1 pc = .ok (.lcmp, 1)) (k : zS M r (pc + 1) ls (zI (zCmp a b) :: st) T h Q) : zS M r pc ls (zJ b :: zJ a :: st) T h Q := by
  intro p l e R s m args below meth c Qm G0 T0 C G H locs la hX hP hS hl hls hst
  obtain ⟨vb, hst⟩ := List.forall_mem_cons.mp hst
  obtain ⟨va, hst⟩ := List.forall_mem_cons.mp hst
  have hk := (k p l e R s m args below meth c Qm G0 T0 C G H locs la hX hP hS hl hls (zok_c (show zok T (zI _) from zCmpR a b) hst))
  rw [List.map_cons] at hk
  have e : zc G (zI (zCmp a b)) = .int (lg_cmp (Int64.ofInt a) (Int64.ofInt b)) := congrArg Value.int (zCmp_eq va vb)
  rw [e] at hk
  exact W.lcmp C.1 C.2.1 hd hk
theorem zS_dup {v : zV} (hd : decode M.2.1 pc = .ok (.dup, 1)) (hv : v.1 ≠ 1) (k : zS M r (pc + 1) ls (v :: v :: st) T h Q) : zS M r pc ls (v :: st) T h Q := by
  intro p l e R s m args below meth c Qm G0 T0 C G H locs la hX hP hS hl hls hst
  exact lv_dup C.1 C.2.1 hd (zc_cat hv) (k p l e R s m args below meth c Qm G0 T0 C G H locs la hX hP hS hl hls (zok_c (List.forall_mem_cons.mp hst).1 hst))
theorem zS_pop {v : zV} (hd : decode M.2.1 pc = .ok (.pop, 1)) (hv : v.1 ≠ 1) (k : zS M r (pc + 1) ls st T h Q) : zS M r pc ls (v :: st) T h Q := by
  intro p l e R s m args below meth c Qm G0 T0 C G H locs la hX hP hS hl hls hst
  exact lv_pop C.1 C.2.1 hd (zc_cat hv) (k p l e R s m args below meth c Qm G0 T0 C G H locs la hX hP hS hl hls (List.forall_mem_cons.mp hst).2)
theorem zS_dup2 {v u : zV} (hd : decode M.2.1 pc = .ok (.dup2, 1)) (hv : v.1 ≠ 1) (hu : u.1 ≠ 1) (k : zS M r (pc + 1) ls (v :: u :: v :: u :: st) T h Q) : zS M r pc ls (v :: u :: st) T h Q := by
  intro p l e R s m args below meth c Qm G0 T0 C G H locs la hX hP hS hl hls hst
  exact lv_dup2_11 C.1 C.2.1 hd (zc_cat hv) (zc_cat hu) (k p l e R s m args below meth c Qm G0 T0 C G H locs la hX hP hS hl hls (zok_c (List.forall_mem_cons.mp hst).1 (zok_c (List.forall_mem_cons.mp (List.forall_mem_cons.mp hst).2).1 hst)))
theorem zS_icmp_eq {a b off : Int} {tgt : Nat} (hd : decode M.2.1 pc = .ok (.if_icmp .eq off, 3)) (ht : (pc : Int) + off = (tgt : Int)) (kt : a = b → zS M r tgt ls st T h Q) (kf : ¬ (a = b) → zS M r (pc + 3) ls st T h Q) : zS M r pc ls (zI b :: zI a :: st) T h Q := by
  intro p l e R s m args below meth c Qm G0 T0 C G H locs la hX hP hS hl hls hst
  obtain ⟨vb, hst⟩ := List.forall_mem_cons.mp hst
  obtain ⟨va, hst⟩ := List.forall_mem_cons.mp hst
  have q := zI_eq va vb
  exact lv_icmp_eq C.1 C.2.1 hd ht (fun z => kt (q.mp z) p l e R s m args below meth c Qm G0 T0 C G H locs la hX hP hS hl hls hst) (fun z => kf (fun y => z (q.mpr y)) p l e R s m args below meth c Qm G0 T0 C G H locs la hX hP hS hl hls hst)
theorem zS_if_eq {a off : Int} {tgt : Nat} (hd : decode M.2.1 pc = .ok (.ifCond .eq off, 3)) (ht : (pc : Int) + off = (tgt : Int)) (kt : a = 0 → zS M r tgt ls st T h Q) (kf : ¬ (a = 0) → zS M r (pc + 3) ls st T h Q) : zS M r pc ls (zI a :: st) T h Q := by
  intro p l e R s m args below meth c Qm G0 T0 C G H locs la hX hP hS hl hls hst
  obtain ⟨va, hst⟩ := List.forall_mem_cons.mp hst
  have q := zI_eq va zR0
  exact lv_if_eq C.1 C.2.1 hd ht (fun z => kt (q.mp z) p l e R s m args below meth c Qm G0 T0 C G H locs la hX hP hS hl hls hst) (fun z => kf (fun y => z (q.mpr y)) p l e R s m args below meth c Qm G0 T0 C G H locs la hX hP hS hl hls hst)
theorem zS_icmp_ne {a b off : Int} {tgt : Nat} (hd : decode M.2.1 pc = .ok (.if_icmp .ne off, 3)) (ht : (pc : Int) + off = (tgt : Int)) (kt : a ≠ b → zS M r tgt ls st T h Q) (kf : a = b → zS M r (pc + 3) ls st T h Q) : zS M r pc ls (zI b :: zI a :: st) T h Q := by
  intro p l e R s m args below meth c Qm G0 T0 C G H locs la hX hP hS hl hls hst
  obtain ⟨vb, hst⟩ := List.forall_mem_cons.mp hst
  obtain ⟨va, hst⟩ := List.forall_mem_cons.mp hst
  have q := not_congr (zI_eq va vb)
  exact lv_icmp_ne C.1 C.2.1 hd ht (fun z => kt (q.mp z) p l e R s m args below meth c Qm G0 T0 C G H locs la hX hP hS hl hls hst) (fun z => kf (Decidable.not_not.mp (fun y => q.mpr y z)) p l e R s m args below meth c Qm G0 T0 C G H locs la hX hP hS hl hls hst)
theorem zS_if_ne {a off : Int} {tgt : Nat} (hd : decode M.2.1 pc = .ok (.ifCond .ne off, 3)) (ht : (pc : Int) + off = (tgt : Int)) (kt : a ≠ 0 → zS M r tgt ls st T h Q) (kf : a = 0 → zS M r (pc + 3) ls st T h Q) : zS M r pc ls (zI a :: st) T h Q := by
  intro p l e R s m args below meth c Qm G0 T0 C G H locs la hX hP hS hl hls hst
  obtain ⟨va, hst⟩ := List.forall_mem_cons.mp hst
  have q := not_congr (zI_eq va zR0)
  exact lv_if_ne C.1 C.2.1 hd ht (fun z => kt (q.mp z) p l e R s m args below meth c Qm G0 T0 C G H locs la hX hP hS hl hls hst) (fun z => kf (Decidable.not_not.mp (fun y => q.mpr y z)) p l e R s m args below meth c Qm G0 T0 C G H locs la hX hP hS hl hls hst)
theorem zS_icmp_lt {a b off : Int} {tgt : Nat} (hd : decode M.2.1 pc = .ok (.if_icmp .lt off, 3)) (ht : (pc : Int) + off = (tgt : Int)) (kt : a < b → zS M r tgt ls st T h Q) (kf : ¬ (a < b) → zS M r (pc + 3) ls st T h Q) : zS M r pc ls (zI b :: zI a :: st) T h Q := by
  intro p l e R s m args below meth c Qm G0 T0 C G H locs la hX hP hS hl hls hst
  obtain ⟨vb, hst⟩ := List.forall_mem_cons.mp hst
  obtain ⟨va, hst⟩ := List.forall_mem_cons.mp hst
  have q := zI_lt va vb
  exact lv_icmp_lt C.1 C.2.1 hd ht (fun z => kt (q.mp z) p l e R s m args below meth c Qm G0 T0 C G H locs la hX hP hS hl hls hst) (fun z => kf (fun y => z (q.mpr y)) p l e R s m args below meth c Qm G0 T0 C G H locs la hX hP hS hl hls hst)
theorem zS_if_lt {a off : Int} {tgt : Nat} (hd : decode M.2.1 pc = .ok (.ifCond .lt off, 3)) (ht : (pc : Int) + off = (tgt : Int)) (kt : a < 0 → zS M r tgt ls st T h Q) (kf : ¬ (a < 0) → zS M r (pc + 3) ls st T h Q) : zS M r pc ls (zI a :: st) T h Q := by
  intro p l e R s m args below meth c Qm G0 T0 C G H locs la hX hP hS hl hls hst
  obtain ⟨va, hst⟩ := List.forall_mem_cons.mp hst
  have q := zI_lt va zR0
  exact lv_if_lt C.1 C.2.1 hd ht (fun z => kt (q.mp z) p l e R s m args below meth c Qm G0 T0 C G H locs la hX hP hS hl hls hst) (fun z => kf (fun y => z (q.mpr y)) p l e R s m args below meth c Qm G0 T0 C G H locs la hX hP hS hl hls hst)
theorem zS_icmp_ge {a b off : Int} {tgt : Nat} (hd : decode M.2.1 pc = .ok (.if_icmp .ge off, 3)) (ht : (pc : Int) + off = (tgt : Int)) (kt : b ≤ a → zS M r tgt ls st T h Q) (kf : ¬ (b ≤ a) → zS M r (pc + 3) ls st T h Q) : zS M r pc ls (zI b :: zI a :: st) T h Q := by
  intro p l e R s m args below meth c Qm G0 T0 C G H locs la hX hP hS hl hls hst
  obtain ⟨vb, hst⟩ := List.forall_mem_cons.mp hst
  obtain ⟨va, hst⟩ := List.forall_mem_cons.mp hst
  have q := zI_le vb va
  exact lv_icmp_ge C.1 C.2.1 hd ht (fun z => kt (q.mp z) p l e R s m args below meth c Qm G0 T0 C G H locs la hX hP hS hl hls hst) (fun z => kf (fun y => z (q.mpr y)) p l e R s m args below meth c Qm G0 T0 C G H locs la hX hP hS hl hls hst)
theorem zS_if_ge {a off : Int} {tgt : Nat} (hd : decode M.2.1 pc = .ok (.ifCond .ge off, 3)) (ht : (pc : Int) + off = (tgt : Int)) (kt : 0 ≤ a → zS M r tgt ls st T h Q) (kf : ¬ (0 ≤ a) → zS M r (pc + 3) ls st T h Q) : zS M r pc ls (zI a :: st) T h Q := by
  intro p l e R s m args below meth c Qm G0 T0 C G H locs la hX hP hS hl hls hst
  obtain ⟨va, hst⟩ := List.forall_mem_cons.mp hst
  have q := zI_le zR0 va
  exact lv_if_ge C.1 C.2.1 hd ht (fun z => kt (q.mp z) p l e R s m args below meth c Qm G0 T0 C G H locs la hX hP hS hl hls hst) (fun z => kf (fun y => z (q.mpr y)) p l e R s m args below meth c Qm G0 T0 C G H locs la hX hP hS hl hls hst)
theorem zS_icmp_gt {a b off : Int} {tgt : Nat} (hd : decode M.2.1 pc = .ok (.if_icmp .gt off, 3)) (ht : (pc : Int) + off = (tgt : Int)) (kt : b < a → zS M r tgt ls st T h Q) (kf : ¬ (b < a) → zS M r (pc + 3) ls st T h Q) : zS M r pc ls (zI b :: zI a :: st) T h Q := by
  intro p l e R s m args below meth c Qm G0 T0 C G H locs la hX hP hS hl hls hst
  obtain ⟨vb, hst⟩ := List.forall_mem_cons.mp hst
  obtain ⟨va, hst⟩ := List.forall_mem_cons.mp hst
  have q := zI_lt vb va
  exact lv_icmp_gt C.1 C.2.1 hd ht (fun z => kt (q.mp z) p l e R s m args below meth c Qm G0 T0 C G H locs la hX hP hS hl hls hst) (fun z => kf (fun y => z (q.mpr y)) p l e R s m args below meth c Qm G0 T0 C G H locs la hX hP hS hl hls hst)
theorem zS_if_gt {a off : Int} {tgt : Nat} (hd : decode M.2.1 pc = .ok (.ifCond .gt off, 3)) (ht : (pc : Int) + off = (tgt : Int)) (kt : 0 < a → zS M r tgt ls st T h Q) (kf : ¬ (0 < a) → zS M r (pc + 3) ls st T h Q) : zS M r pc ls (zI a :: st) T h Q := by
  intro p l e R s m args below meth c Qm G0 T0 C G H locs la hX hP hS hl hls hst
  obtain ⟨va, hst⟩ := List.forall_mem_cons.mp hst
  have q := zI_lt zR0 va
  exact lv_if_gt C.1 C.2.1 hd ht (fun z => kt (q.mp z) p l e R s m args below meth c Qm G0 T0 C G H locs la hX hP hS hl hls hst) (fun z => kf (fun y => z (q.mpr y)) p l e R s m args below meth c Qm G0 T0 C G H locs la hX hP hS hl hls hst)
theorem zS_icmp_le {a b off : Int} {tgt : Nat} (hd : decode M.2.1 pc = .ok (.if_icmp .le off, 3)) (ht : (pc : Int) + off = (tgt : Int)) (kt : a ≤ b → zS M r tgt ls st T h Q) (kf : ¬ (a ≤ b) → zS M r (pc + 3) ls st T h Q) : zS M r pc ls (zI b :: zI a :: st) T h Q := by
  intro p l e R s m args below meth c Qm G0 T0 C G H locs la hX hP hS hl hls hst
  obtain ⟨vb, hst⟩ := List.forall_mem_cons.mp hst
  obtain ⟨va, hst⟩ := List.forall_mem_cons.mp hst
  have q := zI_le va vb
  exact lv_icmp_le C.1 C.2.1 hd ht (fun z => kt (q.mp z) p l e R s m args below meth c Qm G0 T0 C G H locs la hX hP hS hl hls hst) (fun z => kf (fun y => z (q.mpr y)) p l e R s m args below meth c Qm G0 T0 C G H locs la hX hP hS hl hls hst)
theorem zS_if_le {a off : Int} {tgt : Nat} (hd : decode M.2.1 pc = .ok (.ifCond .le off, 3)) (ht : (pc : Int) + off = (tgt : Int)) (kt : a ≤ 0 → zS M r tgt ls st T h Q) (kf : ¬ (a ≤ 0) → zS M r (pc + 3) ls st T h Q) : zS M r pc ls (zI a :: st) T h Q := by
  intro p l e R s m args below meth c Qm G0 T0 C G H locs la hX hP hS hl hls hst
  obtain ⟨va, hst⟩ := List.forall_mem_cons.mp hst
  have q := zI_le va zR0
  exact lv_if_le C.1 C.2.1 hd ht (fun z => kt (q.mp z) p l e R s m args below meth c Qm G0 T0 C G H locs la hX hP hS hl hls hst) (fun z => kf (fun y => z (q.mpr y)) p l e R s m args below meth c Qm G0 T0 C G H locs la hX hP hS hl hls hst)
theorem zS_goto {off : Int} {tgt : Nat} (hd : decode M.2.1 pc = .ok (.goto off, 3)) (ht : (pc : Int) + off = (tgt : Int)) (k : zS M r tgt ls st T h Q) : zS M r pc ls st T h Q := by
  intro p l e R s m args below meth c Qm G0 T0 C G H locs la hX hP hS hl hls hst
  exact lv_goto C.1 C.2.1 hd ht (k p l e R s m args below meth c Qm G0 T0 C G H locs la hX hP hS hl hls hst)
theorem zS_tableIn {dflt lo hi x off : Int} {offs : Array Int} {len tgt : Nat} (hd : decode M.2.1 pc = .ok (.tableswitch dflt lo hi offs, len)) (h1 : ¬ x < lo) (h2 : ¬ hi < x) (ho : offs[(x - lo).toNat]? = some off) (ht : (pc : Int) + off = (tgt : Int)) (k : zS M r tgt ls st T h Q) : zS M r pc ls (zI x :: st) T h Q := by
  intro p l e R s m args below meth c Qm G0 T0 C G H locs la hX hP hS hl hls hst
  obtain ⟨va, hst⟩ := List.forall_mem_cons.mp hst
  have e9 : (Int32.ofInt x).toInt = x := zI_toInt va
  exact lv_tableIn C.1 C.2.1 hd (by rw [e9]; exact h1) (by rw [e9]; exact h2) (by rw [e9]; exact ho) ht (k p l e R s m args below meth c Qm G0 T0 C G H locs la hX hP hS hl hls hst)
theorem zS_tableOut {dflt lo hi x : Int} {offs : Array Int} {len tgt : Nat} (hd : decode M.2.1 pc = .ok (.tableswitch dflt lo hi offs, len)) (h1 : x < lo ∨ hi < x) (ht : (pc : Int) + dflt = (tgt : Int)) (k : zS M r tgt ls st T h Q) : zS M r pc ls (zI x :: st) T h Q := by
  intro p l e R s m args below meth c Qm G0 T0 C G H locs la hX hP hS hl hls hst
  obtain ⟨va, hst⟩ := List.forall_mem_cons.mp hst
  have e9 : (Int32.ofInt x).toInt = x := zI_toInt va
  exact lv_tableOut C.1 C.2.1 hd (by rw [e9]; exact h1) ht (k p l e R s m args below meth c Qm G0 T0 C G H locs la hX hP hS hl hls hst)
end Rows

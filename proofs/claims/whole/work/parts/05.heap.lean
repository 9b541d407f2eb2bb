/-! THE HEAP'S ROWS: fields, arrays, calls, returns -/
def zset (h : zH) (k j v : Int) : zH := fun a b => if a = k ∧ b = j then v else h a b
theorem zset_s (h : zH) (k j v : Int) : zset h k j v k j = v := if_pos ⟨rfl, rfl⟩
theorem zset_k {h : zH} {k j v a : Int} (ha : a ≠ k) : zset h k j v a = h a := funext fun b => if_neg fun q => ha q.1
theorem zset_j {h : zH} {k j v a b : Int} (hb : b ≠ j) : zset h k j v a b = h a b := if_neg fun q => hb q.2
theorem zScr.set {G : zG} {h : zH} {k : Nat} {j v : Int} (hs : zScr G h) : zScr G (zset h k j v) := by
  refine ⟨?_, fun i hi => ?_⟩
  · rw [zset_k (by omega)]; exact hs.1
  · rw [zset_k (by omega)]; exact hs.2 i hi
def zAt (T : zT) (k : Int) (t : Nat × Nat) : Prop := 0 ≤ k ∧ T.1[k.toNat]? = some t
theorem zw_at {G : zG} {T : zT} {h : zH} {k : Nat} {t : Nat × Nat} (ht : T.1[k]? = some t) : (zw G T h)[k]? = some (G.2 k, zE G t (h k)) := by
  have hk : k < T.1.length := (List.getElem?_eq_some_iff.mp ht).1
  unfold zw
  rw [List.getElem?_map, List.getElem?_range hk]
  simp only [Option.map_some, List.getD_eq_getElem?_getD, ht, Option.getD_some]
theorem zw_set {G : zG} {T : zT} {h h' : zH} {k : Nat} {t : Nat × Nat} (ht : T.1[k]? = some t) (he : ∀ a : Nat, a ≠ k → h' a = h a) : (zw G T h).set k (G.2 k, zE G t (h' k)) = zw G T h' := by
  have hk : k < T.1.length := (List.getElem?_eq_some_iff.mp ht).1
  apply List.ext_getElem?
  intro i
  rw [List.getElem?_set]
  by_cases hi : k = i
  · subst hi
    rw [if_pos rfl, if_pos (by unfold zw; rw [List.length_map, List.length_range]; exact hk), zw_at ht]
  · rw [if_neg hi]
    unfold zw
    rw [List.getElem?_map, List.getElem?_map]
    by_cases hn : i < T.1.length
    · rw [List.getElem?_range hn, Option.map_some, Option.map_some, he i (fun q => hi q.symm)]
    · rw [List.getElem?_eq_none (by rw [List.length_range]; omega)]
      rfl
theorem zrm_set {α : Type} {n k : Nat} {f : Nat → α} {v : α} : ((List.range n).map f).set k v = (List.range n).map (fun j => if j = k then v else f j) := by
  apply List.ext_getElem?
  intro i
  rw [List.getElem?_set, List.length_map, List.length_range, List.getElem?_map, List.getElem?_map]
  by_cases hn : i < n
  · rw [List.getElem?_range hn]
    by_cases hi : k = i
    · subst hi
      simp [hn]
    · simp [hi]
      exact fun q => absurd q.symm hi
  · rw [List.getElem?_eq_none (by rw [List.length_range]; omega)]
    by_cases hi : k = i
    · subst hi
      simp [hn]
    · simp [hi]
theorem zokh_at {T : zT} {h : zH} {k j : Nat} {t : Nat × Nat} (hh : zokh T h) (ht : T.1[k]? = some t) (hj : j < t.2) : zokc T t j (h k j) := hh.1 k j t ht hj
theorem zRo_ok : zRo.all (fun q => match TTl[q.1]? with | some t => decide (t.1 < 20) && zF t.1 q.2.1 == 2 | none => false) = true := by decide +kernel
theorem zRa_ok : zRa.all (fun q => match TTl[q.1]? with | some t => decide (24 ≤ t.1) && t.2 == q.2.1 | none => false) = true := by decide +kernel
theorem zSh_set {h : zH} {k j : Nat} {t : Nat × Nat} {v : Int} (hs : zSh h) (ht : TTl[k]? = some t) (hr : (t.1 < 20 ∧ zF t.1 j ≠ 2) ∨ (20 ≤ t.1 ∧ t.1 < 24)) : zSh (zset h k j v) := by
  refine ⟨fun q hq => ?_, fun q hq i hi => ?_⟩
  · have h1 := List.all_eq_true.mp zRo_ok q hq
    unfold zset
    rw [if_neg]
    · exact hs.1 q hq
    · rintro ⟨h2, h3⟩
      have h2 : q.1 = k := by omega
      have h3 : q.2.1 = j := by omega
      rw [h2, ht] at h1
      simp only [Bool.and_eq_true, decide_eq_true_eq, beq_iff_eq] at h1
      rw [h3] at h1
      rcases hr with ⟨-, q⟩ | ⟨q, -⟩
      · exact q h1.2
      · omega
  · have h1 := List.all_eq_true.mp zRa_ok q hq
    unfold zset
    rw [if_neg]
    · exact hs.2 q hq i hi
    · rintro ⟨h2, -⟩
      have h2 : q.1 = k := by omega
      rw [h2, ht] at h1
      simp only [Bool.and_eq_true, decide_eq_true_eq] at h1
      omega
theorem zokh_set {T : zT} {h : zH} {k j : Nat} {t : Nat × Nat} {v : Int} (hh : zokh T h) (ht : T.1[k]? = some t) (hv : zokc T t j v) (hr : T.2 = true → (t.1 < 20 ∧ zF t.1 j ≠ 2) ∨ (20 ≤ t.1 ∧ t.1 < 24)) : zokh T (zset h k j v) := by
  refine ⟨?_, fun hT => ⟨(hh.2 hT).1, zSh_set (hh.2 hT).2 (by rw [← (hh.2 hT).1]; exact ht) (hr hT)⟩⟩
  intro a b t' ht' hb
  unfold zset
  by_cases hq : (a : Int) = k ∧ (b : Int) = j
  · rw [if_pos hq]
    obtain ⟨h1, h2⟩ := hq
    have h1 : a = k := by omega
    have h2 : b = j := by omega
    subst h1; subst h2
    cases ht.symm.trans ht'
    exact hv
  · rw [if_neg hq]
    exact hh.1 a b t' ht' hb
theorem zX_ad {T T' : zT} {G G' : zG} (h : zX T T' G G') : zAd G = zAd G' := by unfold zAd gB; rw [h.2.1]
theorem zX_c {T T' : zT} {G G' : zG} (h : zX T T' G G') {v : zV} (hv : zok T v) : zc G v = zc G' v := by
  obtain ⟨⟨d1, d2, d3, d4, ⟨d5, d6, d7, d11⟩, d8, d9, d10⟩, a⟩ := G
  obtain ⟨g', a'⟩ := G'
  obtain ⟨-, h2, h3⟩ := h
  dsimp only at h2 h3
  subst h2
  obtain ⟨t, x⟩ := v
  unfold zc
  split <;> try rfl
  split
  · rfl
  · rename_i k heq hk
    cases heq
    have hv : x < T.1.length := hv
    exact congrArg Value.ref (h3 x.toNat (by omega))
theorem zX_ok {T T' : zT} {G G' : zG} (h : zX T T' G G') {v : zV} (hv : zok T v) : zok T' v := by
  have hl := h.1.length_le
  obtain ⟨t, x⟩ := v
  unfold zok at hv ⊢
  split at hv
  · exact hv
  · exact hv
  · show _ < (T'.1.length : Int)
    omega
  · trivial
theorem zX_map {T T' : zT} {G G' : zG} (h : zX T T' G G') {l : List zV} (hl : ∀ v ∈ l, zok T v) : l.map (zc G) = l.map (zc G') := List.map_congr_left fun v hv => zX_c h (hl v hv)
theorem zX_lv {T T' : zT} {G G' : zG} (h : zX T T' G G') {l : List zV} (hl : ∀ v ∈ l, zok T v) : zlv G l = zlv G' l := by
  unfold zlv
  apply List.map_congr_left
  intro q hq
  have h1 : q.1 ∈ l := by
    obtain ⟨a, i⟩ := q
    exact List.mem_of_getElem? (List.mk_mem_zipIdx_iff_getElem?.mp (List.mem_filter.mp hq).1)
  rw [zX_c h (hl _ h1)]
theorem zX_D {T T' : zT} {G G' : zG} (h : zX T T' G G') : gD G = gD G' := by unfold gD; rw [h.2.1]
theorem zX_ty {T T' : zT} {G G' : zG} (h : zX T T' G G') : zty G = zty G' := by unfold zty gY; rw [h.2.1]
theorem zC.K {M : zM} {r : zB} {Q : Option zV → zT → zH → Prop} {p : Program} {l : Launch} {e : Env} {R : Room} {s : State} {m : MethodId} {args : Array Value} {below : List Frame} {meth : Method} {c : Code} {Qm : State → Prop} {G0 G : zG} {T0 T : zT} (C : zC M r Q p l e R s m args below meth c Qm G0 T0) (h : zX T0 T G0 G) : zK G s s.heap := by
  have h0 := C.2.2.2.2.2.2.2.1
  unfold zK zKc gD zty gY gSc gL gXs gB gSk gSv gFa gFo zAd gB at h0 ⊢
  rw [← h.2.1]
  exact h0
/-- a field's link: own class, entry, class number, place -/
def zLk (own : String) (ix ci j : Nat) : Prop := ∃ (q : vw_C) (ty0 : Nat → FieldType), vwCl[ci]? = some q ∧ (∀ w ∈ u_ws q.1 q.2.1 q.2.2, w ∈ lwg) ∧ (∀ k, k < q.2.2 → parseFieldDescriptor (q.2.1 k).2.2.1 = some (ty0 k)) ∧ (∀ a, a < q.2.2 → ∀ b, b < q.2.2 → a ≠ b → (q.2.1 a).2.1 ≠ (q.2.1 b).2.1) ∧
  j < q.2.2 ∧ Cond.fieldLink own ix q.1 (q.2.1 j).2.1 (q.2.1 j).2.2.1 ∈ lwg ∧ (q.2.1 j).1 = q.1 ∧ ((zF ci j = 0 ∧ ty0 j = .int) ∨ (zF ci j = 1 ∧ ty0 j = .long) ∨ (zF ci j = 2 ∧ ((∃ n, ty0 j = .object n) ∨ ∃ t, ty0 j = .array t)))
def zLfin (ci j : Nat) (b : Bool) : Prop := ∃ q : vw_C, vwCl[ci]? = some q ∧ (q.2.1 j).2.2.2 = b
theorem zE_obj {G : zG} {ci n : Nat} {f : Int → Int} (h : ci < 20) : zE G (ci, n) f = .inr (ci, (List.range n).map (fun j => zc G (zF ci j, f j))) := if_pos h
theorem zfit {G : zG} {t : Nat} {v : Int} {ty : FieldType} (h : (t = 0 ∧ ty = .int) ∨ (t = 1 ∧ ty = .long) ∨ (t = 2 ∧ ((∃ n, ty = .object n) ∨ ∃ t, ty = .array t))) : narrow ty (zc G (t, v)) = zc G (t, v) ∧ fits ty (zc G (t, v)) = true := by
  rcases h with ⟨rfl, rfl⟩ | ⟨rfl, rfl⟩ | ⟨rfl, ⟨n, rfl⟩ | ⟨n, rfl⟩⟩
  · exact ⟨rfl, rfl⟩
  · exact ⟨rfl, rfl⟩
  · by_cases q : v < 0
    · rw [show zc G (2, v) = .null from if_pos q]; exact ⟨rfl, rfl⟩
    · rw [show zc G (2, v) = .ref (G.2 v.toNat) from if_neg q]; exact ⟨rfl, rfl⟩
  · by_cases q : v < 0
    · rw [show zc G (2, v) = .null from if_pos q]; exact ⟨rfl, rfl⟩
    · rw [show zc G (2, v) = .ref (G.2 v.toNat) from if_neg q]; exact ⟨rfl, rfl⟩
section Heap
variable {M : zM} {r : zB} {pc : Nat} {ls st : List zV} {T : zT} {h : zH} {Q : Option zV → zT → zH → Prop}
theorem zc_pos {G : zG} {k : Int} (h : 0 ≤ k) : zc G (2, k) = .ref (G.2 k.toNat) := if_neg (by omega)
theorem zS_getfield {ix ci j n : Nat} {kk x : Int} (hd : decode M.2.1 pc = .ok (.getfield ix, 3)) (hL : zLk M.1.cls ix ci j) (ht : zAt T kk (ci, n)) (hj : (decide (j < n) && decide (ci < 20)) = true) (hx : (j : Int) = x) (k : zS M r (pc + 3) ls ((zF ci j, h kk x) :: st) T h Q) : zS M r pc ls (zA kk :: st) T h Q := by
  intro p l e R s m args below meth c Qm G0 T0 C G H locs la hX hP hS hl hls hst
  obtain ⟨q, ty0, h1, h2, -, -, h5, h6, h7, -⟩ := hL
  rw [Bool.and_eq_true, decide_eq_true_eq, decide_eq_true_eq] at hj
  obtain ⟨hj, hci⟩ := hj
  subst hx
  obtain ⟨hk0, ht⟩ := ht
  obtain ⟨a, rfl⟩ := Int.eq_ofNat_of_zero_le hk0
  simp only [Int.toNat_natCast] at ht
  have ho := zokh_at hP.2.2.1 ht hj
  unfold zokc at ho
  rw [if_pos hci] at ho
  have hw := zw_at (G := G) (h := h) ht
  rw [zE_obj hci] at hw
  rw [List.map_cons, zc_pos (by omega), Int.toNat_natCast]
  exact va_get (D := gD G) (ci := ci) (v := zc G (zF ci j, h a j)) (C := q.1) (T := q.2.1) (N := q.2.2) C.1 C.2.1 C.2.2.2.2.1 h2 C.2.2.2.1 (C.K hX).1 hP.1 a hw h1 j h5 (C.2.2.2.2.1 _ h6) (fun x hx => by rw [h7] at hx; exact hx) (by rw [List.getElem?_map, List.getElem?_range hj]; rfl) hd
    (k p l e R s m args below meth c Qm G0 T0 C G H locs la hX hP hS hl hls (zok_c ho (List.forall_mem_cons.mp hst).2))
theorem zput_w {G : zG} {ci n a j : Nat} {h : zH} {v : Int} (hci : ci < 20) (ht : T.1[a]? = some (ci, n)) : (zw G T h).set a (G.2 a, .inr (ci, ((List.range n).map (fun i => zc G (zF ci i, h a i))).set j (zc G (zF ci j, v)))) = zw G T (zset h a j v) := by
  rw [← zw_set (h := h) (h' := zset h a j v) (t := (ci, n)) ht (fun b hb => zset_k (by omega)), zE_obj hci, zrm_set]
  congr 4
  apply List.map_congr_left
  intro i _
  unfold zset
  by_cases hi : i = j
  · subst hi; simp
  · rw [if_neg hi, if_neg (by omega)]
theorem zS_putfield {ix ci j n : Nat} {kk x v : Int} {t : Nat} (hd : decode M.2.1 pc = .ok (.putfield ix, 3)) (hL : zLk M.1.cls ix ci j) (hf : zLfin ci j false ∨ (zLfin ci j true ∧ M.1.name = "<init>" ∧ ∀ q, vwCl[ci]? = some q → q.1 = M.1.cls)) (ht : zAt T kk (ci, n)) (hj : (decide (j < n) && decide (ci < 20)) = true) (hx : (j : Int) = x) (htg : zF ci j = t) (hsl : t ≠ 2 ∨ T.2 = false) (k : zS M r (pc + 3) ls st T (zset h kk x v) Q) : zS M r pc ls ((t, v) :: zA kk :: st) T h Q := by
  intro p l e R s m args below meth c Qm G0 T0 C G H locs la hX hP hS hl hls hst
  obtain ⟨q, ty0, h1, h2, h3, h4, h5, h6, h7, h8⟩ := hL
  rw [Bool.and_eq_true, decide_eq_true_eq, decide_eq_true_eq] at hj
  obtain ⟨hj, hci⟩ := hj
  subst hx
  subst htg
  obtain ⟨hk0, ht⟩ := ht
  obtain ⟨a, rfl⟩ := Int.eq_ofNat_of_zero_le hk0
  simp only [Int.toNat_natCast] at ht
  obtain ⟨hv, hst⟩ := List.forall_mem_cons.mp hst
  have hst := (List.forall_mem_cons.mp hst).2
  have hw := zw_at (G := G) (h := h) ht
  rw [zE_obj hci] at hw
  rw [List.map_cons, List.map_cons, zc_pos (by omega), Int.toNat_natCast]
  have hlen : j < ((List.range n).map (fun i => zc G (zF ci i, h a i))).length := by rw [List.length_map, List.length_range]; exact hj
  have hgo : ∀ (H1 : Heap) (locs1 : List Loc), va_P (gD G) vwCl ((zw G T h).set a (G.2 a, .inr (ci, ((List.range n).map (fun i => zc G (zF ci i, h a i))).set j (zc G (zF ci j, v))))) H1 → va_D (zAd G) ((zw G T h).set a (G.2 a, .inr (ci, ((List.range n).map (fun i => zc G (zF ci i, h a i))).set j (zc G (zF ci j, v))))) → va_S (zAd G) s.heap H1 locs1 → W p l e R s m args below meth c H1 locs1 r.2.1 r.2.2.1 Qm (F0 m (pc + 3) la (st.map (zc G))) := by
    intro H1 locs1 hP1 hD1 hS1
    rw [zput_w hci ht] at hP1 hD1
    exact k p l e R s m args below meth c Qm G0 T0 C G H1 locs1 la hX ⟨hP1, hD1, zokh_set hP.2.2.1 ht (by unfold zokc; rw [if_pos hci]; exact hv) (fun hT => Or.inl ⟨hci, hsl.resolve_right (by rw [hT]; decide)⟩), hP.2.2.2.set⟩ hS1 hl hls hst
  obtain ⟨e1, e2⟩ := zfit (G := G) (v := v) h8
  rcases hf with ⟨q', g1, g2⟩ | ⟨⟨q', g1, g2⟩, g3, g4⟩
  · cases h1.symm.trans g1
    exact va_put (D := gD G) (ci := ci) (C := q.1) (T := q.2.1) (N := q.2.2) C.1 C.2.1 C.2.2.2.2.1 h2 ty0 h3 h4 C.2.2.2.1 (C.K hX).1 hP.1 hP.2.1 hS a hw h1 j h5 (C.2.2.2.2.1 _ h6) (fun x hx => by rw [h7] at hx; exact hx) g2 (h3 j h5) e1 e2 hlen hd hgo
  · cases h1.symm.trans g1
    exact va_putF (D := gD G) (ci := ci) (C := q.1) (T := q.2.1) (N := q.2.2) C.1 C.2.1 C.2.2.2.2.1 h2 ty0 h3 h4 C.2.2.2.1 (C.K hX).1 hP.1 hP.2.1 hS a hw h1 j h5 (C.2.2.2.2.1 _ h6) (fun x hx => by rw [h7] at hx; exact hx) g2 (C.2.2.2.2.2.1.trans g3) (h7.trans (g4 q h1)) (h3 j h5) e1 e2 hlen hd hgo
/-- a field that refers, once all is made: the place is known -/
theorem zS_getref {ix ci j n i a : Nat} {kk y : Int} (hd : decode M.2.1 pc = .ok (.getfield ix, 3)) (hL : zLk M.1.cls ix ci j) (ht : zAt T kk (ci, n)) (hj : (decide (j < n) && decide (ci < 20)) = true) (hT : T.2 = true) (ha : (a : Int) = kk) (hy : zRo[i]? = some (a, j, y)) (hz : zF ci j = 2) (k : zS M r (pc + 3) ls (zA y :: st) T h Q) : zS M r pc ls (zA kk :: st) T h Q := by
  intro p l e R s m args below meth c Qm G0 T0 C G H locs la hX hP hS hl hls hst
  have e9 : h kk j = y := by rw [← ha]; exact (hP.2.2.1.2 hT).2.1 _ (List.mem_of_getElem? hy)
  refine zS_getfield (x := (j : Int)) hd hL ht hj rfl ?_ p l e R s m args below meth c Qm G0 T0 C G H locs la hX hP hS hl hls hst
  rw [e9, hz]
  exact k
theorem zS_forget {i : Nat} (k : zS M r pc (ls.set i zN) st T h Q) : zS M r pc ls st T h Q := by
  intro p l e R s m args below meth c Qm G0 T0 C G H locs la hX hP hS hl hls hst
  refine k p l e R s m args below meth c Qm G0 T0 C G H locs la hX hP hS ⟨hl.1, hl.2.1, fun q hq => ?_⟩ (zok_set hls trivial) hst
  obtain ⟨v, h1, h2, h3⟩ := zlv_of hq
  obtain ⟨x, w⟩ := q
  dsimp only at h1 h3 ⊢
  subst h3
  rw [List.getElem?_set] at h1
  split at h1
  · split at h1
    · cases h1; exact absurd rfl h2
    · cases h1
  · exact hl.2.2 _ (zlv_in h1 h2)
end Heap

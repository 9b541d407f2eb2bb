/-! MAKING: the rows of new cells, over the abstract machine -/
def zrow (h : zH) (k : Int) (f : Int → Int) : zH := fun a b => if a = k then f b else h a b
theorem zrow_k {h : zH} {k a : Int} {f : Int → Int} (ha : a ≠ k) : zrow h k f a = h a := funext fun _ => if_neg ha
theorem zrow_s {h : zH} {k : Int} {f : Int → Int} : zrow h k f k = f := funext fun _ => if_pos rfl
def zdf (ci : Nat) (b : Int) : Int := if zF ci b.toNat = 2 then -1 else 0
def zdq : Nat → Value
  | 0 => .int 0
  | 1 => .long 0
  | _ => .null
def zgx (G : zG) (n q : Nat) : zG := (G.1, fun i => if n ≤ i then q + (i - n) else G.2 i)
theorem zX_gx {T : zT} {ts : List (Nat × Nat)} {b : Bool} {G : zG} {q : Nat} : zX T (T.1 ++ ts, b) G (zgx G T.1.length q) := ⟨List.prefix_append _ _, rfl, fun k hk => (if_neg (by omega)).symm⟩
theorem zgx_at {G : zG} {n q i : Nat} : (zgx G n q).2 (n + i) = q + i := by
  show (if n ≤ n + i then q + (n + i - n) else G.2 (n + i)) = q + i
  rw [if_pos (by omega)]; omega
theorem zokc_X {T T' : zT} {G G' : zG} (hX : zX T T' G G') {t : Nat × Nat} {j : Nat} {x : Int} (h : zokc T t j x) : zokc T' t j x := by
  have hl := hX.1.length_le
  unfold zokc at h ⊢
  by_cases c0 : t.1 < 20
  · rw [if_pos c0] at h ⊢; exact zX_ok hX h
  · rw [if_neg c0] at h ⊢
    by_cases c1 : t.1 = 20
    · rw [if_pos c1] at h ⊢; exact h
    · rw [if_neg c1] at h ⊢
      by_cases c2 : t.1 = 21
      · rw [if_pos c2] at h ⊢; exact h
      · rw [if_neg c2] at h ⊢
        by_cases c3 : t.1 = 22
        · rw [if_pos c3] at h ⊢; exact h
        · rw [if_neg c3] at h ⊢
          by_cases c4 : t.1 = 23
          · rw [if_pos c4] at h ⊢; exact h
          · rw [if_neg c4] at h ⊢; omega
theorem zE_at {T T' : zT} {G G' : zG} (hX : zX T T' G G') {t : Nat × Nat} {f : Int → Int} (ho : ∀ j : Nat, j < t.2 → zokc T t j (f j)) {a : Nat} {H : Heap} (hP : va_at (gD G) vwCl (a, zE G t f) H) : va_at (gD G') vwCl (a, zE G' t f) H := by
  obtain ⟨t, n⟩ := t
  have eY : gY G = gY G' := by unfold gY; rw [hX.2.1]
  unfold zE at hP ⊢
  rw [← zX_D hX, ← eY]
  dsimp only at hP ho ⊢
  by_cases c0 : t < 20
  · rw [if_pos c0] at hP ⊢
    have e : (List.range n).map (fun j : Nat => zc G' (zF t j, f j)) = (List.range n).map (fun j : Nat => zc G (zF t j, f j)) := List.map_congr_left (fun j hj => (zX_c hX (by
      have q := ho j (List.mem_range.mp hj)
      unfold zokc at q
      rw [if_pos c0] at q
      exact q)).symm)
    rw [e]; exact hP
  · rw [if_neg c0] at hP ⊢
    by_cases c1 : t = 22
    · rw [if_pos c1] at hP ⊢; exact hP
    · rw [if_neg c1] at hP ⊢
      by_cases c2 : t < 24
      · rw [if_pos c2] at hP ⊢; exact hP
      · rw [if_neg c2] at hP ⊢
        have hP : H[a]? = some (arrV _ n (fun j : Nat => va_rf (if f j < 0 then none else some (G.2 (f j).toNat)))) := hP
        show H[a]? = some (arrV _ n (fun j : Nat => va_rf (if f j < 0 then none else some (G'.2 (f j).toNat))))
        rw [hP]
        refine congrArg some (zarr_congr (fun j hj => ?_))
        have q := ho j hj
        unfold zokc at q
        rw [if_neg c0, if_neg (by dsimp only; omega), if_neg (by dsimp only; omega), if_neg c1, if_neg (by dsimp only; omega)] at q
        by_cases w : f j < 0
        · rw [if_pos w, if_pos w]
        · rw [if_neg w, if_neg w, hX.2.2 _ (by omega)]
theorem zw_get {G : zG} {T : zT} {h : zH} {k : Nat} {x : Nat × va_E} (hx : (zw G T h)[k]? = some x) : ∃ t, T.1[k]? = some t ∧ x = (G.2 k, zE G t (h k)) := by
  have hk : k < T.1.length := by
    have := (List.getElem?_eq_some_iff.mp hx).1
    unfold zw at this
    rw [List.length_map, List.length_range] at this
    exact this
  have e := List.getElem?_eq_getElem hk
  exact ⟨_, e, Option.some.inj (hx.symm.trans (zw_at e))⟩
theorem zP.grow {G G' : zG} {T : zT} {ts : List (Nat × Nat)} {h h' : zH} {H H1 : Heap} (hP : zP G T h H) (hX : zX T (T.1 ++ ts, false) G G') (hk : ∀ k : Int, k < T.1.length → h' k = h k) (hH : ∀ q : Nat, q < H.size → H1[q]? = H[q]?) (hB : gB G ≤ H.size)
    (hn : ∀ (i : Nat) (t : Nat × Nat), ts[i]? = some t → G'.2 (T.1.length + i) = H.size + i ∧ (∀ j : Nat, j < t.2 → zokc (T.1 ++ ts, false) t j (h' (T.1.length + i : Nat) j)) ∧ va_at (gD G') vwCl (H.size + i, zE G' t (h' (T.1.length + i : Nat))) H1) : zP G' (T.1 ++ ts, false) h' H1 := by
  have eA := zX_ad hX
  have get : ∀ (k : Nat) (x : Nat × va_E), (zw G' (T.1 ++ ts, false) h')[k]? = some x → va_at (gD G') vwCl x H1 ∧ zAd G' x.1 ∧ ((k < T.1.length ∧ x.1 < H.size ∧ ∃ y, (zw G T h)[k]? = some y ∧ x.1 = y.1) ∨ (T.1.length ≤ k ∧ x.1 = H.size + (k - T.1.length))) := by
    intro k x hx
    obtain ⟨t, ht, rfl⟩ := zw_get hx
    by_cases c : k < T.1.length
    · have ht' : T.1[k]? = some t := by rw [← ht]; exact (List.getElem?_append_left c).symm
      have wa := zw_at (G := G) (h := h) ht'
      have a := hP.1 k _ wa
      have lt := a.lt
      have b := zE_at hX (fun j hj => hP.2.2.1.1 k j t ht' hj) (a.kept (hH _ lt))
      have ad := hP.2.1.2 k _ wa
      rw [hX.2.2 k c] at b
      rw [hk k (by omega)]
      refine ⟨b, by rw [← eA, ← hX.2.2 k c]; exact ad, Or.inl ⟨c, ?_, _, wa, (hX.2.2 k c).symm⟩⟩
      show G'.2 k < H.size
      rw [← hX.2.2 k c]; exact lt
    · have ht' : ts[k - T.1.length]? = some t := by rw [← ht]; exact (List.getElem?_append_right (by omega)).symm
      obtain ⟨a, -, b⟩ := hn _ t ht'
      have e : T.1.length + (k - T.1.length) = k := by omega
      rw [e] at a b
      rw [← a] at b
      refine ⟨b, ?_, Or.inr ⟨by omega, a⟩⟩
      show gB G' ≤ G'.2 k
      have e2 : gB G' = gB G := by unfold gB; rw [hX.2.1]
      rw [a, e2]; omega
  refine ⟨fun k x hx => (get k x hx).1, ⟨fun i j x y hx hy hxy => ?_, fun k x hx => (get k x hx).2.1⟩, ⟨fun k j t ht hj => ?_, fun q => by cases q⟩, ?_⟩
  · rcases (get i x hx).2.2 with ⟨a1, a2, u, a3, a4⟩ | ⟨a1, a2⟩ <;> rcases (get j y hy).2.2 with ⟨b1, b2, v, b3, b4⟩ | ⟨b1, b2⟩
    · exact hP.2.1.1 i j u v a3 b3 (by rw [← a4, ← b4]; exact hxy)
    · omega
    · omega
    · omega
  · by_cases c : k < T.1.length
    · have ht' : T.1[k]? = some t := by rw [← ht]; exact (List.getElem?_append_left c).symm
      rw [hk k (by omega)]
      exact zokc_X hX (hP.2.2.1.1 k j t ht' hj)
    · have ht' : ts[k - T.1.length]? = some t := by rw [← ht]; exact (List.getElem?_append_right (by omega)).symm
      obtain ⟨-, b, -⟩ := hn _ t ht'
      have e : T.1.length + (k - T.1.length) = k := by omega
      rw [e] at b
      exact b j hj
  · have hs := hP.2.2.2
    unfold zScr gL gXs at hs ⊢
    rw [← hX.2.1, hk (-2) (by omega), hk (-1) (by omega)]
    exact hs
section Make
variable {M : zM} {r : zB} {pc : Nat} {ls st : List zV} {T : zT} {h : zH} {Q : Option zV → zT → zH → Prop}
theorem zmade {p : Program} {l : Launch} {e : Env} {R : Room} {s : State} {m : MethodId} {args : Array Value} {below : List Frame} {meth : Method} {c : Code} {Qm : State → Prop} {G0 G : zG} {T0 : zT} {H1 : Heap} {locs1 : List Loc} {la : Array Slot} {ts : List (Nat × Nat)} {q pc' mc ms : Nat} {h' : zH}
    (C : zC M r Q p l e R s m args below meth c Qm G0 T0) (hX : zX T0 T G0 G) (hl : lv_has la M.2.2.1 (zlv G ls)) (hls : ∀ v ∈ ls, zok T v) (hst : ∀ v ∈ st, zok T v) (hts : 0 < ts.length)
    (hP1 : zP (zgx G T.1.length q) (T.1 ++ ts, false) h' H1) (hS1 : va_S (zAd G) s.heap H1 locs1)
    (k : zS M (r.1, r.2.1 + mc, r.2.2.1 + ms, r.2.2.2.1, r.2.2.2.2) pc' ls (zA T.1.length :: st) (T.1 ++ ts, false) h' Q) : W p l e R s m args below meth c H1 locs1 (r.2.1 + mc) (r.2.2.1 + ms) Qm (F0 m pc' la (.ref q :: st.map (zc G))) := by
  have hG : zX T (T.1 ++ ts, false) G (zgx G T.1.length q) := zX_gx
  have C' : zC M (r.1, r.2.1 + mc, r.2.2.1 + ms, r.2.2.2.1, r.2.2.2.2) Q p l e R s m args below meth c Qm G0 T0 := C
  have hW := k p l e R s m args below meth c Qm G0 T0 C' (zgx G T.1.length q) H1 locs1 la (hX.tr hG) hP1 (by rw [← zX_ad hG]; exact hS1) (by rw [← zX_lv hG hls]; exact hl) (fun v hv => zX_ok hG (hls v hv)) (List.forall_mem_cons.mpr ⟨by show (T.1.length : Int) < ((T.1 ++ ts).length : Nat); rw [List.length_append]; omega, fun v hv => zX_ok hG (hst v hv)⟩)
  rw [List.map_cons, ← zX_map hG hst, zc_pos (by omega), Int.toNat_natCast] at hW
  have e9 : (zgx G T.1.length q).2 T.1.length = q := zgx_at (i := 0)
  rw [e9] at hW
  exact hW
theorem zB_le {p : Program} {l : Launch} {e : Env} {R : Room} {s : State} {m : MethodId} {args : Array Value} {below : List Frame} {meth : Method} {c : Code} {Qm : State → Prop} {G0 G : zG} {T0 : zT} {H : Heap} {locs : List Loc} (C : zC M r Q p l e R s m args below meth c Qm G0 T0) (hX : zX T0 T G0 G) (hS : va_S (zAd G) s.heap H locs) : gB G ≤ H.size := Nat.le_trans (C.K hX).2.1.2.2 hS.1
theorem zS_new {ix ci n : Nat} {q : vw_C} {ty : Nat → FieldType} {kk : Int} {T' : zT} (hd : decode M.2.1 pc = .ok (.new ix, 3)) (hC : zCl ci q ty) (hcl : Cond.classLink M.1.cls ix q.1 ∈ lwg) (hin : Cond.instantiable q.1 q.2.2 ∈ lwg) (hini : Cond.initialized q.1 ∈ lwg) (hci : decide (ci < 20) = true) (hz : ∀ j, j < q.2.2 → zF ci j < 3 ∧ zdq (zF ci j) = defaultValue (ty j)) (hnn : q.2.2 = n) (hk : (T.1.length : Int) = kk) (hT' : (T.1 ++ [(ci, n)], false) = T') (hr : (Nat.ble (r.2.1 + 1) r.2.2.2.1 && Nat.ble (r.2.2.1 + n) r.2.2.2.2) = true) {rn : zB} (hrn : (r.1, r.2.1 + 1, r.2.2.1 + n, r.2.2.2.1, r.2.2.2.2) = rn)
    (k : zS M rn (pc + 3) ls (zA kk :: st) T' (zrow h kk (zdf ci)) Q) : zS M r pc ls st T h Q := by
  intro p l e R s m args below meth c Qm G0 T0 C G H locs la hX hP hS hl hls hst
  subst hT'; subst hk; subst hnn; subst hrn
  rw [Bool.and_eq_true] at hr
  have hr1 := Nat.le_of_ble_eq_true hr.1
  have hr2 := Nat.le_of_ble_eq_true hr.2
  have hci := of_decide_eq_true hci
  obtain ⟨h1, h2, h3, h4⟩ := hC
  have hK := C.K hX
  have hKn := hK.1.1 ci q h1
  have hR := C.2.2.2.2.2.2.1
  have hts := C.2.2.2.2.1
  refine W.newcK (C := q.1) (n := q.2.2) C.1 C.2.1 C.2.2.2.1 (hts _ hcl) (hts _ hin) (hts _ hini) rfl hd (Nat.le_trans hr1 hR.2.2.1) (Nat.le_trans hr2 hR.2.2.2) hKn.2.1 rfl (fun H1 kC hkC e1 z1 o1 => ?_)
  refine zmade (ts := [(ci, q.2.2)]) (q := H.size) C hX hl hls hst (Nat.zero_lt_one) (hP.grow zX_gx (fun k hk => zrow_k (by omega)) o1 (zB_le C hX hS) (fun i t ht => ?_)) ⟨Nat.le_trans hS.1 (by omega), fun x a b => (o1 x (Nat.lt_of_lt_of_le a hS.1)).trans (hS.2.1 x a b), hS.2.2⟩ k
  have hi : i = 0 := by
    have := (List.getElem?_eq_some_iff.mp ht).1
    simp at this; exact this
  subst hi
  cases ht
  refine ⟨zgx_at, fun j hj => ?_, ?_⟩
  · rw [Nat.add_zero, zrow_s]
    unfold zokc
    rw [if_pos hci]
    obtain ⟨w1, -⟩ := hz j hj
    unfold zdf
    rw [Int.toNat_natCast]
    show zok _ (zF ci j, _)
    generalize zF ci j = tg at w1
    match tg, w1 with
    | 0, _ => exact zR0
    | 1, _ => exact zR_l zR0
    | 2, _ => show (-1 : Int) < ((_ : List (Nat × Nat)).length : Nat); omega
  · rw [Nat.add_zero, Nat.add_zero, zrow_s, zE_obj hci]
    refine ⟨q, h1, ?_⟩
    have ob := u_born ty hts h2 hKn hkC e1 h3
    refine ob.to (fun j hj => ?_)
    obtain ⟨w1, w2⟩ := hz j hj
    show defaultValue (ty j) = vp_V _ j
    rw [← w2]
    show zdq (zF ci j) = ((List.range q.2.2).map (fun j : Nat => zc (zgx G T.1.length H.size) (zF ci j, zdf ci j))).getD j .null
    rw [List.getD_eq_getElem?_getD, List.getElem?_map, List.getElem?_range hj]
    show zdq (zF ci j) = zc (zgx G T.1.length H.size) (zF ci j, zdf ci j)
    unfold zdf
    rw [Int.toNat_natCast]
    generalize zF ci j = tg at w1
    match tg, w1 with
    | 0, _ => rfl
    | 1, _ => rfl
    | 2, _ => rfl
theorem zS_newarray {t n : Nat} {atype : ArrayType} {kk x : Int} {T' : zT} (hd : decode M.2.1 pc = .ok (.newarray atype, 2)) (htt : (t = 20 ∧ atype = .byte) ∨ (t = 21 ∧ atype = .int) ∨ (t = 22 ∧ atype = .long) ∨ (t = 23 ∧ atype = .boolean)) (harr : Cond.arrayClass (newarray.typeOf atype) ∈ lwg) (hx : (n : Int) = x) (hn : Nat.ble n 1000 = true) (hk : (T.1.length : Int) = kk) (hT' : (T.1 ++ [(t, n)], false) = T') (hr : (Nat.ble (r.2.1 + 1) r.2.2.2.1 && Nat.ble (r.2.2.1 + n) r.2.2.2.2) = true) {rn : zB} (hrn : (r.1, r.2.1 + 1, r.2.2.1 + n, r.2.2.2.1, r.2.2.2.2) = rn)
    (k : zS M rn (pc + 2) ls (zA kk :: st) T' (zrow h kk (fun _ => 0)) Q) : zS M r pc ls (zI x :: st) T h Q := by
  intro p l e R s m args below meth c Qm G0 T0 C G H locs la hX hP hS hl hls hst
  subst hT'; subst hk; subst hx; subst hrn
  rw [Bool.and_eq_true] at hr
  have hr1 := Nat.le_of_ble_eq_true hr.1
  have hr2 := Nat.le_of_ble_eq_true hr.2
  have hn := Nat.le_of_ble_eq_true hn
  obtain ⟨hv, hst⟩ := List.forall_mem_cons.mp hst
  have hv : zR (n : Int) := hv
  have hR := C.2.2.2.2.2.2.1
  have hts := C.2.2.2.2.1
  have hn0 : ¬ Int32.ofInt (n : Int) < 0 := fun q => by have := (zI_lt hv zR0).mp q; omega
  have hnN : (Int32.ofInt (n : Int)).toNatClampNeg = n := by show (Int32.ofInt (n : Int)).toInt.toNat = n; rw [zI_toInt hv]; omega
  have hcb : ∀ a : ArrayType, componentBytes (newarray.typeOf a) ≤ 8 := fun a => by cases a <;> decide
  have hby : n * componentBytes (newarray.typeOf atype) ≤ 536870912 := Nat.le_trans (Nat.mul_le_mul hn (hcb atype)) (by decide)
  rw [List.map_cons]
  refine va_newaK (atype := atype) C.1 C.2.1 (hts _ harr) rfl hd rfl hn0 hnN hby (Nat.le_trans hr1 hR.2.2.1) (Nat.le_trans hr2 hR.2.2.2) rfl (fun H1 cA e1 z1 o1 hAr hfc => ?_)
  refine zmade (ts := [(t, n)]) (q := H.size) C hX hl hls hst (Nat.zero_lt_one) (hP.grow zX_gx (fun k hk => zrow_k (by omega)) o1 (zB_le C hX hS) (fun i t' ht => ?_)) ⟨Nat.le_trans hS.1 (by omega), fun x a b => (o1 x (Nat.lt_of_lt_of_le a hS.1)).trans (hS.2.1 x a b), hS.2.2⟩ k
  have hi : i = 0 := by
    have := (List.getElem?_eq_some_iff.mp ht).1
    simp at this; exact this
  subst hi
  cases ht
  have hKt := (C.K hX).1.2
  refine ⟨zgx_at, fun j hj => ?_, ?_⟩
  · rw [Nat.add_zero, zrow_s]
    rcases htt with ⟨rfl, -⟩ | ⟨rfl, -⟩ | ⟨rfl, -⟩ | ⟨rfl, -⟩
    · show (-128 : Int) ≤ 0 ∧ (0 : Int) < 128; omega
    · exact zR0
    · exact zR_l zR0
    · show (0 : Int) ≤ 0 ∧ (0 : Int) < 2; omega
  · rw [Nat.add_zero, Nat.add_zero, zrow_s]
    rcases htt with ⟨rfl, rfl⟩ | ⟨rfl, rfl⟩ | ⟨rfl, rfl⟩ | ⟨rfl, rfl⟩
    · have e2 : gY G 20 = cA := Option.some.inj ((hKt 0 _ rfl).2.symm.trans hfc)
      show H1[H.size]? = some (arrV (gY G 20) n (fun j => .int (Int32.ofInt 0)))
      rw [e2]; exact e1
    · have e2 : gY G 21 = cA := Option.some.inj ((hKt 1 _ rfl).2.symm.trans hfc)
      show H1[H.size]? = some (arrV (gY G 21) n (fun j => .int (Int32.ofInt 0)))
      rw [e2]; exact e1
    · have e2 : gY G 22 = cA := Option.some.inj ((hKt 2 _ rfl).2.symm.trans hfc)
      show H1[H.size]? = some (arrV (gY G 22) n (fun j => .long (Int64.ofInt 0)))
      rw [e2]; exact e1
    · have e2 : gY G 23 = cA := Option.some.inj ((hKt 3 _ rfl).2.symm.trans hfc)
      show H1[H.size]? = some (arrV (gY G 23) n (fun j => .int (Int32.ofInt 0)))
      rw [e2]; exact e1
theorem zS_anewD {ix n : Nat} {kk x : Int} {T' : zT} (hd : decode M.2.1 pc = .ok (.anewarray ix, 3)) (hcl : Cond.classLink M.1.cls ix "PaymentRuns$Desk" ∈ lwg) (hx : (n : Int) = x) (hn : Nat.ble n 1000 = true) (hk : (T.1.length : Int) = kk) (hT' : (T.1 ++ [(24, n)], false) = T') (hr : (Nat.ble (r.2.1 + 1) r.2.2.2.1 && Nat.ble (r.2.2.1 + n) r.2.2.2.2) = true) {rn : zB} (hrn : (r.1, r.2.1 + 1, r.2.2.1 + n, r.2.2.2.1, r.2.2.2.2) = rn)
    (k : zS M rn (pc + 3) ls (zA kk :: st) T' (zrow h kk (fun _ => -1)) Q) : zS M r pc ls (zI x :: st) T h Q := by
  intro p l e R s m args below meth c Qm G0 T0 C G H locs la hX hP hS hl hls hst
  subst hT'; subst hk; subst hx; subst hrn
  rw [Bool.and_eq_true] at hr
  have hr1 := Nat.le_of_ble_eq_true hr.1
  have hr2 := Nat.le_of_ble_eq_true hr.2
  have hn := Nat.le_of_ble_eq_true hn
  obtain ⟨hv, hst⟩ := List.forall_mem_cons.mp hst
  have hv : zR (n : Int) := hv
  have hR := C.2.2.2.2.2.2.1
  have hts := C.2.2.2.2.1
  have hn0 : ¬ Int32.ofInt (n : Int) < 0 := fun q => by have := (zI_lt hv zR0).mp q; omega
  have hnN : (Int32.ofInt (n : Int)).toNatClampNeg = n := by show (Int32.ofInt (n : Int)).toInt.toNat = n; rw [zI_toInt hv]; omega
  rw [List.map_cons]
  have hxx := (C.K hX).2.2.2.2.2.2.2.2
  refine W.anew (C := "PaymentRuns$Desk") C.1 C.2.1 C.2.2.2.1 (hts _ hcl) (va_AO.use hxx.1) rfl hd rfl hn0 (by rw [hnN]; omega) (Nat.le_trans hr1 hR.2.2.1) (by rw [hnN]; exact Nat.le_trans hr2 hR.2.2.2) (fun cA kA comp f1 f2 f3 f4 => ?_)
  rw [hnN]
  generalize hH1 : H.push ({ cls := cA, slots := Array.replicate n .null, vm := .none } : Cell) = H1
  have z1 : H1.size = H.size + 1 := by rw [← hH1, Array.size_push]
  have e1 : H1[H.size]? = some (arrV cA n (fun _ => .null)) := by rw [← hH1, Array.getElem?_push_size, ← arrV_new]
  have o1 : ∀ q : Nat, q < H.size → H1[q]? = H[q]? := fun q hq => by rw [← hH1, Array.getElem?_push, if_neg (Nat.ne_of_lt hq)]
  refine zmade (ts := [(24, n)]) (q := H.size) C hX hl hls hst (Nat.zero_lt_one) (hP.grow zX_gx (fun k hk => zrow_k (by omega)) o1 (zB_le C hX hS) (fun i t' ht => ?_)) ⟨Nat.le_trans hS.1 (by omega), fun x a b => (o1 x (Nat.lt_of_lt_of_le a hS.1)).trans (hS.2.1 x a b), hS.2.2⟩ k
  have hi : i = 0 := by
    have := (List.getElem?_eq_some_iff.mp ht).1
    simp at this; exact this
  subst hi
  cases ht
  refine ⟨zgx_at, fun j hj => ?_, ?_⟩
  · rw [Nat.add_zero, zrow_s]
    show (-1 : Int) < ((_ : List (Nat × Nat)).length : Nat); omega
  · rw [Nat.add_zero, Nat.add_zero, zrow_s]
    obtain ⟨kA', comp', g1, g2, g3, g4⟩ := ((C.K hX).1.2 4 _ rfl).2
    have e2 : gY G 24 = cA := Option.some.inj (g4.symm.trans f1)
    show H1[H.size]? = some (arrV (gY G 24) n (fun j => .null))
    rw [e2]; exact e1
/-- rows in a row: the places kk + 1, kk + 2 .. -/
def zmul (h : zH) (kk : Int) (K : Int) : zH := fun a b => if a = kk then (if 0 ≤ b ∧ b < K then kk + 1 + b else -1) else if kk < a ∧ a ≤ kk + K then 0 else h a b
theorem zS_multi {ix n w : Nat} {ty : FieldType} {kk x y : Int} {t t1 : Nat} {T' : zT} (hd : decode M.2.1 pc = .ok (.multianewarray ix 2, 4)) (htt : (t = 25 ∧ t1 = 21 ∧ ty = .int) ∨ (t = 26 ∧ t1 = 22 ∧ ty = .long)) (hcl : Cond.classLink M.1.cls ix ("[" ++ (FieldType.array ty).toString) ∈ lwg) (harr : Cond.arrayClass ty ∈ lwg) (hx : (n : Int) = x) (hy : (w : Int) = y) (hn : (Nat.ble n 1000 && Nat.ble w 1000) = true) (hk : (T.1.length : Int) = kk) (hT' : (T.1 ++ (t, n) :: List.replicate n (t1, w), false) = T') (hr : (Nat.ble (r.2.1 + (1 + n)) r.2.2.2.1 && Nat.ble (r.2.2.1 + (n + n * w)) r.2.2.2.2) = true) {rn : zB} (hrn : (r.1, r.2.1 + (1 + n), r.2.2.1 + (n + n * w), r.2.2.2.1, r.2.2.2.2) = rn)
    (k : zS M rn (pc + 4) ls (zA kk :: st) T' (zmul h kk x) Q) : zS M r pc ls (zI y :: zI x :: st) T h Q := by
  intro p l e R s m args below meth c Qm G0 T0 C G H locs la hX hP hS hl hls hst
  subst hT'; subst hk; subst hx; subst hy; subst hrn
  rw [Bool.and_eq_true] at hr hn
  have hr1 := Nat.le_of_ble_eq_true hr.1
  have hr2 := Nat.le_of_ble_eq_true hr.2
  have hn1 := Nat.le_of_ble_eq_true hn.1
  have hn2 := Nat.le_of_ble_eq_true hn.2
  obtain ⟨hw, hst⟩ := List.forall_mem_cons.mp hst
  obtain ⟨hv, hst⟩ := List.forall_mem_cons.mp hst
  have hv : zR (n : Int) := hv
  have hw : zR (w : Int) := hw
  have hR := C.2.2.2.2.2.2.1
  have hts := C.2.2.2.2.1
  have n0 : ∀ {n : Nat}, zR (n : Int) → ¬ Int32.ofInt (n : Int) < 0 := fun hv q => by have := (zI_lt hv zR0).mp q; omega
  have nN : ∀ {n : Nat}, zR (n : Int) → (Int32.ofInt (n : Int)).toNatClampNeg = n := fun {n} hv => by show (Int32.ofInt (n : Int)).toInt.toNat = n; rw [zI_toInt hv]; omega
  rw [List.map_cons, List.map_cons]
  have hxx := (C.K hX).2.2.2.2.2.2.2.2
  have hcb : w * componentBytes ty ≤ 536870912 ∧ fits ty (defaultValue ty) = true ∧ (defaultValue ty).isDefault = true ∧ (Cond.arrayOver (.array ty)).before args s = true := by
    rcases htt with ⟨-, -, rfl⟩ | ⟨-, -, rfl⟩
    · exact ⟨by show w * 4 ≤ _; omega, rfl, rfl, over_moved (Vm.Alike.refl _) hxx.2.1⟩
    · exact ⟨by show w * 8 ≤ _; omega, rfl, rfl, over_moved (Vm.Alike.refl _) hxx.2.2.1⟩
  refine zW_multi (own := M.1.cls) C.1 C.2.1 C.2.2.2.1 (hts _ hcl) hcb.2.2.2 (hts _ harr) hd (n0 hv) (n0 hw) (nN hv) (nN hw) (by omega) hcb.1 (by omega) hcb.2.1 hcb.2.2.1 (Nat.le_trans hr1 hR.2.2.1) (Nat.le_trans hr2 hR.2.2.2) (fun H1 locs1 cA comp f1 f2 z1 o1 e1 i1 hlc => ?_)
  have hB := zB_le C hX hS
  refine zmade (ts := (t, n) :: List.replicate n (t1, w)) (q := H.size) C hX hl hls hst (Nat.succ_pos _) (hP.grow zX_gx (fun k hk => ?_) o1 hB (fun i t' ht => ?_)) ⟨Nat.le_trans hS.1 (by omega), fun x a b => (o1 x (Nat.lt_of_lt_of_le a hS.1)).trans (hS.2.1 x a b), fun q hq => ?_⟩ k
  · funext b
    unfold zmul
    rw [if_neg (by omega), if_neg (by omega)]
  · match i, ht with
    | 0, ht =>
      cases ht
      have ez : ∀ j : Int, zmul h T.1.length n (T.1.length + 0 : Nat) j = (if 0 ≤ j ∧ j < n then (T.1.length : Int) + 1 + j else -1) := fun j => by
        unfold zmul; rw [if_pos (by omega)]
      refine ⟨zgx_at, fun j hj => ?_, ?_⟩
      · rw [ez, if_pos (by omega)]
        have hlen : ((T.1 ++ (t, n) :: List.replicate n (t1, w)).length : Int) = T.1.length + (1 + n) := by
          rw [List.length_append, List.length_cons, List.length_replicate]; omega
        rcases htt with ⟨rfl, -, -⟩ | ⟨rfl, -, -⟩
        · show (T.1.length : Int) + 1 + j < ((T.1 ++ (25, n) :: List.replicate n (t1, w)).length : Nat); omega
        · show (T.1.length : Int) + 1 + j < ((T.1 ++ (26, n) :: List.replicate n (t1, w)).length : Nat); omega
      · have fz : (fun j : Nat => va_rf (if zmul h T.1.length n (T.1.length + 0 : Nat) j < 0 then none else some ((zgx G T.1.length H.size).2 (zmul h T.1.length n (T.1.length + 0 : Nat) j).toNat))) = fun j : Nat => va_rf (if ¬ j < n then none else some (H.size + 1 + j)) := by
          funext j
          by_cases q : j < n
          · have ej : zmul h T.1.length n (T.1.length + 0 : Nat) j = (T.1.length : Int) + 1 + j := (ez j).trans (if_pos ⟨by omega, by omega⟩)
            rw [ej, if_neg (by omega), if_neg (fun u => u q)]
            have e3 : ((T.1.length : Int) + 1 + j).toNat = T.1.length + (1 + j) := by omega
            rw [e3, zgx_at, Nat.add_assoc]
          · have ej : zmul h T.1.length n (T.1.length + 0 : Nat) j = -1 := (ez j).trans (if_neg (fun u => q (by omega)))
            rw [ej, if_pos (by decide), if_pos q]
        have e1' : H1[H.size + 0]? = some (arrV cA n (fun j : Nat => va_rf (if ¬ j < n then none else some (H.size + 1 + j)))) := by
          rw [Nat.add_zero, e1]
          exact congrArg some (zarr_congr (fun j hj => by rw [if_neg (by omega)]; rfl))
        rcases htt with ⟨rfl, -, rfl⟩ | ⟨rfl, -, rfl⟩
        · have e2 : gY G 25 = cA := Option.some.inj (((C.K hX).1.2 5 _ rfl).2.symm.trans f1)
          show H1[H.size + 0]? = some (arrV (gY G 25) n (fun j : Nat => va_rf (if zmul h T.1.length n (T.1.length + 0 : Nat) j < 0 then none else some ((zgx G T.1.length H.size).2 (zmul h T.1.length n (T.1.length + 0 : Nat) j).toNat))))
          rw [fz, e2]; exact e1'
        · have e2 : gY G 26 = cA := Option.some.inj (((C.K hX).1.2 6 _ rfl).2.symm.trans f1)
          show H1[H.size + 0]? = some (arrV (gY G 26) n (fun j : Nat => va_rf (if zmul h T.1.length n (T.1.length + 0 : Nat) j < 0 then none else some ((zgx G T.1.length H.size).2 (zmul h T.1.length n (T.1.length + 0 : Nat) j).toNat))))
          rw [fz, e2]; exact e1'
    | i + 1, ht =>
      rw [List.getElem?_cons_succ, List.getElem?_replicate] at ht
      split at ht
      · rename_i hi
        cases ht
        have ez : zmul h T.1.length n (T.1.length + (i + 1) : Nat) = fun _ => 0 := by
          funext j
          unfold zmul
          rw [if_neg (by omega), if_pos (by omega)]
        refine ⟨zgx_at, fun j hj => ?_, ?_⟩
        · rw [ez]
          rcases htt with ⟨-, rfl, -⟩ | ⟨-, rfl, -⟩
          · exact zR0
          · exact zR_l zR0
        · rw [ez]
          have i2 := i1 i hi
          have e5 : H.size + (i + 1) = H.size + 1 + i := by omega
          rcases htt with ⟨-, rfl, rfl⟩ | ⟨-, rfl, rfl⟩
          · have e2 : gY G 21 = comp := Option.some.inj (((C.K hX).1.2 1 _ rfl).2.symm.trans f2)
            show H1[H.size + (i + 1)]? = some (arrV (gY G 21) w (fun j => .int (Int32.ofInt 0)))
            rw [e2, e5]; exact i2
          · have e2 : gY G 22 = comp := Option.some.inj (((C.K hX).1.2 2 _ rfl).2.symm.trans f2)
            show H1[H.size + (i + 1)]? = some (arrV (gY G 22) w (fun j => .long (Int64.ofInt 0)))
            rw [e2, e5]; exact i2
      · cases ht
  · rcases hlc q hq with g | g
    · exact hS.2.2 q g
    · show gB G ≤ q.base
      rw [g]; exact hB
theorem zS_aastoreD {n nv : Nat} {kk j v : Int} (hd : decode M.2.1 pc = .ok (.aastore, 1)) (ht : zAt T kk (24, n)) (hv : zAt T v (0, nv)) (h0 : 0 ≤ j) (h1 : j < n) (hT : T.2 = false) (k : zS M r (pc + 1) ls st T (zset h kk j v) Q) : zS M r pc ls (zA v :: zI j :: zA kk :: st) T h Q := by
  intro p l e R s m args below meth c Qm G0 T0 C G H locs la hX hP hS hl hls hst
  obtain ⟨hk0, ht⟩ := ht
  obtain ⟨a, rfl⟩ := Int.eq_ofNat_of_zero_le hk0
  obtain ⟨b, rfl⟩ := Int.eq_ofNat_of_zero_le h0
  obtain ⟨hv0, hv⟩ := hv
  obtain ⟨u, rfl⟩ := Int.eq_ofNat_of_zero_le hv0
  simp only [Int.toNat_natCast] at ht hv
  obtain ⟨hvv, hst⟩ := List.forall_mem_cons.mp hst
  obtain ⟨hj, hst⟩ := zst_in hst
  obtain ⟨hin, hcl⟩ := zI_idx hj h0 h1
  have hw := zw_at (G := G) (h := h) ht
  have hwv := zw_at (G := G) (h := h) hv
  rw [zE_q (Or.inl rfl)] at hw
  rw [zE_obj (by decide)] at hwv
  rw [List.map_cons, List.map_cons, List.map_cons, zc_pos (by omega), zc_pos (by omega), Int.toNat_natCast, Int.toNat_natCast]
  refine va_astq (r := (RX0, TX0, 16)) C.1 C.2.1 (C.K hX).1 hP.1 hP.2.1 hS a 4 u 0 hw rfl hwv rfl hin hd (fun H1 locs1 hP1 hD1 hS1 => ?_)
  rw [hcl, Int.toNat_natCast, zast_q (Or.inl rfl) ht] at hP1 hD1
  exact k p l e R s m args below meth c Qm G0 T0 C G H1 locs1 la hX ⟨hP1, hD1, zokh_set hP.2.2.1 ht (show zokc T (24, n) b u from hvv) (fun q => by rw [hT] at q; cases q), hP.2.2.2.set⟩ hS1 hl hls hst
theorem zS_ctor {ix n d' mc ms : Nat} {M' : zM} {kk : Int} {As : List zV} {Q1 : Option zV → zT → zH → Prop} (hd : decode M.2.1 pc = .ok (.invokespecial ix, 3)) (hl1 : Cond.methodLink M.1.cls ix M'.1 ∈ lwg) (hL : zLi M' n) (hk0 : 0 ≤ kk) (hn : As.length = n) (hw : (st.map zcat).sum ≤ 8) (hdd : d' + 1 ≤ r.1)
    (hM : zMet d' mc ms M' (zA kk :: As) T h Q1) (hmc : r.2.1 + mc ≤ r.2.2.2.1 ∧ r.2.2.1 + ms ≤ r.2.2.2.2)
    (k : ∀ rv T' h', Q1 rv T' h' → zSame h h' → zS M (r.1, r.2.1 + mc, r.2.2.1 + ms, r.2.2.2.1, r.2.2.2.2) (pc + 3) ls (rv.toList ++ st) T' h' Q) : zS M r pc ls (As.reverse ++ zA kk :: st) T h Q := by
  intro p l e R s m args below meth c Qm G0 T0 C G H locs la hX hP hS hl hls hst
  obtain ⟨a, rfl⟩ := Int.eq_ofNat_of_zero_le hk0
  have hAs : ∀ v ∈ As, zok T v := fun v hv => hst v (List.mem_append_left _ (List.mem_reverse.mpr hv))
  have hA : ∀ v ∈ zA a :: As, zok T v := List.forall_mem_cons.mpr ⟨hst _ (List.mem_append_right _ List.mem_cons_self), hAs⟩
  have hst : ∀ v ∈ st, zok T v := fun v hv => hst v (List.mem_append_right _ (List.mem_cons_of_mem _ hv))
  have hR := C.2.2.2.2.2.2.1
  have hts := C.2.2.2.2.1
  refine zgo (Q1 := Q1) (a := (Value.ref (G.2 a) :: As.map (zc G)).toArray) C hX hP hS hl hls hst (va_runI (As := As.map (zc G)) (b := G.2 a) (Ts := lwg) ⟨C.1, C.2.1, C.2.2.1, C.2.2.2.1, C.2.2.2.2.1⟩ (hM l G)
    (cwI n C.2.2.2.2.1 (zgood (zws_in hL.1)) (by unfold zws; rw [hL.2.2.2]) rfl rfl (hts _ hL.1.2.1) (hts _ hl1) (hts _ hL.2.1) hL.2.2.1 hL.1.2.2.1 (zroom hdd ⟨hR.1, hR.2.1⟩ hL.1.2.2.2)) ⟨zPc_blind, fun U hU hW => ?_⟩ rfl (by rw [List.length_map]; exact hn) hl.1 ?_ (lv_room (zcat_le hw)) hd ⟨Nat.le_trans hmc.1 hR.2.2.1, Nat.le_trans hmc.2 hR.2.2.2⟩) k
  · have := zpre C hX hP hS hA U hU hW
    rw [List.map_cons, zc_pos (by omega), Int.toNat_natCast] at this
    exact this
  · show List.map (zc G) (As.reverse ++ zA a :: st) = _
    rw [List.map_append, List.map_cons, List.map_reverse, zc_pos (by omega), Int.toNat_natCast]
theorem zS_ctorN {ix d' mc ms : Nat} {M' : zM} {kk : Int} {Q1 : Option zV → zT → zH → Prop} (hd : decode M.2.1 pc = .ok (.invokespecial ix, 3)) (hc : M.1.cls = "PaymentRuns") (hix : (ix = 62 ∧ M'.1 = ⟨"PaymentRuns$Shares", "<init>", "()V"⟩) ∨ (ix = 76 ∧ M'.1 = ⟨"PaymentRuns$Odds", "<init>", "()V"⟩)) (hL : zLi M' 0) (hk0 : 0 ≤ kk) (hw : (st.map zcat).sum ≤ 8) (hdd : d' + 1 ≤ r.1)
    (hM : zMet d' mc ms M' [zA kk] T h Q1) (hmc : r.2.1 + mc ≤ r.2.2.2.1 ∧ r.2.2.1 + ms ≤ r.2.2.2.2)
    (k : ∀ rv T' h', Q1 rv T' h' → zSame h h' → zS M (r.1, r.2.1 + mc, r.2.2.1 + ms, r.2.2.2.1, r.2.2.2.2) (pc + 3) ls (rv.toList ++ st) T' h' Q) : zS M r pc ls (zA kk :: st) T h Q := by
  intro p l e R s m args below meth c Qm G0 T0 C G H locs la hX hP hS hl hls hst
  obtain ⟨a, rfl⟩ := Int.eq_ofNat_of_zero_le hk0
  have hA : ∀ v ∈ [zA a], zok T v := List.forall_mem_cons.mpr ⟨(List.forall_mem_cons.mp hst).1, fun v hv => by cases hv⟩
  have hst : ∀ v ∈ st, zok T v := (List.forall_mem_cons.mp hst).2
  have hR := C.2.2.2.2.2.2.1
  have hts := C.2.2.2.2.1
  have hxx := (C.K hX).2.2.2.2.2.2.2.2
  have hnw : va_Nw (.methodLinkNest M.1.cls ix M'.1 "PaymentRuns") s := by
    rw [hc]
    rcases hix with ⟨rfl, e⟩ | ⟨rfl, e⟩
    · rw [e]; exact hxx.2.2.2.1
    · rw [e]; exact hxx.2.2.2.2
  refine zgo (Q1 := Q1) (a := (Value.ref (G.2 a) :: ([] : List Value)).toArray) C hX hP hS hl hls hst (va_runIN (As := []) (b := G.2 a) (Ts := lwg) ⟨C.1, C.2.1, C.2.2.1, C.2.2.2.1, C.2.2.2.2.1⟩ (hM l G)
    ⟨va_cnB 0 C.2.2.2.2.1 (zgood (zws_in hL.1)) (by unfold zws; rw [hL.2.2.2]) rfl rfl hnw (hts _ hL.1.2.1) hL.1.2.2.1 (zroom hdd ⟨hR.1, hR.2.1⟩ hL.1.2.2.2), hL.2.2.1, hts _ hL.2.1⟩ ⟨zPc_blind, fun U hU hW => ?_⟩ rfl rfl hl.1 ?_ (lv_room (zcat_le hw)) hd ⟨Nat.le_trans hmc.1 hR.2.2.1, Nat.le_trans hmc.2 hR.2.2.2⟩) k
  · have := zpre C hX hP hS hA U hU hW
    rw [List.map_cons, zc_pos (by omega), Int.toNat_natCast] at this
    exact this
  · show List.map (zc G) (zA a :: st) = _
    rw [List.map_cons, zc_pos (by omega), Int.toNat_natCast]
    rfl
theorem zS_objInit {ix : Nat} {kk : Int} (hd : decode M.2.1 pc = .ok (.invokespecial ix, 3)) (hl1 : Cond.methodLink M.1.cls ix Lib.objectInit ∈ lwg) (hi : Cond.instanceMethod Lib.objectInit ∈ lwg) (hcd : Cond.code Lib.objectInit ⟨#[0xb1]⟩ 1 none ∈ lwg) (hk0 : 0 ≤ kk) (hw : Nat.ble (st.map zcat).sum 8 = true) (hdd : 1 ≤ r.1) (k : zS M r (pc + 3) ls st T h Q) : zS M r pc ls (zA kk :: st) T h Q := by
  intro p l e R s m args below meth c Qm G0 T0 C G H locs la hX hP hS hl hls hst
  have hst := (List.forall_mem_cons.mp hst).2
  have hR := C.2.2.2.2.2.2.1
  have hts := C.2.2.2.2.1
  rw [List.map_cons, zc_pos hk0]
  exact W.objInit C.1 C.2.1 C.2.2.2.1 (hts _ hl1) (hts _ hi) (hts _ hcd) rfl (hl.1.trans C.2.2.1.symm) rfl hd (Nat.le_trans hdd hR.1) (by
    show 2 * 0 + _ + 12 ≤ R.locals
    have := zsum (G := G) (n := 12) hw hdd hR.2.1 (by decide)
    omega) (k p l e R s m args below meth c Qm G0 T0 C G H locs la hX hP hS hl hls hst)
theorem zS_ctorV {ix d' mc ms : Nat} {M' : zM} {kk : Int} {T1 : zT} {h1 : zH} {rn : zB} (hd : decode M.2.1 pc = .ok (.invokespecial ix, 3)) (hl1 : Cond.methodLink M.1.cls ix M'.1 ∈ lwg) (hL : zLi M' 0) (hk0 : decide (0 ≤ kk) = true) (hw : Nat.ble (st.map zcat).sum 8 = true) (hdd : d' + 1 ≤ r.1)
    (hM : zMet d' mc ms M' [zA kk] T h (fun rv T' h' => rv = none ∧ T' = T1 ∧ h' = h1)) (hmc : (Nat.ble (r.2.1 + mc) r.2.2.2.1 && Nat.ble (r.2.2.1 + ms) r.2.2.2.2) = true) (hrn : (r.1, r.2.1 + mc, r.2.2.1 + ms, r.2.2.2.1, r.2.2.2.2) = rn)
    (k : zS M rn (pc + 3) ls st T1 h1 Q) : zS M r pc ls (zA kk :: st) T h Q := by
  rw [Bool.and_eq_true] at hmc
  subst hrn
  exact zS_ctor (As := []) hd hl1 hL (of_decide_eq_true hk0) rfl (Nat.le_of_ble_eq_true hw) hdd hM ⟨Nat.le_of_ble_eq_true hmc.1, Nat.le_of_ble_eq_true hmc.2⟩ (fun rv T' h' q _ => by obtain ⟨rfl, rfl, rfl⟩ := q; exact k)
theorem zS_ctorNV {ix d' mc ms : Nat} {M' : zM} {kk : Int} {T1 : zT} {h1 : zH} {rn : zB} (hd : decode M.2.1 pc = .ok (.invokespecial ix, 3)) (hc : M.1.cls = "PaymentRuns") (hix : (ix = 62 ∧ M'.1 = ⟨"PaymentRuns$Shares", "<init>", "()V"⟩) ∨ (ix = 76 ∧ M'.1 = ⟨"PaymentRuns$Odds", "<init>", "()V"⟩)) (hL : zLi M' 0) (hk0 : decide (0 ≤ kk) = true) (hw : Nat.ble (st.map zcat).sum 8 = true) (hdd : d' + 1 ≤ r.1)
    (hM : zMet d' mc ms M' [zA kk] T h (fun rv T' h' => rv = none ∧ T' = T1 ∧ h' = h1)) (hmc : (Nat.ble (r.2.1 + mc) r.2.2.2.1 && Nat.ble (r.2.2.1 + ms) r.2.2.2.2) = true) (hrn : (r.1, r.2.1 + mc, r.2.2.1 + ms, r.2.2.2.1, r.2.2.2.2) = rn)
    (k : zS M rn (pc + 3) ls st T1 h1 Q) : zS M r pc ls (zA kk :: st) T h Q := by
  rw [Bool.and_eq_true] at hmc
  subst hrn
  exact zS_ctorN hd hc hix hL (of_decide_eq_true hk0) (Nat.le_of_ble_eq_true hw) hdd hM ⟨Nat.le_of_ble_eq_true hmc.1, Nat.le_of_ble_eq_true hmc.2⟩ (fun rv T' h' q _ => by obtain ⟨rfl, rfl, rfl⟩ := q; exact k)
/-- all is made: from now on the cells are TT -/
theorem zS_seal (hs : zSh h) (k : zS M r pc ls st TT h Q) : zS M r pc ls st (TTl, false) h Q := by
  intro p l e R s m args below meth c Qm G0 T0 C G H locs la hX hP hS hl hls hst
  exact k p l e R s m args below meth c Qm G0 T0 C G H locs la hX ⟨hP.1, hP.2.1, ⟨hP.2.2.1.1, fun _ => ⟨rfl, hs⟩⟩, hP.2.2.2⟩ hS hl hls hst
end Make

theorem r_isFirst {d : Nat} {h : zH} {p : Pb} {a b : Int} (hd : 2 ≤ d) (V : PV p) (R : WR h p) (a0 : 0 ≤ a) (a1 : a < pNb p) (b0 : 0 ≤ b) (b1 : b < pNb p) : zPI d mX10_isFirst [zA 108, zI a, zI b] h (b2i (ahP p a b)) := by
  have nb := V.nb
  have g1 := gainB V a0 a1
  have g2 := gainB V b0 b1
  have s1 := spanB V a0 a1
  have s2 := spanB V b0 b1
  have n1 := V.net a0 a1
  have n2 := V.net b0 b1
  have o1 := V.of' a0 a1
  have o2 := V.of' b0 b1
  have m1 := mulB g1.1 (show gainP p a ≤ 750 by omega) (show 0 ≤ spanP p b by omega) s2.2
  have m2 := mulB g2.1 (show gainP p b ≤ 750 by omega) (show 0 ≤ spanP p a by omega) s1.2
  refine zmet rfl rfl rfl ?_
  refine zS_aload_n (zdec eX10_isFirst 0 rfl) rfl rfl ?_
  refine zS_getfieldE (x := 23) (v := (pLaw p)) (zdec eX10_isFirst 1 rfl) kF_X10_246 ⟨by decide, rfl⟩ rfl rfl rfl R.law ?_
  refine zS_if_ne (tgt := 44) (zdec eX10_isFirst 2 rfl) rfl (fun c1 => ?_) (fun c1 => ?_)
  · refine zS_aload_n (zdec eX10_isFirst 26 rfl) rfl rfl ?_
    refine zS_getfieldE (x := 23) (v := (pLaw p)) (zdec eX10_isFirst 27 rfl) kF_X10_246 ⟨by decide, rfl⟩ rfl rfl rfl R.law ?_
    refine zS_iconst (zdec eX10_isFirst 28 rfl) rfl ?_
    refine zS_icmp_ne (tgt := 83) (zdec eX10_isFirst 29 rfl) rfl (fun c2 => ?_) (fun c2 => ?_)
    · refine zS_aload_n (zdec eX10_isFirst 49 rfl) rfl rfl ?_
      refine zS_getfieldE (x := 23) (v := (pLaw p)) (zdec eX10_isFirst 50 rfl) kF_X10_246 ⟨by decide, rfl⟩ rfl rfl rfl R.law ?_
      refine zS_iconst (zdec eX10_isFirst 51 rfl) rfl ?_
      refine zS_icmp_ne (tgt := 124) (zdec eX10_isFirst 52 rfl) rfl (fun c3 => ?_) (fun c3 => ?_)
      · refine zS_aload_n (zdec eX10_isFirst 74 rfl) rfl rfl ?_
        refine zS_getref (i := 68) (zdec eX10_isFirst 75 rfl) kF_X10_56 ⟨by decide, rfl⟩ rfl rfl rfl rfl rfl ?_
        refine zS_iload_n (zdec eX10_isFirst 76 rfl) rfl ?_
        refine zS_ialoadE (v := (pNet p a)) (zdec eX10_isFirst 77 rfl) ⟨by decide, rfl⟩ (by omega) (by omega) (R.net (by omega) (by omega)) ?_
        refine zS_aload_n (zdec eX10_isFirst 78 rfl) rfl rfl ?_
        refine zS_getref (i := 68) (zdec eX10_isFirst 79 rfl) kF_X10_56 ⟨by decide, rfl⟩ rfl rfl rfl rfl rfl ?_
        refine zS_iload_n (zdec eX10_isFirst 80 rfl) rfl ?_
        refine zS_ialoadE (v := (pNet p b)) (zdec eX10_isFirst 81 rfl) ⟨by decide, rfl⟩ (by omega) (by omega) (R.net (by omega) (by omega)) ?_
        refine zS_icmp_ge (tgt := 143) (zdec eX10_isFirst 82 rfl) rfl (fun c4 => ?_) (fun c4 => ?_)
        · refine zS_iconst (zdec eX10_isFirst 85 rfl) rfl ?_
          exact zlZ (zdec eX10_isFirst 86 rfl) rfl (Or.inl rfl) (by unfold ahP; rw [if_neg (by omega), if_neg (by omega), if_neg (by omega)]; rw [decide_eq_false (by omega)]; rfl)
        · refine zS_iconst (zdec eX10_isFirst 83 rfl) rfl ?_
          refine zS_goto (tgt := 144) (zdec eX10_isFirst 84 rfl) rfl ?_
          exact zlZ (zdec eX10_isFirst 86 rfl) rfl (Or.inr rfl) (by unfold ahP; rw [if_neg (by omega), if_neg (by omega), if_neg (by omega)]; rw [decide_eq_true (by omega)]; rfl)
      · refine zS_aload_n (zdec eX10_isFirst 53 rfl) rfl rfl ?_
        refine zS_getref (i := 63) (zdec eX10_isFirst 54 rfl) kF_X10_40 ⟨by decide, rfl⟩ rfl rfl rfl rfl rfl ?_
        refine zS_bipush (zdec eX10_isFirst 55 rfl) rfl rfl ?_
        refine zS_iload_n (zdec eX10_isFirst 56 rfl) rfl ?_
        refine zS_imul (zdec eX10_isFirst 57 rfl) ⟨by omega, by omega⟩ ?_
        refine zS_iconst (zdec eX10_isFirst 58 rfl) rfl ?_
        refine zS_iadd (zdec eX10_isFirst 59 rfl) ⟨by omega, by omega⟩ ?_
        refine zS_ialoadE (v := (pDue p a)) (zdec eX10_isFirst 60 rfl) ⟨by decide, rfl⟩ (by omega) (by omega) (R.due (by omega) (by omega)) ?_
        refine zS_aload_n (zdec eX10_isFirst 61 rfl) rfl rfl ?_
        refine zS_getref (i := 63) (zdec eX10_isFirst 62 rfl) kF_X10_40 ⟨by decide, rfl⟩ rfl rfl rfl rfl rfl ?_
        refine zS_bipush (zdec eX10_isFirst 63 rfl) rfl rfl ?_
        refine zS_iload_n (zdec eX10_isFirst 64 rfl) rfl ?_
        refine zS_imul (zdec eX10_isFirst 65 rfl) ⟨by omega, by omega⟩ ?_
        refine zS_iconst (zdec eX10_isFirst 66 rfl) rfl ?_
        refine zS_iadd (zdec eX10_isFirst 67 rfl) ⟨by omega, by omega⟩ ?_
        refine zS_ialoadE (v := (pDue p b)) (zdec eX10_isFirst 68 rfl) ⟨by decide, rfl⟩ (by omega) (by omega) (R.due (by omega) (by omega)) ?_
        refine zS_icmp_ge (tgt := 120) (zdec eX10_isFirst 69 rfl) rfl (fun c4 => ?_) (fun c4 => ?_)
        · refine zS_iconst (zdec eX10_isFirst 72 rfl) rfl ?_
          refine zS_goto (tgt := 144) (zdec eX10_isFirst 73 rfl) rfl ?_
          exact zlZ (zdec eX10_isFirst 86 rfl) rfl (Or.inl rfl) (by unfold ahP; rw [if_neg (by omega), if_neg (by omega), if_pos (by omega)]; rw [decide_eq_false (by omega)]; rfl)
        · refine zS_iconst (zdec eX10_isFirst 70 rfl) rfl ?_
          refine zS_goto (tgt := 144) (zdec eX10_isFirst 71 rfl) rfl ?_
          exact zlZ (zdec eX10_isFirst 86 rfl) rfl (Or.inr rfl) (by unfold ahP; rw [if_neg (by omega), if_neg (by omega), if_pos (by omega)]; rw [decide_eq_true (by omega)]; rfl)
    · refine zS_aload_n (zdec eX10_isFirst 30 rfl) rfl rfl ?_
      refine zS_iload_n (zdec eX10_isFirst 31 rfl) rfl ?_
      refine zvI (M' := mX10_offOf) (As := [zI a]) (st := []) (zdec eX10_isFirst 32 rfl) kM_X10_271 kV_X10_offOf ⟨by decide, rfl⟩ rfl rfl rfl rfl rfl (by omega) (r_offOf V R (by omega) (by omega)) ?_
      refine zS_aload_n (zdec eX10_isFirst 33 rfl) rfl rfl ?_
      refine zS_iload_n (zdec eX10_isFirst 34 rfl) rfl ?_
      refine zvI (M' := mX10_spanOf) (As := [zI b]) (st := [zI (gainP p a)]) (zdec eX10_isFirst 35 rfl) kM_X10_295 kV_X10_spanOf ⟨by decide, rfl⟩ rfl rfl rfl rfl rfl (by omega) (r_spanOf (by omega) V R (by omega) (by omega)) ?_
      refine zS_imul (zdec eX10_isFirst 36 rfl) ⟨by omega, by omega⟩ ?_
      refine zS_aload_n (zdec eX10_isFirst 37 rfl) rfl rfl ?_
      refine zS_iload_n (zdec eX10_isFirst 38 rfl) rfl ?_
      refine zvI (M' := mX10_offOf) (As := [zI b]) (st := [zI ((gainP p a) * (spanP p b))]) (zdec eX10_isFirst 39 rfl) kM_X10_271 kV_X10_offOf ⟨by decide, rfl⟩ rfl rfl rfl rfl rfl (by omega) (r_offOf V R (by omega) (by omega)) ?_
      refine zS_aload_n (zdec eX10_isFirst 40 rfl) rfl rfl ?_
      refine zS_iload_n (zdec eX10_isFirst 41 rfl) rfl ?_
      refine zvI (M' := mX10_spanOf) (As := [zI a]) (st := [zI (gainP p b), zI ((gainP p a) * (spanP p b))]) (zdec eX10_isFirst 42 rfl) kM_X10_295 kV_X10_spanOf ⟨by decide, rfl⟩ rfl rfl rfl rfl rfl (by omega) (r_spanOf (by omega) V R (by omega) (by omega)) ?_
      refine zS_imul (zdec eX10_isFirst 43 rfl) ⟨by omega, by omega⟩ ?_
      refine zS_icmp_le (tgt := 81) (zdec eX10_isFirst 44 rfl) rfl (fun c3 => ?_) (fun c3 => ?_)
      · refine zS_iconst (zdec eX10_isFirst 47 rfl) rfl ?_
        exact zlZ (zdec eX10_isFirst 48 rfl) rfl (Or.inl rfl) (by unfold ahP; rw [if_neg (by omega), if_pos (by omega)]; rw [decide_eq_false (by omega)]; rfl)
      · refine zS_iconst (zdec eX10_isFirst 45 rfl) rfl ?_
        refine zS_goto (tgt := 82) (zdec eX10_isFirst 46 rfl) rfl ?_
        exact zlZ (zdec eX10_isFirst 48 rfl) rfl (Or.inr rfl) (by unfold ahP; rw [if_neg (by omega), if_pos (by omega)]; rw [decide_eq_true (by omega)]; rfl)
  · refine zS_aload_n (zdec eX10_isFirst 3 rfl) rfl rfl ?_
    refine zS_getref (i := 62) (zdec eX10_isFirst 4 rfl) kF_X10_37 ⟨by decide, rfl⟩ rfl rfl rfl rfl rfl ?_
    refine zS_aload_n (zdec eX10_isFirst 5 rfl) rfl rfl ?_
    refine zS_getref (i := 63) (zdec eX10_isFirst 6 rfl) kF_X10_40 ⟨by decide, rfl⟩ rfl rfl rfl rfl rfl ?_
    refine zS_bipush (zdec eX10_isFirst 7 rfl) rfl rfl ?_
    refine zS_iload_n (zdec eX10_isFirst 8 rfl) rfl ?_
    refine zS_imul (zdec eX10_isFirst 9 rfl) ⟨by omega, by omega⟩ ?_
    refine zS_ialoadE (v := (pOf p a)) (zdec eX10_isFirst 10 rfl) ⟨by decide, rfl⟩ (by omega) (by omega) (R.of' (by omega) (by omega)) ?_
    refine zS_ialoadE (v := (pRk p a)) (zdec eX10_isFirst 11 rfl) ⟨by decide, rfl⟩ (by omega) (by omega) (R.rk (by omega) (by omega)) ?_
    refine zS_aload_n (zdec eX10_isFirst 12 rfl) rfl rfl ?_
    refine zS_getref (i := 62) (zdec eX10_isFirst 13 rfl) kF_X10_37 ⟨by decide, rfl⟩ rfl rfl rfl rfl rfl ?_
    refine zS_aload_n (zdec eX10_isFirst 14 rfl) rfl rfl ?_
    refine zS_getref (i := 63) (zdec eX10_isFirst 15 rfl) kF_X10_40 ⟨by decide, rfl⟩ rfl rfl rfl rfl rfl ?_
    refine zS_bipush (zdec eX10_isFirst 16 rfl) rfl rfl ?_
    refine zS_iload_n (zdec eX10_isFirst 17 rfl) rfl ?_
    refine zS_imul (zdec eX10_isFirst 18 rfl) ⟨by omega, by omega⟩ ?_
    refine zS_ialoadE (v := (pOf p b)) (zdec eX10_isFirst 19 rfl) ⟨by decide, rfl⟩ (by omega) (by omega) (R.of' (by omega) (by omega)) ?_
    refine zS_ialoadE (v := (pRk p b)) (zdec eX10_isFirst 20 rfl) ⟨by decide, rfl⟩ (by omega) (by omega) (R.rk (by omega) (by omega)) ?_
    refine zS_icmp_le (tgt := 42) (zdec eX10_isFirst 21 rfl) rfl (fun c2 => ?_) (fun c2 => ?_)
    · refine zS_iconst (zdec eX10_isFirst 24 rfl) rfl ?_
      exact zlZ (zdec eX10_isFirst 25 rfl) rfl (Or.inl rfl) (by unfold ahP; rw [if_pos (by omega)]; rw [decide_eq_false (by omega)]; rfl)
    · refine zS_iconst (zdec eX10_isFirst 22 rfl) rfl ?_
      refine zS_goto (tgt := 43) (zdec eX10_isFirst 23 rfl) rfl ?_
      exact zlZ (zdec eX10_isFirst 25 rfl) rfl (Or.inr rfl) (by unfold ahP; rw [if_pos (by omega)]; rw [decide_eq_true (by omega)]; rfl)
def remP (p : Pb) (l : List Int) (b : Int) : Bool := pIn p b && !decide (b ∈ l)
def selP (p : Pb) (l : List Int) (e x : Int) : Prop := (x = -1 ∧ ∀ b, 0 ≤ b → b < e → remP p l b = false) ∨ ((0 ≤ x ∧ x < e) ∧ remP p l x = true ∧ ∀ b, 0 ≤ b → b < e → remP p l b = true → b ≠ x → ltP p x b)
theorem sel_no {p : Pb} {l : List Int} {e x : Int} (h : selP p l e x) (hr : remP p l e = false) : selP p l (e + 1) x := by
  rcases h with ⟨h1, h2⟩ | ⟨h1, h2, h3⟩
  · refine Or.inl ⟨h1, fun b b0 b1 => ?_⟩
    by_cases w : b = e
    · rw [w]; exact hr
    · exact h2 b b0 (by omega)
  · refine Or.inr ⟨⟨h1.1, by omega⟩, h2, fun b b0 b1 br bn => ?_⟩
    by_cases w : b = e
    · rw [w, hr] at br; cases br
    · exact h3 b b0 (by omega) br bn
theorem sel_new {p : Pb} {l : List Int} {e : Int} (h0 : 0 ≤ e) (h : selP p l e (-1)) (hr : remP p l e = true) : selP p l (e + 1) e := by
  rcases h with ⟨_, h2⟩ | ⟨h1, _⟩
  · refine Or.inr ⟨⟨h0, by omega⟩, hr, fun b b0 b1 br bn => ?_⟩
    rw [h2 b b0 (by omega)] at br; cases br
  · omega
theorem sel_yes {p : Pb} (V : PV p) {l : List Int} {e x : Int} (h0 : 0 ≤ e) (h1 : e < pNb p) (h : selP p l e x) (hx : x ≠ -1) (hr : remP p l e = true) (ha : ahP p e x = true) : selP p l (e + 1) e := by
  rcases h with ⟨h2, _⟩ | ⟨h2, h3, h4⟩
  · exact absurd h2 hx
  · refine Or.inr ⟨⟨h0, by omega⟩, hr, fun b b0 b1 br bn => ?_⟩
    by_cases w : b = x
    · rw [w]; exact Or.inl ha
    · exact ltP_tr V ⟨h0, h1⟩ ⟨h2.1, by omega⟩ ⟨b0, by omega⟩ (Or.inl ha) (h4 b b0 (by omega) br w)
theorem sel_old {p : Pb} {l : List Int} {e x : Int} (h : selP p l e x) (hx : x ≠ -1) (ha : ahP p e x = false) : selP p l (e + 1) x := by
  rcases h with ⟨h2, _⟩ | ⟨h2, h3, h4⟩
  · exact absurd h2 hx
  · refine Or.inr ⟨⟨h2.1, by omega⟩, h3, fun b b0 b1 br bn => ?_⟩
    by_cases w : b = e
    · rw [w]; exact Or.inr ⟨ha, h2.2⟩
    · exact h4 b b0 (by omega) br bn
theorem rem_t {p : Pb} {l : List Int} {b : Int} : remP p l b = true ↔ pIn p b = true ∧ b ∉ l := by
  unfold remP
  rw [Bool.and_eq_true, Bool.not_eq_true', decide_eq_false_iff_not]
theorem rem_f {p : Pb} {l : List Int} {b : Int} (h : pIn p b = false ∨ b ∈ l) : remP p l b = false := by
  cases hh : remP p l b
  · rfl
  · have := rem_t.mp hh
    rcases h with h | h
    · rw [h] at this; cases this.1
    · exact absurd h this.2
theorem sel_none {p : Pb} (V : PV p) {i : Nat} (hi : i ≤ (ordP p).length) (h : selP p ((ordP p).take i) (pNb p) (-1)) : i = (ordP p).length := by
  rcases Nat.lt_or_ge i (ordP p).length with z | z
  · exfalso
    have is := ordP_is V
    have hm := getD_mem z
    have hb := (is.2 _).mp hm
    rcases h with ⟨_, h2⟩ | ⟨h1, _⟩
    · have := h2 _ hb.1 hb.2.1
      rw [rem_t.mpr ⟨hb.2.2, not_take is.1 z⟩] at this
      cases this
    · omega
  · omega
theorem pair_get {p : Pb} : ∀ {l : List Int}, l.Pairwise (ltP p) → ∀ {i j : Nat}, i < j → j < l.length → ltP p (l.getD i 0) (l.getD j 0)
  | [], _, i, j, _, h => by cases h
  | a :: l, hp, 0, j + 1, _, h => by
    have h' : j < l.length := by simpa using h
    exact (List.pairwise_cons.mp hp).1 _ (getD_mem h')
  | a :: l, hp, i + 1, j + 1, hij, h => by
    have h' : j < l.length := by simpa using h
    exact pair_get (List.pairwise_cons.mp hp).2 (by omega) h'
theorem sel_some {p : Pb} (V : PV p) {i : Nat} {x : Int} (hi : i ≤ (ordP p).length) (hx : x ≠ -1) (h : selP p ((ordP p).take i) (pNb p) x) : i < (ordP p).length ∧ (ordP p).getD i 0 = x := by
  have is := ordP_is V
  rcases h with ⟨h1, _⟩ | ⟨h1, h2, h3⟩
  · exact absurd h1 hx
  · have hr := rem_t.mp h2
    have hm : x ∈ ordP p := (is.2 x).mpr ⟨h1.1, h1.2, hr.1⟩
    have hd : x ∈ (ordP p).drop i := by
      have : x ∈ (ordP p).take i ++ (ordP p).drop i := by rw [List.take_append_drop]; exact hm
      exact (List.mem_append.mp this).resolve_left hr.2
    have hl : i < (ordP p).length := by
      rcases Nat.lt_or_ge i (ordP p).length with z | z
      · exact z
      · rw [List.drop_eq_nil_of_le z] at hd; cases hd
    refine ⟨hl, Decidable.byContradiction (fun ne => ?_)⟩
    have hy := getD_mem hl
    have yb := (is.2 _).mp hy
    have l1 := h3 _ yb.1 yb.2.1 (rem_t.mpr ⟨yb.2.2, not_take is.1 hl⟩) ne
    obtain ⟨j, hj, ej⟩ := List.mem_iff_getElem.mp hd
    rw [List.getElem_drop] at ej
    have hj' : i + j < (ordP p).length := by rw [List.length_drop] at hj; omega
    have ex : (ordP p).getD (i + j) 0 = x := by rw [List.getD_eq_getElem?_getD, List.getElem?_eq_getElem hj']; exact ej
    have jp : 0 < j := by
      rcases Nat.eq_zero_or_pos j with z | z
      · subst z; exact absurd ex ne
      · exact z
    have l2 := pair_get is.1 (show i < i + j by omega) hj'
    rw [ex] at l2
    exact ltP_as l1 l2
def OrdR (h : zH) (l : List Int) : Prop := h 108 34 = l.length ∧ ∀ i : Nat, i < l.length → h 125 i = l.getD i 0
def dnP (x : Int) (l : List Int) : Prop := (0 ≤ x ∧ x < 32) ∧ ∀ b, 0 ≤ b → b < 5 → bitB x b = decide (b ∈ l)
theorem L_turn1 {d : Nat} {h h1 : zH} {p : Pb} {l : List Int} {m i : Int} {Q : Option zV → zT → zH → Prop} (hd : 4 ≤ d) (V : PV p) (R : WR h1 p) (dn : dnP m l) (K : ∀ x, selP p l (pNb p) x → zS mX10_laysTurns (zr d) 73 [zA 108, zI m, zI i, zI x, zI (pNb p)] [] TT h1 Q) : ∀ (n : Nat) (e x : Int), 0 ≤ e → e + n = pNb p → selP p l e x → zS mX10_laysTurns (zr d) 22 [zA 108, zI m, zI i, zI x, zI e] [] TT h1 Q := by
  intro n
  induction n with
  | zero =>
    intro e x a1 a2 sl
    refine zS_iload (zdec eX10_laysTurns 15 rfl) rfl ?_
    refine zS_aload_n (zdec eX10_laysTurns 16 rfl) rfl rfl ?_
    refine zvI (M' := mX10_bills) (As := []) (st := [zI e]) (zdec eX10_laysTurns 17 rfl) kM_X10_236 kV_X10_bills ⟨by decide, rfl⟩ rfl rfl rfl rfl rfl (by omega) (r_bills R) ?_
    refine zS_icmp_ge (tgt := 73) (zdec eX10_laysTurns 18 rfl) rfl (fun cz => ?_) (fun cz => absurd (by omega) cz)
    rw [show e = pNb p by omega] at sl ⊢
    exact K x sl
  | succ n ih =>
    intro e x a1 a2 sl
    have nb := V.nb
    refine zS_iload (zdec eX10_laysTurns 15 rfl) rfl ?_
    refine zS_aload_n (zdec eX10_laysTurns 16 rfl) rfl rfl ?_
    refine zvI (M' := mX10_bills) (As := []) (st := [zI e]) (zdec eX10_laysTurns 17 rfl) kM_X10_236 kV_X10_bills ⟨by decide, rfl⟩ rfl rfl rfl rfl rfl (by omega) (r_bills R) ?_
    refine zS_icmp_ge (tgt := 73) (zdec eX10_laysTurns 18 rfl) rfl (fun cz => absurd cz (by omega)) (fun cz => ?_)
    refine zS_aload_n (zdec eX10_laysTurns 19 rfl) rfl rfl ?_
    refine zS_iload (zdec eX10_laysTurns 20 rfl) rfl ?_
    refine zvI (M' := mX10_isThere) (As := [zI e]) (st := []) (zdec eX10_laysTurns 21 rfl) kM_X10_277 kV_X10_isThere ⟨by decide, rfl⟩ rfl rfl rfl rfl rfl (by omega) (r_isThere (by omega) V R (by omega) (by omega)) ?_
    refine zS_if_eq (tgt := 67) (zdec eX10_laysTurns 22 rfl) rfl (fun c1 => ?_) (fun c1 => ?_)
    · have z1 := b2i_0.mp c1
      refine zS_iinc (zdec eX10_laysTurns 37 rfl) rfl rfl ⟨by omega, by omega⟩ ?_
      refine zS_goto (tgt := 22) (zdec eX10_laysTurns 38 rfl) rfl ?_
      exact ih (e + 1) x (by omega) (by omega) (sel_no sl (rem_f (Or.inl z1)))
    · have z1 := b2i_n.mp c1
      refine zS_iload_n (zdec eX10_laysTurns 23 rfl) rfl ?_
      refine zS_iload (zdec eX10_laysTurns 24 rfl) rfl ?_
      refine zsI (M' := mX10_isBit) (As := [zI m, zI e]) (st := []) (zdec eX10_laysTurns 25 rfl) kM_X10_264 kS_X10_isBit rfl rfl rfl (by omega) r_isBit ?_
      refine zS_if_ne (tgt := 67) (zdec eX10_laysTurns 26 rfl) rfl (fun c2 => ?_) (fun c2 => ?_)
      · have z2 := b2i_n.mp c2
        refine zS_iinc (zdec eX10_laysTurns 37 rfl) rfl rfl ⟨by omega, by omega⟩ ?_
        refine zS_goto (tgt := 22) (zdec eX10_laysTurns 38 rfl) rfl ?_
        exact ih (e + 1) x (by omega) (by omega) (sel_no sl (rem_f (Or.inr (of_decide_eq_true ((dn.2 e a1 (by omega)).symm.trans z2)))))
      · have z2 := b2i_0.mp c2
        refine zS_iload_n (zdec eX10_laysTurns 27 rfl) rfl ?_
        refine zS_iconst (zdec eX10_laysTurns 28 rfl) rfl ?_
        refine zS_icmp_eq (tgt := 64) (zdec eX10_laysTurns 29 rfl) rfl (fun c3 => ?_) (fun c3 => ?_)
        · refine zS_iload (zdec eX10_laysTurns 35 rfl) rfl ?_
          refine zS_istore_n (zdec eX10_laysTurns 36 rfl) rfl ?_
          refine zS_iinc (zdec eX10_laysTurns 37 rfl) rfl rfl ⟨by omega, by omega⟩ ?_
          refine zS_goto (tgt := 22) (zdec eX10_laysTurns 38 rfl) rfl ?_
          exact ih (e + 1) e (by omega) (by omega) (sel_new a1 (by rw [c3] at sl; exact sl) (rem_t.mpr ⟨z1, of_decide_eq_false ((dn.2 e a1 (by omega)).symm.trans z2)⟩))
        · have xr : 0 ≤ x ∧ x < e := by rcases sl with z | z; exact absurd z.1 c3; exact z.1
          refine zS_aload_n (zdec eX10_laysTurns 30 rfl) rfl rfl ?_
          refine zS_iload (zdec eX10_laysTurns 31 rfl) rfl ?_
          refine zS_iload_n (zdec eX10_laysTurns 32 rfl) rfl ?_
          refine zvI (M' := mX10_isFirst) (As := [zI e, zI x]) (st := []) (zdec eX10_laysTurns 33 rfl) kM_X10_301 kV_X10_isFirst ⟨by decide, rfl⟩ rfl rfl rfl rfl rfl (by omega) (r_isFirst (by omega) V R (by omega) (by omega) (by omega) (by omega)) ?_
          refine zS_if_eq (tgt := 67) (zdec eX10_laysTurns 34 rfl) rfl (fun c4 => ?_) (fun c4 => ?_)
          · have z4 := b2i_0.mp c4
            refine zS_iinc (zdec eX10_laysTurns 37 rfl) rfl rfl ⟨by omega, by omega⟩ ?_
            refine zS_goto (tgt := 22) (zdec eX10_laysTurns 38 rfl) rfl ?_
            exact ih (e + 1) x (by omega) (by omega) (sel_old sl c3 z4)
          · have z4 := b2i_n.mp c4
            refine zS_iload (zdec eX10_laysTurns 35 rfl) rfl ?_
            refine zS_istore_n (zdec eX10_laysTurns 36 rfl) rfl ?_
            refine zS_iinc (zdec eX10_laysTurns 37 rfl) rfl rfl ⟨by omega, by omega⟩ ?_
            refine zS_goto (tgt := 22) (zdec eX10_laysTurns 38 rfl) rfl ?_
            exact ih (e + 1) e (by omega) (by omega) (sel_yes V a1 (by omega) sl c3 (rem_t.mpr ⟨z1, of_decide_eq_false ((dn.2 e a1 (by omega)).symm.trans z2)⟩) z4)
theorem L_turns {d : Nat} {h : zH} {p : Pb} (hd : 4 ≤ d) (V : PV p) (R : WR h p) : ∀ (n : Nat) (i m : Int) (h1 : zH), 0 ≤ i → i + n = pNb p → i ≤ ((ordP p).length : Int) → dnP m ((ordP p).take i.toNat) → Fr (fun k j => (k = 108 ∧ j = 34) ∨ k = 125) h h1 → h1 108 34 = i → (∀ j : Nat, (j : Int) < i → h1 125 j = (ordP p).getD j 0) → zS mX10_laysTurns (zr d) 9 [zA 108, zI m, zI i, zN, zN] [] TT h1 (zAnV (fun h' => OrdR h' (ordP p) ∧ Fr (fun k j => (k = 108 ∧ j = 34) ∨ k = 125) h h')) := by
  intro n
  induction n with
  | zero =>
    intro i m h1 a1 a2 a3 dn i1 i2 i3
    have R0 := R
    have R : WR h1 p := R.fr i1 (fun k j z => by unfold wrP; omega)
    have nb := V.nb
    refine zS_iload_n (zdec eX10_laysTurns 7 rfl) rfl ?_
    refine zS_aload_n (zdec eX10_laysTurns 8 rfl) rfl rfl ?_
    refine zvI (M' := mX10_bills) (As := []) (st := [zI i]) (zdec eX10_laysTurns 9 rfl) kM_X10_236 kV_X10_bills ⟨by decide, rfl⟩ rfl rfl rfl rfl rfl (by omega) (r_bills R) ?_
    refine zS_icmp_ge (tgt := 111) (zdec eX10_laysTurns 10 rfl) rfl (fun cz => ?_) (fun cz => absurd (by omega) cz)
    have ol : ((ordP p).length : Int) ≤ pNb p := ordI_len (p := p) (e := pNb p) (by omega)
    have he : i = ((ordP p).length : Int) := by omega
    exact zlMV (zdec eX10_laysTurns 63 rfl) rfl ⟨⟨by rw [i2, he], fun j hj => i3 j (by omega)⟩, i1⟩
  | succ n ih =>
    intro i m h1 a1 a2 a3 dn i1 i2 i3
    have R0 := R
    have R : WR h1 p := R.fr i1 (fun k j z => by unfold wrP; omega)
    have nb := V.nb
    refine zS_iload_n (zdec eX10_laysTurns 7 rfl) rfl ?_
    refine zS_aload_n (zdec eX10_laysTurns 8 rfl) rfl rfl ?_
    refine zvI (M' := mX10_bills) (As := []) (st := [zI i]) (zdec eX10_laysTurns 9 rfl) kM_X10_236 kV_X10_bills ⟨by decide, rfl⟩ rfl rfl rfl rfl rfl (by omega) (r_bills R) ?_
    refine zS_icmp_ge (tgt := 111) (zdec eX10_laysTurns 10 rfl) rfl (fun cz => absurd cz (by omega)) (fun cz => ?_)
    refine zS_iconst (zdec eX10_laysTurns 11 rfl) rfl ?_
    refine zS_istore_n (zdec eX10_laysTurns 12 rfl) rfl ?_
    refine zS_iconst (zdec eX10_laysTurns 13 rfl) rfl ?_
    refine zS_istore (zdec eX10_laysTurns 14 rfl) rfl ?_
    refine L_turn1 (h := h) hd V R dn (fun x sl => ?_) (pNb p).toNat 0 (-1) (by omega) (by omega) (Or.inl ⟨rfl, fun b b0 b1 => by omega⟩)
    refine zS_iload_n (zdec eX10_laysTurns 39 rfl) rfl ?_
    refine zS_iconst (zdec eX10_laysTurns 40 rfl) rfl ?_
    refine zS_icmp_ne (tgt := 79) (zdec eX10_laysTurns 41 rfl) rfl (fun c1 => ?_) (fun c1 => ?_)
    · have so := sel_some V (show i.toNat ≤ (ordP p).length by omega) c1 sl
      have xr : 0 ≤ x ∧ x < pNb p := by rcases sl with z | z; exact absurd z.1 c1; exact z.1
      refine zS_aload_n (zdec eX10_laysTurns 43 rfl) rfl rfl ?_
      refine zS_getref (i := 71) (zdec eX10_laysTurns 44 rfl) kF_X10_65 ⟨by decide, rfl⟩ rfl rfl rfl rfl rfl ?_
      refine zS_aload_n (zdec eX10_laysTurns 45 rfl) rfl rfl ?_
      refine zS_getfieldE (x := 34) (v := i) (zdec eX10_laysTurns 46 rfl) kF_X10_298 ⟨by decide, rfl⟩ rfl rfl rfl i2 ?_
      refine zS_iload_n (zdec eX10_laysTurns 47 rfl) rfl ?_
      refine zS_iastore (zdec eX10_laysTurns 48 rfl) ⟨by decide, rfl⟩ (by omega) (by omega) ?_
      refine zS_aload_n (zdec eX10_laysTurns 49 rfl) rfl rfl ?_
      refine zS_dup (zdec eX10_laysTurns 50 rfl) (fun q => by cases q) ?_
      refine zS_getfieldE (x := 34) (v := i) (zdec eX10_laysTurns 51 rfl) kF_X10_298 ⟨by decide, rfl⟩ rfl rfl rfl ((congrFun (zset_k (by decide)) _).trans i2) ?_
      refine zS_iconst (zdec eX10_laysTurns 52 rfl) rfl ?_
      refine zS_iadd (zdec eX10_laysTurns 53 rfl) ⟨by omega, by omega⟩ ?_
      refine zS_putfield (x := 34) (zdec eX10_laysTurns 54 rfl) kF_X10_298 (Or.inl kf10_34) ⟨by decide, rfl⟩ rfl rfl rfl (Or.inl (fun q => by cases q)) ?_
      refine zS_iload_n (zdec eX10_laysTurns 55 rfl) rfl ?_
      refine zS_iconst (zdec eX10_laysTurns 56 rfl) rfl ?_
      refine zS_iload_n (zdec eX10_laysTurns 57 rfl) rfl ?_
      refine zS_ishl (zdec eX10_laysTurns 58 rfl) ?_
      refine zS_ior (zdec eX10_laysTurns 59 rfl) ?_
      refine zS_istore_n (zdec eX10_laysTurns 60 rfl) rfl ?_
      refine zS_iinc (zdec eX10_laysTurns 61 rfl) rfl rfl ⟨by omega, by omega⟩ ?_
      refine zS_goto (tgt := 9) (zdec eX10_laysTurns 62 rfl) rfl ?_
      refine zS_forget (i := 3) ?_
      refine zS_forget (i := 4) ?_
      have ob := or_bit dn.1.1 dn.1.2 (b := x) (by omega) (by omega)
      have tk : (ordP p).take (i + 1).toNat = (ordP p).take i.toNat ++ [x] := by rw [take_s a1 (by omega), so.2]
      refine ih (i + 1) _ _ (by omega) (by omega) (by omega) ⟨ob.1, fun b b0 b1 => ?_⟩ ((i1.set (by omega)).set (by omega)) (zset_s _ _ _ _) (fun j hj => ?_)
      · rw [ob.2 b b0 b1, dn.2 b b0 b1, tk]
        apply Bool.eq_iff_iff.mpr
        simp only [Bool.or_eq_true, decide_eq_true_eq, List.mem_append, List.mem_singleton]
      · by_cases w : (j : Int) = i
        · rw [zset_n (by omega), w, zset_s, ← so.2, ← w, Int.toNat_natCast]
        · rw [zset_n (by omega), zset_j w]; exact i3 j (by omega)
    · have he : i = ((ordP p).length : Int) := by have := sel_none V (show i.toNat ≤ (ordP p).length by omega) (c1 ▸ sl); omega
      exact zlMV (zdec eX10_laysTurns 42 rfl) rfl ⟨⟨by rw [i2, he], fun j hj => i3 j (by omega)⟩, i1⟩
theorem r_laysTurns {d : Nat} {h : zH} {p : Pb} (hd : 4 ≤ d) (V : PV p) (R : WR h p) : zMV d mX10_laysTurns [zA 108] h (fun h' => OrdR h' (ordP p) ∧ Fr (fun k j => (k = 108 ∧ j = 34) ∨ k = 125) h h') := by
  have nb := V.nb
  refine zmet rfl rfl rfl ?_
  refine zS_aload_n (zdec eX10_laysTurns 0 rfl) rfl rfl ?_
  refine zS_iconst (zdec eX10_laysTurns 1 rfl) rfl ?_
  refine zS_putfield (x := 34) (zdec eX10_laysTurns 2 rfl) kF_X10_298 (Or.inl kf10_34) ⟨by decide, rfl⟩ rfl rfl rfl (Or.inl (fun q => by cases q)) ?_
  refine zS_iconst (zdec eX10_laysTurns 3 rfl) rfl ?_
  refine zS_istore_n (zdec eX10_laysTurns 4 rfl) rfl ?_
  refine zS_iconst (zdec eX10_laysTurns 5 rfl) rfl ?_
  refine zS_istore_n (zdec eX10_laysTurns 6 rfl) rfl ?_
  exact L_turns hd V R (pNb p).toNat 0 0 _ (by omega) (by omega) (by omega) ⟨by omega, fun b b0 b1 => by rw [bits_zero b0 b1]; rfl⟩ (Fr.rf.set (by omega)) (zset_s _ _ _ _) (fun j hj => by omega)

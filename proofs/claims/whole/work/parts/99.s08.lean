/-! THE HEAP BEHIND BOTH CONSTRUCTORS, as a list of writes: read by evaluation -/
abbrev zOp : Type := Nat × Int × Int × Int
def zop (h : zH) : zOp → zH
  | (0, k, j, v) => zset h k j v
  | (1, k, ci, _) => zrow h k (zdf ci.toNat)
  | (2, k, v, _) => zrow h k (fun _ => v)
  | (_, k, K, _) => zmul h k K
def zh (h : zH) : List zOp → zH
  | [] => h
  | o :: l => zop (zh h l) o
def zev1 : zOp → Int → Int → Option Int
  | (0, k, j, v), a, b => if a = k ∧ b = j then some v else none
  | (1, k, ci, _), a, b => if a = k then some (zdf ci.toNat b) else none
  | (2, k, v, _), a, _ => if a = k then some v else none
  | (_, k, K, _), a, b => if a = k then some (if 0 ≤ b ∧ b < K then k + 1 + b else -1) else if k < a ∧ a ≤ k + K then some 0 else none
def zev : List zOp → Int → Int → Option Int
  | [], _, _ => none
  | o :: l, a, b => match zev1 o a b with
    | some v => some v
    | none => zev l a b
theorem zop_ev (h : zH) (o : zOp) (a b : Int) : zop h o a b = (zev1 o a b).getD (h a b) := by
  obtain ⟨t, k, x, y⟩ := o
  match t with
  | 0 =>
    show zset h k x y a b = (if a = k ∧ b = x then some y else none).getD (h a b)
    unfold zset
    split <;> rfl
  | 1 =>
    show zrow h k (zdf x.toNat) a b = (if a = k then some (zdf x.toNat b) else none).getD (h a b)
    unfold zrow
    split <;> rfl
  | 2 =>
    show zrow h k (fun _ => x) a b = (if a = k then some x else none).getD (h a b)
    unfold zrow
    split <;> rfl
  | t + 3 =>
    show zmul h k x a b = (if a = k then some (if 0 ≤ b ∧ b < x then k + 1 + b else -1) else if k < a ∧ a ≤ k + x then some 0 else none).getD (h a b)
    unfold zmul
    by_cases c : a = k
    · rw [if_pos c, if_pos c]; rfl
    · rw [if_neg c, if_neg c]
      by_cases e : k < a ∧ a ≤ k + x
      · rw [if_pos e, if_pos e]; rfl
      · rw [if_neg e, if_neg e]; rfl
theorem zh_ev (h : zH) (a b : Int) : ∀ l : List zOp, zh h l a b = (zev l a b).getD (h a b)
  | [] => rfl
  | o :: l => by
    show zop (zh h l) o a b = _
    rw [zop_ev, zh_ev h a b l]
    show _ = (match zev1 o a b with | some v => some v | none => zev l a b).getD (h a b)
    cases zev1 o a b <;> rfl
theorem zh_neg {h : zH} {a b : Int} (ha : a < 0) : ∀ l : List zOp, (l.all fun o => decide (0 ≤ o.2.1)) = true → zh h l a b = h a b
  | [], _ => rfl
  | o :: l, hl => by
    rw [List.all_cons, Bool.and_eq_true] at hl
    have h0 := of_decide_eq_true hl.1
    show zop (zh h l) o a b = _
    have e : zev1 o a b = none := by
      obtain ⟨t, k, x, y⟩ := o
      dsimp only at h0
      match t with
      | 0 => exact if_neg (by omega)
      | 1 => exact if_neg (by omega)
      | 2 => exact if_neg (by omega)
      | t + 3 => exact (if_neg (by omega)).trans (if_neg (by omega))
    rw [zop_ev, e]
    exact zh_neg ha l hl.2
theorem zh_at {h : zH} {l : List zOp} {a b v : Int} (e : zev l a b = some v) : zh h l a b = v := by rw [zh_ev, e]; rfl
theorem zh_row {h : zH} {l : List zOp} (a n : Nat) (v : Int) (e : ((List.range n).all fun j => decide (zev l (a : Int) (j : Int) = some v)) = true) {j : Int} (j0 : 0 ≤ j) (j1 : j < n) : zh h l a j = v := by
  have q := of_decide_eq_true (List.all_eq_true.mp e j.toNat (List.mem_range.mpr (by omega)))
  rw [Int.toNat_of_nonneg j0] at q
  exact zh_at q
def opF : List zOp := [(0, 109, 3, (-1)), (0, 109, 2, (-1)), (0, 109, 1, (-1)), (0, 109, 0, (-1)), (0, 108, 42, 126), (2, 126, 0, 0), (0, 108, 33, 125), (2, 125, 0, 0), (0, 108, 32, 124), (2, 124, 0, 0), (0, 108, 31, 123), (2, 123, 0, 0), (0, 108, 30, 122), (2, 122, 0, 0), (0, 108, 29, 121), (2, 121, 0, 0), (0, 108, 22, 120), (2, 120, 0, 0), (0, 108, 21, 119), (2, 119, 0, 0), (0, 108, 20, 118), (2, 118, 0, 0), (0, 108, 19, 117), (2, 117, 0, 0), (0, 108, 18, 116), (2, 116, 0, 0), (0, 108, 17, 115), (2, 115, 0, 0), (0, 108, 16, 114), (2, 114, 0, 0), (0, 108, 15, (-1)), (0, 108, 5, 113), (2, 113, 0, 0), (0, 108, 4, 112), (2, 112, 0, 0), (0, 108, 3, 111), (2, 111, 0, 0), (0, 108, 2, 110), (2, 110, 0, 0), (0, 108, 1, 109), (2, 109, 0, 0), (1, 108, 10, 0), (0, 0, 10, 107), (1, 107, 2, 0), (0, 0, 9, 104), (0, 104, 1, 106), (2, 106, 0, 0), (0, 104, 0, 105), (2, 105, 0, 0), (1, 104, 1, 0), (0, 0, 8, 103), (1, 103, 6, 0), (0, 0, 7, 79), (0, 79, 1, 81), (3, 81, 21, 0), (0, 79, 0, 80), (2, 80, 0, 0), (1, 79, 5, 0), (0, 0, 6, 75), (0, 75, 2, 78), (2, 78, 0, 0), (0, 75, 1, 77), (2, 77, 0, 0), (0, 75, 0, 76), (2, 76, 0, 0), (1, 75, 4, 0), (0, 0, 5, 67), (0, 73, 3, (-1)), (0, 73, 2, (-1)), (0, 73, 1, (-1)), (0, 73, 0, (-1)), (0, 67, 2, 74), (2, 74, 0, 0), (0, 67, 1, 73), (2, 73, 0, 0), (0, 67, 0, 68), (3, 68, 4, 0), (1, 67, 3, 0), (0, 0, 4, 66), (2, 66, 0, 0), (0, 32, 2, 55), (0, 55, 15, 65), (2, 65, 0, 0), (0, 55, 14, 64), (2, 64, 0, 0), (0, 55, 13, 63), (2, 63, 0, 0), (0, 55, 12, 57), (3, 57, 5, 0), (0, 55, 11, 56), (2, 56, 0, 0), (1, 55, 0, 0), (0, 32, 1, 44), (0, 44, 15, 54), (2, 54, 0, 0), (0, 44, 14, 53), (2, 53, 0, 0), (0, 44, 13, 52), (2, 52, 0, 0), (0, 44, 12, 46), (3, 46, 5, 0), (0, 44, 11, 45), (2, 45, 0, 0), (1, 44, 0, 0), (0, 32, 0, 33), (0, 33, 15, 43), (2, 43, 0, 0), (0, 33, 14, 42), (2, 42, 0, 0), (0, 33, 13, 41), (2, 41, 0, 0), (0, 33, 12, 35), (3, 35, 5, 0), (0, 33, 11, 34), (2, 34, 0, 0), (1, 33, 0, 0), (0, 0, 3, 32), (2, 32, (-1), 0), (0, 0, 2, 15), (0, 0, 1, 14), (0, 14, 13, 31), (2, 31, 0, 0), (0, 14, 12, 30), (2, 30, 0, 0), (0, 14, 10, 29), (2, 29, 0, 0), (0, 14, 9, 28), (2, 28, 0, 0), (0, 14, 8, 27), (2, 27, 0, 0), (0, 14, 7, 26), (2, 26, 0, 0), (0, 14, 0, 15), (0, 15, 15, 25), (2, 25, 0, 0), (0, 15, 14, 24), (2, 24, 0, 0), (0, 15, 13, 23), (2, 23, 0, 0), (0, 15, 12, 17), (3, 17, 5, 0), (0, 15, 11, 16), (2, 16, 0, 0), (1, 15, 0, 0), (1, 14, 8, 0), (0, 0, 0, 1), (0, 1, 4, (-1)), (0, 1, 1, 3), (0, 3, 15, 13), (2, 13, 0, 0), (0, 3, 14, 12), (2, 12, 0, 0), (0, 3, 13, 11), (2, 11, 0, 0), (0, 3, 12, 5), (3, 5, 5, 0), (0, 3, 11, 4), (2, 4, 0, 0), (1, 3, 0, 0), (0, 1, 0, 2), (2, 2, 0, 0), (1, 1, 7, 0), (1, 0, 9, 0)]
set_option maxRecDepth 20000 in
theorem hF_ops (h : zH) : (iH_X10_init_108 (zrow (iH_X9_init_0 (zrow h 0 (zdf 9))) 108 (zdf 10))) = zh h opF := rfl
theorem opF_pos : (opF.all fun o => decide (0 ≤ o.2.1)) = true := by decide +kernel
theorem opF_ro : (zRo.all fun q => decide (zev opF (q.1 : Int) (q.2.1 : Int) = some q.2.2)) = true := by decide +kernel
theorem opF_ra : (zRa.all fun q => (List.range q.2.1).all fun j => decide (zev opF (q.1 : Int) (j : Int) = some (q.2.2.1 + q.2.2.2 * (j : Int)))) = true := by decide +kernel
theorem opF_Sh (h : zH) : zSh (zh h opF) := by
  refine ⟨fun q hq => zh_at (of_decide_eq_true (List.all_eq_true.mp opF_ro q hq)), fun q hq j hj => ?_⟩
  exact zh_at (of_decide_eq_true (List.all_eq_true.mp (List.all_eq_true.mp opF_ra q hq) j (List.mem_range.mpr hj)))
theorem SC.F {h : zH} {xs : Int → Int} {N : Int} (R : SC h xs N) : SC (zh h opF) xs N := ⟨⟨(zh_neg (by decide) opF opF_pos).trans R.1.1, R.1.2⟩, fun j a b => ⟨(zh_neg (by decide) opF opF_pos).trans (R.2 j a b).1, (R.2 j a b).2⟩⟩
theorem fr_15_11 (h : zH) {j : Int} (j0 : 0 ≤ j) (j1 : j < 11) : zh h opF 15 j = 0 := zh_row 15 11 (0) (by decide +kernel) j0 j1
theorem fr_33_11 (h : zH) {j : Int} (j0 : 0 ≤ j) (j1 : j < 11) : zh h opF 33 j = 0 := zh_row 33 11 (0) (by decide +kernel) j0 j1
theorem fr_44_11 (h : zH) {j : Int} (j0 : 0 ≤ j) (j1 : j < 11) : zh h opF 44 j = 0 := zh_row 44 11 (0) (by decide +kernel) j0 j1
theorem fr_55_11 (h : zH) {j : Int} (j0 : 0 ≤ j) (j1 : j < 11) : zh h opF 55 j = 0 := zh_row 55 11 (0) (by decide +kernel) j0 j1
theorem fr_66_3 (h : zH) {j : Int} (j0 : 0 ≤ j) (j1 : j < 3) : zh h opF 66 j = 0 := zh_row 66 3 (0) (by decide +kernel) j0 j1
theorem fr_73_4 (h : zH) {j : Int} (j0 : 0 ≤ j) (j1 : j < 4) : zh h opF 73 j = -1 := zh_row 73 4 (-1) (by decide +kernel) j0 j1
theorem fr_114_5 (h : zH) {j : Int} (j0 : 0 ≤ j) (j1 : j < 5) : zh h opF 114 j = 0 := zh_row 114 5 (0) (by decide +kernel) j0 j1
theorem fr_115_50 (h : zH) {j : Int} (j0 : 0 ≤ j) (j1 : j < 50) : zh h opF 115 j = 0 := zh_row 115 50 (0) (by decide +kernel) j0 j1
theorem fr_120_3 (h : zH) {j : Int} (j0 : 0 ≤ j) (j1 : j < 3) : zh h opF 120 j = 0 := zh_row 120 3 (0) (by decide +kernel) j0 j1
theorem fr_109_4 (h : zH) {j : Int} (j0 : 0 ≤ j) (j1 : j < 4) : zh h opF 109 j = -1 := zh_row 109 4 (-1) (by decide +kernel) j0 j1
theorem fa_1_2 (h : zH) : zh h opF 1 2 = 0 := zh_at (by decide +kernel)
theorem fa_1_3 (h : zH) : zh h opF 1 3 = 0 := zh_at (by decide +kernel)
theorem fa_1_4 (h : zH) : zh h opF 1 4 = -1 := zh_at (by decide +kernel)
theorem fa_108_6 (h : zH) : zh h opF 108 6 = 0 := zh_at (by decide +kernel)
theorem fa_108_14 (h : zH) : zh h opF 108 14 = 0 := zh_at (by decide +kernel)
theorem fa_108_15 (h : zH) : zh h opF 108 15 = -1 := zh_at (by decide +kernel)
def rw0 : Rw := fun k _ => if k = 0 then -1 else 0
theorem rw0_V : RV rw0 := fun s _ _ => ⟨by show -1 ≤ (-1 : Int) ∧ (-1 : Int) ≤ 60; omega, fun q => absurd rfl q⟩
theorem zeD_e (k j : Int) : zeD k j = 0 := rfl
theorem DC.zz {h : zH} {b : Int} (e : ∀ j, 0 ≤ j → j ≤ 10 → h b j = 0) : DC h b zeD := ⟨e, fun s a _ c => absurd c (by rw [zeD_e]; omega), fun k w a _ c => absurd c (by rw [zeD_e]; omega), fun i a _ c => absurd c (by rw [zeD_e]; omega), fun i a _ c => absurd c (by rw [zeD_e]; omega)⟩
theorem DR.zz {h : zH} {a : Int} (e : h 114 a = 0) (e2 : ∀ w, 0 ≤ w → w ≤ 9 → h 115 (10 * a + w) = 0) : DR h a zeD := ⟨e, e2, fun s a _ c => absurd c (by rw [zeD_e]; omega), fun k w a _ c => absurd c (by rw [zeD_e]; omega), fun i a _ c => absurd c (by rw [zeD_e]; omega), fun i a _ c => absurd c (by rw [zeD_e]; omega)⟩
theorem SU.F {h : zH} {xs : Int → Int} {N : Int} (R : SC h xs N) : SU (zh h opF) xs N zeD (fun _ => zeD) (fun _ => 0) rw0 (fun _ => 0) 0 0 (-1) := by
  refine ⟨R.F, ⟨DC.zz (fun j a b => fr_15_11 h a (by omega)), ⟨⟨DC.zz (fun j a b => fr_33_11 h a (by omega)), DC.zz (fun j a b => fr_44_11 h a (by omega)), DC.zz (fun j a b => fr_55_11 h a (by omega))⟩, fr_66_3 h (by decide) (by decide), fr_66_3 h (by decide) (by decide), fr_66_3 h (by decide) (by decide)⟩, fun s a b => ⟨fr_73_4 h a b, fun q => absurd rfl q, fun i i0 i1 => absurd i1 (by show ¬ i < (-1 : Int); omega)⟩, fa_1_2 h, fun i i0 i1 => absurd i1 (by omega), fa_1_3 h, fa_1_4 h⟩, ⟨DR.zz (fr_114_5 h (by decide) (by decide)) (fun w a b => fr_115_50 h (by omega) (by omega)), fun x a b => ⟨DR.zz (fr_114_5 h (by omega) (by omega)) (fun w a b => fr_115_50 h (by omega) (by omega)), fr_120_3 h a b⟩, fun s a b => ⟨fr_109_4 h a b, fun q => absurd rfl q, fun i i0 i1 => absurd i1 (by show ¬ i < (-1 : Int); omega)⟩, fa_108_6 h, fun i i0 i1 => absurd i1 (by omega), fa_108_14 h, fa_108_15 h⟩, zeD_V, fun _ _ _ => zeD_V, rw0_V, by decide, by decide⟩
set_option maxRecDepth 20000 in
theorem law_start {nm : String} {d : Nat} {h : zH} {xs : Int → Int} {N : Int} (hd : 310 ≤ d) (R : SC h xs N) : zS (mL nm) (d, 0, 0, 600000, 7302250) 0 [(6, 0), zN, zN, zN] [] ([], false) h zOK := by
  refine zS_new (n := 11) (kk := 0) (T' := (TTl.take 1, false)) (rn := (d, 1, 11, 600000, 7302250)) (zdec eL0 0 rfl) kC_9 (zt1 19 rfl rfl) kQ_9 kI_X9 rfl kz_9 rfl rfl rfl rfl rfl ?_
  refine zS_dup (zdec eL0 1 rfl) (fun q => by cases q) ?_
  refine zS_ctorV (M' := mX9_init) (T1 := (TTl.take 108, false)) (h1 := iH_X9_init_0 (zrow h 0 (zdf 9))) (rn := (d, 108, 1676, 600000, 7302250)) (zdec eL0 2 rfl) kM_L_9 kN_X9_init rfl rfl (by show d - 1 + 1 ≤ d; omega) (i_X9_init_0 (by omega)) rfl rfl ?_
  refine zS_astore_n (zdec eL0 3 rfl) rfl rfl ?_
  refine zS_new (n := 43) (kk := 108) (T' := (TTl.take 109, false)) (rn := (d, 109, 1719, 600000, 7302250)) (zdec eL0 4 rfl) kC_10 (zt6 21 rfl rfl) kQ_10 kI_X10 rfl kz_10 rfl rfl rfl rfl rfl ?_
  refine zS_dup (zdec eL0 5 rfl) (fun q => by cases q) ?_
  refine zS_ctorV (M' := mX10_init) (T1 := (TTl.take 127, false)) (h1 := (iH_X10_init_108 (zrow (iH_X9_init_0 (zrow h 0 (zdf 9))) 108 (zdf 10)))) (rn := (d, 127, 3372, 600000, 7302250)) (zdec eL0 6 rfl) kM_L_12 kN_X10_init rfl rfl (by show d - 1 + 1 ≤ d; omega) (i_X10_init_108 (by omega)) rfl rfl ?_
  refine zS_astore_n (zdec eL0 7 rfl) rfl rfl ?_
  refine zS_iconst (zdec eL0 8 rfl) rfl ?_
  refine zS_istore_n (zdec eL0 9 rfl) rfl ?_
  rw [hF_ops, show TTl.take 127 = TTl from rfl]
  refine zS_seal (opF_Sh h) ?_
  exact law_loop (by omega) rfl (N.toNat + 1) 0 _ _ _ _ _ _ _ _ _ (by decide) (by have := R.1.2; omega) (by omega) (SU.F R)

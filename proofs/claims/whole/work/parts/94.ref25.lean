theorem anyI_nt {f : Int → Bool} {n : Int} : (!anyI f n) = true ↔ ∀ j, 0 ≤ j → j < n → f j = false := by
  rw [Bool.not_eq_true', anyI_f]
def wkI (i : Int) : Int := wdI (zsb i) (zsl i)
theorem isW_iff {B : Int → Int} {P : Tp} {i : Int} (i0 : 0 ≤ i) (i1 : i < 18) (v : P 6 ≤ P 5) (hk : P 7 = 1) (lt : ∀ j, 0 ≤ j → j < P 5 - P 6 → 97 ≤ B (P 6 + j) ∧ B (P 6 + j) ≤ 122) : wcC (fun j => B (P 6 + j)) (P 5 - P 6) = wkI i ↔ isW B P i = true := by
  have zl := zsl_b i0 i1
  have lb : ∀ j : Int, 0 ≤ j → j < ((zsl i).toNat : Int) → 97 ≤ zsb i j ∧ zsb i j ≤ 122 := fun j j0 j1 => (zsb_b i0 i1 j0 (by omega)).2
  have wp := wdN_b (zsb i) (zsl i).toNat lb
  unfold isW wcC wkI
  rw [Bool.and_eq_true, decide_eq_true_eq, anyI_nt]
  constructor
  · intro e
    by_cases c : P 5 - P 6 ≤ 12
    · rw [if_pos c] at e
      obtain ⟨a, b⟩ := wd_inj (P 5 - P 6).toNat (zsl i).toNat (fun j j0 j1 => lt j j0 (by omega)) lb e
      refine ⟨⟨hk, by omega⟩, fun j j0 j1 => ?_⟩
      rw [decide_eq_false_iff_not, Decidable.not_not]
      exact b j j0 (by omega)
    · rw [if_neg c] at e
      have e' : (-1 : Int) = wdN (zsb i) (zsl i).toNat := e
      omega
  · rintro ⟨a, b⟩
    rw [if_pos (by omega), a.2]
    unfold wdI
    have g : ∀ n : Nat, (n : Int) ≤ zsl i → wdN (fun j => B (P 6 + j)) n = wdN (zsb i) n := by
      intro n
      induction n with
      | zero => intro _; rfl
      | succ n ih =>
        intro q
        have z := b n (by omega) (by omega)
        rw [decide_eq_false_iff_not, Decidable.not_not] at z
        show 27 * wdN (fun j => B (P 6 + j)) n + (B (P 6 + n) - 96) = 27 * wdN (zsb i) n + (zsb i n - 96)
        rw [ih (by omega), z]
    exact g _ (by omega)
theorem wk_0 : wkI 0 = 82901 := by decide +kernel
theorem wk_1 : wkI 1 = 80155 := by decide +kernel
theorem wk_2 : wkI 2 = 8798 := by decide +kernel
theorem wk_3 : wkI 3 = 298288 := by decide +kernel
theorem wk_4 : wkI 4 = 60299 := by decide +kernel
theorem wk_5 : wkI 5 = 3436200 := by decide +kernel
theorem wk_6 : wkI 6 = 4514 := by decide +kernel
theorem wk_7 : wkI 7 = 207120869604 := by decide +kernel
theorem wk_8 : wkI 8 = 355412 := by decide +kernel
theorem wk_9 : wkI 9 = 46263 := by decide +kernel
theorem wk_10 : wkI 10 = 411 := by decide +kernel
theorem wk_11 : wkI 11 = 14431 := by decide +kernel
theorem wk_12 : wkI 12 = 11103 := by decide +kernel
theorem wk_13 : wkI 13 = 79 := by decide +kernel
theorem wk_14 : wkI 14 = 3488 := by decide +kernel
theorem wk_15 : wkI 15 = 237470 := by decide +kernel
theorem wk_16 : wkI 16 = 161437 := by decide +kernel
theorem wk_17 : wkI 17 = 419 := by decide +kernel
theorem b2i_eq1 {x : Bool} (h : x = true) : b2i x = 1 := by rw [h]; rfl
theorem b2i_eq0 {x : Bool} (h : x = false) : b2i x = 0 := by rw [h]; rfl
theorem r_is {d : Nat} {h : zH} {B : Int → Int} {L : Int} {P : Tp} {c i : Int} (i0 : 0 ≤ i) (i1 : i < 18) (hc : wkI i = c) (V : TV L P) (R : PR h B L P) : zPI d mX10_is [zA 108, zJ c] h (b2i (decide (P 3 = 0) && isW B P i)) := by
  refine zmet rfl rfl rfl ?_
  refine zS_aload_n (zdec eX10_is 0 rfl) rfl rfl ?_
  refine zS_getfieldE (x := 12) (v := (P 3)) (zdec eX10_is 1 rfl) kF_X10_123 ⟨by decide, rfl⟩ rfl rfl rfl R.2.1 ?_
  refine zS_if_ne (tgt := 28) (zdec eX10_is 2 rfl) rfl (fun c1 => ?_) (fun c1 => ?_)
  · refine zS_iconst (zdec eX10_is 14 rfl) rfl ?_
    exact zlZ (zdec eX10_is 15 rfl) rfl (Or.inl rfl) (b2i_eq0 (by rw [Bool.and_eq_false_iff]; exact Or.inl (decide_eq_false (by omega)))).symm
  · refine zS_aload_n (zdec eX10_is 3 rfl) rfl rfl ?_
    refine zS_getfieldE (x := 8) (v := (P 7)) (zdec eX10_is 4 rfl) kF_X10_112 ⟨by decide, rfl⟩ rfl rfl rfl (R.2.2.2 (by omega)).2.1 ?_
    refine zS_iconst (zdec eX10_is 5 rfl) rfl ?_
    refine zS_icmp_ne (tgt := 28) (zdec eX10_is 6 rfl) rfl (fun c2 => ?_) (fun c2 => ?_)
    · refine zS_iconst (zdec eX10_is 14 rfl) rfl ?_
      exact zlZ (zdec eX10_is 15 rfl) rfl (Or.inl rfl) (b2i_eq0 (by rw [Bool.and_eq_false_iff]; refine Or.inr ?_; unfold isW; rw [Bool.and_eq_false_iff]; exact Or.inl (decide_eq_false (by omega)))).symm
    · refine zS_aload_n (zdec eX10_is 7 rfl) rfl rfl ?_
      refine zS_getfieldE (x := 11) (v := (wcC (fun j => B (P 6 + j)) (P 5 - P 6))) (zdec eX10_is 8 rfl) kF_X10_108 ⟨by decide, rfl⟩ rfl rfl rfl ((R.2.2.2 (by omega)).2.2.2.2 (by omega)).2 ?_
      refine zS_lload_n (zdec eX10_is 9 rfl) rfl ?_
      refine zS_lcmp (zdec eX10_is 10 rfl) ?_
      refine zS_if_ne (tgt := 28) (zdec eX10_is 11 rfl) rfl (fun c3 => ?_) (fun c3 => ?_)
      · refine zS_iconst (zdec eX10_is 14 rfl) rfl ?_
        exact zlZ (zdec eX10_is 15 rfl) rfl (Or.inl rfl) (b2i_eq0 (by rw [Bool.and_eq_false_iff]; refine Or.inr (Bool.eq_false_iff.mpr (fun q => c3 (zCmp_e.mpr (((isW_iff i0 i1 V.2.1.2.1 (by omega) ((R.2.2.2 (by omega)).2.2.2.2 (by omega)).1).mpr q).trans hc)))))).symm
      · refine zS_iconst (zdec eX10_is 12 rfl) rfl ?_
        refine zS_goto (tgt := 29) (zdec eX10_is 13 rfl) rfl ?_
        exact zlZ (zdec eX10_is 15 rfl) rfl (Or.inr rfl) (b2i_eq1 (by rw [Bool.and_eq_true, decide_eq_true_eq]; exact ⟨by omega, (isW_iff i0 i1 V.2.1.2.1 (by omega) ((R.2.2.2 (by omega)).2.2.2.2 (by omega)).1).mp ((zCmp_e.mp c3).trans hc.symm)⟩)).symm
theorem r_takesWord {d : Nat} {h : zH} {B : Int → Int} {L : Int} {P : Tp} {c i : Int} (hd : 3 ≤ d) (i0 : 0 ≤ i) (i1 : i < 18) (hc : wkI i = c) (V : TV L P) (R : PR h B L P) : zMI d mX10_takesWord [zA 108, zJ c] h (fun r h' => r = b2i (decide (P 3 = 0) && isW B P i) ∧ PR h' B L (if (decide (P 3 = 0) && isW B P i) = true then nxP B L P else P) ∧ Fr sPR h h') := by
  refine zmet rfl rfl rfl ?_
  refine zS_aload_n (zdec eX10_takesWord 0 rfl) rfl rfl ?_
  refine zS_lload_n (zdec eX10_takesWord 1 rfl) rfl ?_
  refine zvI (M' := mX10_is) (As := [zJ c]) (st := []) (zdec eX10_takesWord 2 rfl) kM_X10_129 kV_X10_is ⟨by decide, rfl⟩ rfl rfl rfl rfl rfl (by omega) (r_is i0 i1 hc V R) ?_
  refine zS_if_ne (tgt := 10) (zdec eX10_takesWord 3 rfl) rfl (fun c1 => ?_) (fun c1 => ?_)
  · have z1 := b2i_n.mp c1
    have p3 : P 3 = 0 := of_decide_eq_true (Bool.and_eq_true _ _ ▸ z1).1
    refine zS_aload_n (zdec eX10_takesWord 6 rfl) rfl rfl ?_
    refine zvMV (M' := mX10_next) (As := []) (st := []) (zdec eX10_takesWord 7 rfl) kM_X10_133 kV_X10_next ⟨by decide, rfl⟩ rfl rfl rfl rfl rfl (by omega) (r_nx (by omega) V p3 R) (fun h2 ⟨R2, f2⟩ => ?_)
    refine zS_iconst (zdec eX10_takesWord 8 rfl) rfl ?_
    exact zlMZ (zdec eX10_takesWord 9 rfl) rfl (Or.inr rfl) ⟨(b2i_eq1 z1).symm, by rw [if_pos z1]; exact R2, f2⟩
  · have z1 := b2i_0.mp c1
    refine zS_iconst (zdec eX10_takesWord 4 rfl) rfl ?_
    exact zlMZ (zdec eX10_takesWord 5 rfl) rfl (Or.inl rfl) ⟨(b2i_eq0 z1).symm, by rw [if_neg (by rw [z1]; decide)]; exact R, Fr.rf⟩

def isW (B : Int → Int) (P : Tp) (i : Int) : Bool := decide (P 7 = 1 ∧ P 5 - P 6 = zsl i) && !anyI (fun j => decide (B (P 6 + j) ≠ zsb i j)) (zsl i)
def rfu (P : Tp) (c : Int) : Tp := if P 3 = 0 then updI (updI P 3 c) 4 (P 6) else P
def twP (B : Int → Int) (L : Int) (P : Tp) (i : Int) : Tp := nxP B L (if isW B P i then P else rfu P 1)
def tnQ (P : Tp) (lo hi : Int) : Tp := if P 7 ≠ 2 then rfu P 1 else if P 8 < lo ∨ hi < P 8 then rfu P 2 else P
def tnP (B : Int → Int) (L : Int) (P : Tp) (lo hi : Int) : Tp := nxP B L (tnQ P lo hi)
def tnV (P : Tp) (lo hi : Int) : Int := if tnQ P lo hi 3 = 0 then P 8 else 0
def tfP (B : Int → Int) (L : Int) (P : Tp) (i lo hi : Int) : Tp := tnP B L (twP B L P i) lo hi
def tfV (B : Int → Int) (L : Int) (P : Tp) (i lo hi : Int) : Int := tnV (twP B L P i) lo hi
def tsP (B : Int → Int) (L : Int) (P : Tp) : Tp := nxP B L (if P 7 = 3 then P else rfu P 1)
theorem TV.rf {L : Int} {P : Tp} (V : TV L P) {c : Int} (c0 : 1 ≤ c) (c1 : c ≤ 3) : TV L (rfu P c) := by
  unfold rfu
  split
  · exact ⟨V.1, V.2.1, V.2.2.1, by show 0 ≤ c ∧ c ≤ 3; omega⟩
  · exact V
theorem TV.tw {L : Int} {P : Tp} (V : TV L P) (B : Int → Int) (i : Int) : TV L (twP B L P i) := by
  unfold twP
  refine TV.nx ?_ B
  split
  · exact V
  · exact V.rf (by decide) (by decide)
theorem TV.tq {L : Int} {P : Tp} (V : TV L P) (lo hi : Int) : TV L (tnQ P lo hi) := by
  unfold tnQ
  split
  · exact V.rf (by decide) (by decide)
  · split
    · exact V.rf (by decide) (by decide)
    · exact V
theorem TV.tn {L : Int} {P : Tp} (V : TV L P) (B : Int → Int) (lo hi : Int) : TV L (tnP B L P lo hi) := (V.tq lo hi).nx B
theorem TV.tf {L : Int} {P : Tp} (V : TV L P) (B : Int → Int) (i lo hi : Int) : TV L (tfP B L P i lo hi) := (V.tw B i).tn B lo hi
theorem TV.ts {L : Int} {P : Tp} (V : TV L P) (B : Int → Int) : TV L (tsP B L P) := by
  unfold tsP
  refine TV.nx ?_ B
  split
  · exact V
  · exact V.rf (by decide) (by decide)
theorem tnV_b {L : Int} {P : Tp} (V : TV L P) (lo hi : Int) : 0 ≤ tnV P lo hi ∧ tnV P lo hi ≤ 100000 := by
  have := V.2.2.1
  unfold tnV
  split <;> omega
theorem L_isW {d : Nat} {h : zH} {B : Int → Int} {L : Int} {P : Tp} {i : Int} (hd : 4 ≤ d) (V : TV L P) (RT : TC h B L P) (i0 : 0 ≤ i) (i1 : i < 18) (hw : P 7 = 1 ∧ P 5 - P 6 = zsl i) : ∀ (n : Nat) (e : Int), 0 ≤ e → e + n = zsl i → anyI (fun j => decide (B (P 6 + j) ≠ zsb i j)) e = false → zS mX7_isWord (zr d) 28 [zA 1, (5, i), zI e] [] TT h (zOne (b2i (isW B P i)) h) := by
  intro n
  induction n with
  | zero =>
    intro e a1 a2 a3
    have v1 := V.1
    have v2 := V.2.1
    have zl := zsl_b i0 i1
    refine zS_iload_n (zdec eX7_isWord 16 rfl) rfl ?_
    refine zS_aload_n (zdec eX7_isWord 17 rfl) rfl rfl ?_
    refine zstI (M' := mJ0_length_8abf5) (As := []) (st := [zI e]) (zdec eX7_isWord 18 rfl) kM_X7_157 kV_J0_length_8abf5 rfl (by omega) (by omega) rfl rfl rfl (by omega) (c_length (by omega) (by omega) (by omega)) ?_
    refine zS_icmp_ge (tgt := 63) (zdec eX7_isWord 19 rfl) rfl (fun cz => ?_) (fun cz => absurd (by omega) cz)
    refine zS_iconst (zdec eX7_isWord 35 rfl) rfl ?_
    exact zlZ (zdec eX7_isWord 36 rfl) rfl (Or.inr rfl) (by unfold isW; rw [decide_eq_true hw, show zsl i = e by omega, a3]; rfl)
  | succ n ih =>
    intro e a1 a2 a3
    have v1 := V.1
    have v2 := V.2.1
    have zl := zsl_b i0 i1
    refine zS_iload_n (zdec eX7_isWord 16 rfl) rfl ?_
    refine zS_aload_n (zdec eX7_isWord 17 rfl) rfl rfl ?_
    refine zstI (M' := mJ0_length_8abf5) (As := []) (st := [zI e]) (zdec eX7_isWord 18 rfl) kM_X7_157 kV_J0_length_8abf5 rfl (by omega) (by omega) rfl rfl rfl (by omega) (c_length (by omega) (by omega) (by omega)) ?_
    refine zS_icmp_ge (tgt := 63) (zdec eX7_isWord 19 rfl) rfl (fun cz => absurd cz (by omega)) (fun cz => ?_)
    refine zS_aload_n (zdec eX7_isWord 20 rfl) rfl rfl ?_
    refine zS_getref (i := 11) (zdec eX7_isWord 21 rfl) kF_X7_9 ⟨by decide, rfl⟩ rfl rfl rfl rfl rfl ?_
    refine zS_aload_n (zdec eX7_isWord 22 rfl) rfl rfl ?_
    refine zS_getfieldE (x := 6) (v := (P 6)) (zdec eX7_isWord 23 rfl) kF_X7_154 ⟨by decide, rfl⟩ rfl rfl rfl (RT.2.2 6 (by omega) (by omega)) ?_
    refine zS_iload_n (zdec eX7_isWord 24 rfl) rfl ?_
    refine zS_iadd (zdec eX7_isWord 25 rfl) ⟨by omega, by omega⟩ ?_
    refine zS_baloadE (v := (B ((P 6) + e))) (zdec eX7_isWord 26 rfl) (Or.inl rfl) ⟨by decide, rfl⟩ (by omega) (by omega) (RT.2.1 _ (by omega) (by omega)) ?_
    refine zS_aload_n (zdec eX7_isWord 27 rfl) rfl rfl ?_
    refine zS_iload_n (zdec eX7_isWord 28 rfl) rfl ?_
    refine zstI (M' := mJ0_charAt_5068e) (As := [zI e]) (st := [zI (B ((P 6) + e))]) (zdec eX7_isWord 29 rfl) kM_X7_162 kV_J0_charAt_5068e rfl (by omega) (by omega) rfl rfl rfl (by omega) (c_charAt (by omega) (by omega) (by omega) (by omega) (by omega)) ?_
    refine zS_icmp_eq (tgt := 57) (zdec eX7_isWord 30 rfl) rfl (fun c1 => ?_) (fun c1 => ?_)
    · refine zS_iinc (zdec eX7_isWord 33 rfl) rfl rfl ⟨by omega, by omega⟩ ?_
      refine zS_goto (tgt := 28) (zdec eX7_isWord 34 rfl) rfl ?_
      exact ih (e + 1) (by omega) (by omega) (by rw [anyI_s _ a1, a3, Bool.false_or]; exact decide_eq_false (fun w => w c1))
    · refine zS_iconst (zdec eX7_isWord 31 rfl) rfl ?_
      exact zlZ (zdec eX7_isWord 32 rfl) rfl (Or.inl rfl) (by unfold isW; rw [anyI_iff.mpr ⟨e, a1, by omega, decide_eq_true c1⟩, Bool.not_true, Bool.and_false]; rfl)
theorem c_isWord {d : Nat} {h : zH} {B : Int → Int} {L : Int} {P : Tp} {i : Int} (hd : 4 ≤ d) (V : TV L P) (RT : TC h B L P) (i0 : 0 ≤ i) (i1 : i < 18) : zPI d mX7_isWord [zA 1, (5, i)] h (b2i (isW B P i)) := by
  have v1 := V.1
  have v2 := V.2.1
  have zl := zsl_b i0 i1
  refine zmet rfl rfl rfl ?_
  refine zS_aload_n (zdec eX7_isWord 0 rfl) rfl rfl ?_
  refine zS_getfieldE (x := 7) (v := (P 7)) (zdec eX7_isWord 1 rfl) kF_X7_41 ⟨by decide, rfl⟩ rfl rfl rfl (RT.2.2 7 (by omega) (by omega)) ?_
  refine zS_iconst (zdec eX7_isWord 2 rfl) rfl ?_
  refine zS_icmp_ne (tgt := 24) (zdec eX7_isWord 3 rfl) rfl (fun c1 => ?_) (fun c1 => ?_)
  · refine zS_iconst (zdec eX7_isWord 12 rfl) rfl ?_
    exact zlZ (zdec eX7_isWord 13 rfl) rfl (Or.inl rfl) (by unfold isW; rw [decide_eq_false (fun w => by omega)]; rfl)
  · refine zS_aload_n (zdec eX7_isWord 4 rfl) rfl rfl ?_
    refine zS_getfieldE (x := 5) (v := (P 5)) (zdec eX7_isWord 5 rfl) kF_X7_35 ⟨by decide, rfl⟩ rfl rfl rfl (RT.2.2 5 (by omega) (by omega)) ?_
    refine zS_aload_n (zdec eX7_isWord 6 rfl) rfl rfl ?_
    refine zS_getfieldE (x := 6) (v := (P 6)) (zdec eX7_isWord 7 rfl) kF_X7_154 ⟨by decide, rfl⟩ rfl rfl rfl (RT.2.2 6 (by omega) (by omega)) ?_
    refine zS_isub (zdec eX7_isWord 8 rfl) ⟨by omega, by omega⟩ ?_
    refine zS_aload_n (zdec eX7_isWord 9 rfl) rfl rfl ?_
    refine zstI (M' := mJ0_length_8abf5) (As := []) (st := [zI ((P 5) - (P 6))]) (zdec eX7_isWord 10 rfl) kM_X7_157 kV_J0_length_8abf5 rfl (by omega) (by omega) rfl rfl rfl (by omega) (c_length (by omega) (by omega) (by omega)) ?_
    refine zS_icmp_eq (tgt := 26) (zdec eX7_isWord 11 rfl) rfl (fun c2 => ?_) (fun c2 => ?_)
    · refine zS_iconst (zdec eX7_isWord 14 rfl) rfl ?_
      refine zS_istore_n (zdec eX7_isWord 15 rfl) rfl ?_
      exact L_isW hd V RT i0 i1 ⟨by omega, by omega⟩ (zsl i).toNat 0 (by omega) (by omega) (anyI_0 _ (by omega))
    · refine zS_iconst (zdec eX7_isWord 12 rfl) rfl ?_
      exact zlZ (zdec eX7_isWord 13 rfl) rfl (Or.inl rfl) (by unfold isW; rw [decide_eq_false (fun w => by omega)]; rfl)
theorem TC.rf {h : zH} {B : Int → Int} {L : Int} {P : Tp} (R : TC h B L P) (c : Int) (hP : P 3 = 0) : TC (zset (zset h 1 3 c) 1 4 (P 6)) B L (rfu P c) := by
  unfold rfu
  rw [if_pos hP]
  refine ⟨by rw [zset_n (by omega), zset_n (by omega)]; exact R.1, fun i i0 i1 => by rw [zset_n (by omega), zset_n (by omega)]; exact R.2.1 i i0 i1, fun j j0 j1 => ?_⟩
  by_cases w4 : j = 4
  · subst w4; rw [zset_s]; rfl
  · by_cases w3 : j = 3
    · subst w3; rw [zset_j (by decide), zset_s]; rfl
    · rw [zset_j w4, zset_j w3, updI_n w4, updI_n w3]; exact R.2.2 j j0 j1
theorem c_refuse {d : Nat} {h : zH} {B : Int → Int} {L : Int} {P : Tp} {c : Int} (V : TV L P) (RT : TC h B L P) : zMV d mX7_refuse [zA 1, zI c] h (fun h' => TC h' B L (rfu P c) ∧ Fr s1 h h') := by
  refine zmet rfl rfl rfl ?_
  refine zS_aload_n (zdec eX7_refuse 0 rfl) rfl rfl ?_
  refine zS_getfieldE (x := 3) (v := (P 3)) (zdec eX7_refuse 1 rfl) kF_X7_32 ⟨by decide, rfl⟩ rfl rfl rfl (RT.2.2 3 (by omega) (by omega)) ?_
  refine zS_if_ne (tgt := 20) (zdec eX7_refuse 2 rfl) rfl (fun c1 => ?_) (fun c1 => ?_)
  · exact zlMV (zdec eX7_refuse 10 rfl) rfl ⟨by unfold rfu; rw [if_neg c1]; exact RT, Fr.rf⟩
  · refine zS_aload_n (zdec eX7_refuse 3 rfl) rfl rfl ?_
    refine zS_iload_n (zdec eX7_refuse 4 rfl) rfl ?_
    refine zS_putfield (x := 3) (zdec eX7_refuse 5 rfl) kF_X7_32 (Or.inl kf7_3) ⟨by decide, rfl⟩ rfl rfl rfl (Or.inl (fun q => by cases q)) ?_
    refine zS_aload_n (zdec eX7_refuse 6 rfl) rfl rfl ?_
    refine zS_aload_n (zdec eX7_refuse 7 rfl) rfl rfl ?_
    refine zS_getfieldE (x := 6) (v := (P 6)) (zdec eX7_refuse 8 rfl) kF_X7_154 ⟨by decide, rfl⟩ rfl rfl rfl ((zset_j (by decide)).trans (RT.2.2 6 (by omega) (by omega))) ?_
    refine zS_putfield (x := 4) (zdec eX7_refuse 9 rfl) kF_X7_22 (Or.inl kf7_4) ⟨by decide, rfl⟩ rfl rfl rfl (Or.inl (fun q => by cases q)) ?_
    exact zlMV (zdec eX7_refuse 10 rfl) rfl ⟨RT.rf c c1, (Fr.rf.set (by omega)).set (by omega)⟩
theorem c_takeWord {d : Nat} {h : zH} {B : Int → Int} {L : Int} {P : Tp} {i : Int} (hd : 6 ≤ d) (V : TV L P) (RT : TC h B L P) (i0 : 0 ≤ i) (i1 : i < 18) : zMV d mX7_takeWord [zA 1, (5, i)] h (fun h' => TC h' B L (twP B L P i) ∧ Fr s1 h h') := by
  have V3 : TV L (rfu P 1) := V.rf (by decide) (by decide)
  refine zmet rfl rfl rfl ?_
  refine zS_aload_n (zdec eX7_takeWord 0 rfl) rfl rfl ?_
  refine zS_aload_n (zdec eX7_takeWord 1 rfl) rfl rfl ?_
  refine zvI (M' := mX7_isWord) (As := [(5, i)]) (st := []) (zdec eX7_takeWord 2 rfl) kM_X7_52 kV_X7_isWord ⟨by decide, rfl⟩ rfl rfl rfl rfl rfl (by omega) (c_isWord (by omega) V RT (by omega) (by omega)) ?_
  refine zS_if_ne (tgt := 13) (zdec eX7_takeWord 3 rfl) rfl (fun c1 => ?_) (fun c1 => ?_)
  · have z1 := b2i_n.mp c1
    refine zS_aload_n (zdec eX7_takeWord 7 rfl) rfl rfl ?_
    refine zvMV (M' := mX7_nextToken) (As := []) (st := []) (zdec eX7_takeWord 8 rfl) kM_X7_38 kV_X7_nextToken ⟨by decide, rfl⟩ rfl rfl rfl rfl rfl (by omega) (c_nextToken (by omega) V RT) (fun h5 ⟨RT5, g5⟩ => ?_)
    have f5 : Fr s1 h h5 := g5
    exact zlMV (zdec eX7_takeWord 9 rfl) rfl ⟨by unfold twP; rw [z1]; exact RT5, f5⟩
  · have z1 := b2i_0.mp c1
    refine zS_aload_n (zdec eX7_takeWord 4 rfl) rfl rfl ?_
    refine zS_iconst (zdec eX7_takeWord 5 rfl) rfl ?_
    refine zvMV (M' := mX7_refuse) (As := [zI 1]) (st := []) (zdec eX7_takeWord 6 rfl) kM_X7_69 kV_X7_refuse ⟨by decide, rfl⟩ rfl rfl rfl rfl rfl (by omega) (c_refuse V RT) (fun h3 ⟨RT3, f3⟩ => ?_)
    refine zS_aload_n (zdec eX7_takeWord 7 rfl) rfl rfl ?_
    refine zvMV (M' := mX7_nextToken) (As := []) (st := []) (zdec eX7_takeWord 8 rfl) kM_X7_38 kV_X7_nextToken ⟨by decide, rfl⟩ rfl rfl rfl rfl rfl (by omega) (c_nextToken (by omega) V3 RT3) (fun h5 ⟨RT5, g5⟩ => ?_)
    have f5 : Fr s1 h h5 := f3.tr g5 (fun k j z => z) (fun k j z => z)
    exact zlMV (zdec eX7_takeWord 9 rfl) rfl ⟨by unfold twP; rw [z1]; exact RT5, f5⟩
theorem c_takeNumber {d : Nat} {h : zH} {B : Int → Int} {L : Int} {P : Tp} {x y : Int} (hd : 2 ≤ d) (V : TV L P) (RT : TC h B L P) : zMI d mX7_takeNumber [zA 1, zI x, zI y] h (fun r h' => r = tnV P x y ∧ TC h' B L (tnP B L P x y) ∧ Fr s1 h h') := by
  have v8 := V.2.2.1
  refine zmet rfl rfl rfl ?_
  refine zS_aload_n (zdec eX7_takeNumber 0 rfl) rfl rfl ?_
  refine zS_getfieldE (x := 8) (v := (P 8)) (zdec eX7_takeNumber 1 rfl) kF_X7_151 ⟨by decide, rfl⟩ rfl rfl rfl (RT.2.2 8 (by omega) (by omega)) ?_
  refine zS_istore_n (zdec eX7_takeNumber 2 rfl) rfl ?_
  refine zS_aload_n (zdec eX7_takeNumber 3 rfl) rfl rfl ?_
  refine zS_getfieldE (x := 7) (v := (P 7)) (zdec eX7_takeNumber 4 rfl) kF_X7_41 ⟨by decide, rfl⟩ rfl rfl rfl (RT.2.2 7 (by omega) (by omega)) ?_
  refine zS_iconst (zdec eX7_takeNumber 5 rfl) rfl ?_
  refine zS_icmp_eq (tgt := 21) (zdec eX7_takeNumber 6 rfl) rfl (fun c1 => ?_) (fun c1 => ?_)
  · refine zS_iload_n (zdec eX7_takeNumber 11 rfl) rfl ?_
    refine zS_iload_n (zdec eX7_takeNumber 12 rfl) rfl ?_
    refine zS_icmp_lt (tgt := 31) (zdec eX7_takeNumber 13 rfl) rfl (fun c2 => ?_) (fun c2 => ?_)
    · refine zS_aload_n (zdec eX7_takeNumber 17 rfl) rfl rfl ?_
      refine zS_iconst (zdec eX7_takeNumber 18 rfl) rfl ?_
      refine zvMV (M' := mX7_refuse) (As := [zI 2]) (st := []) (zdec eX7_takeNumber 19 rfl) kM_X7_69 kV_X7_refuse ⟨by decide, rfl⟩ rfl rfl rfl rfl rfl (by omega) (c_refuse V RT) (fun h3 ⟨RT3, f3⟩ => ?_)
      have eq : tnQ P x y = rfu P 2 := by unfold tnQ; rw [if_neg (fun w => w c1), if_pos (by omega)]
      rw [← eq] at RT3
      have V3 := V.tq x y
      refine zS_aload_n (zdec eX7_takeNumber 20 rfl) rfl rfl ?_
      refine zvMV (M' := mX7_nextToken) (As := []) (st := []) (zdec eX7_takeNumber 21 rfl) kM_X7_38 kV_X7_nextToken ⟨by decide, rfl⟩ rfl rfl rfl rfl rfl (by omega) (c_nextToken (by omega) V3 RT3) (fun h5 ⟨RT5, g5⟩ => ?_)
      have f5 : Fr s1 h h5 := f3.tr g5 (fun k j z => z) (fun k j z => z)
      refine zS_aload_n (zdec eX7_takeNumber 22 rfl) rfl rfl ?_
      refine zS_getfieldE (x := 3) (v := (tnQ P x y 3)) (zdec eX7_takeNumber 23 rfl) kF_X7_32 ⟨by decide, rfl⟩ rfl rfl rfl ((RT5.2.2 3 (by omega) (by omega)).trans (nxP_3 _ _ _)) ?_
      refine zS_if_ne (tgt := 51) (zdec eX7_takeNumber 24 rfl) rfl (fun c3 => ?_) (fun c3 => ?_)
      · refine zS_iconst (zdec eX7_takeNumber 27 rfl) rfl ?_
        exact zlMI (zdec eX7_takeNumber 28 rfl) rfl ⟨by unfold tnV; rw [if_neg (by assumption)], RT5, f5⟩
      · refine zS_iload_n (zdec eX7_takeNumber 25 rfl) rfl ?_
        refine zS_goto (tgt := 52) (zdec eX7_takeNumber 26 rfl) rfl ?_
        exact zlMI (zdec eX7_takeNumber 28 rfl) rfl ⟨by unfold tnV; rw [if_pos (by assumption)], RT5, f5⟩
    · refine zS_iload_n (zdec eX7_takeNumber 14 rfl) rfl ?_
      refine zS_iload_n (zdec eX7_takeNumber 15 rfl) rfl ?_
      refine zS_icmp_le (tgt := 36) (zdec eX7_takeNumber 16 rfl) rfl (fun c3 => ?_) (fun c3 => ?_)
      · have eq : tnQ P x y = P := by unfold tnQ; rw [if_neg (fun w => w c1), if_neg (by omega)]
        have RT3 : TC h B L (tnQ P x y) := by rw [eq]; exact RT
        have V3 := V.tq x y
        have f3 : Fr s1 h h := Fr.rf
        refine zS_aload_n (zdec eX7_takeNumber 20 rfl) rfl rfl ?_
        refine zvMV (M' := mX7_nextToken) (As := []) (st := []) (zdec eX7_takeNumber 21 rfl) kM_X7_38 kV_X7_nextToken ⟨by decide, rfl⟩ rfl rfl rfl rfl rfl (by omega) (c_nextToken (by omega) V3 RT3) (fun h5 ⟨RT5, g5⟩ => ?_)
        have f5 : Fr s1 h h5 := f3.tr g5 (fun k j z => z) (fun k j z => z)
        refine zS_aload_n (zdec eX7_takeNumber 22 rfl) rfl rfl ?_
        refine zS_getfieldE (x := 3) (v := (tnQ P x y 3)) (zdec eX7_takeNumber 23 rfl) kF_X7_32 ⟨by decide, rfl⟩ rfl rfl rfl ((RT5.2.2 3 (by omega) (by omega)).trans (nxP_3 _ _ _)) ?_
        refine zS_if_ne (tgt := 51) (zdec eX7_takeNumber 24 rfl) rfl (fun c4 => ?_) (fun c4 => ?_)
        · refine zS_iconst (zdec eX7_takeNumber 27 rfl) rfl ?_
          exact zlMI (zdec eX7_takeNumber 28 rfl) rfl ⟨by unfold tnV; rw [if_neg (by assumption)], RT5, f5⟩
        · refine zS_iload_n (zdec eX7_takeNumber 25 rfl) rfl ?_
          refine zS_goto (tgt := 52) (zdec eX7_takeNumber 26 rfl) rfl ?_
          exact zlMI (zdec eX7_takeNumber 28 rfl) rfl ⟨by unfold tnV; rw [if_pos (by assumption)], RT5, f5⟩
      · refine zS_aload_n (zdec eX7_takeNumber 17 rfl) rfl rfl ?_
        refine zS_iconst (zdec eX7_takeNumber 18 rfl) rfl ?_
        refine zvMV (M' := mX7_refuse) (As := [zI 2]) (st := []) (zdec eX7_takeNumber 19 rfl) kM_X7_69 kV_X7_refuse ⟨by decide, rfl⟩ rfl rfl rfl rfl rfl (by omega) (c_refuse V RT) (fun h3 ⟨RT3, f3⟩ => ?_)
        have eq : tnQ P x y = rfu P 2 := by unfold tnQ; rw [if_neg (fun w => w c1), if_pos (by omega)]
        rw [← eq] at RT3
        have V3 := V.tq x y
        refine zS_aload_n (zdec eX7_takeNumber 20 rfl) rfl rfl ?_
        refine zvMV (M' := mX7_nextToken) (As := []) (st := []) (zdec eX7_takeNumber 21 rfl) kM_X7_38 kV_X7_nextToken ⟨by decide, rfl⟩ rfl rfl rfl rfl rfl (by omega) (c_nextToken (by omega) V3 RT3) (fun h5 ⟨RT5, g5⟩ => ?_)
        have f5 : Fr s1 h h5 := f3.tr g5 (fun k j z => z) (fun k j z => z)
        refine zS_aload_n (zdec eX7_takeNumber 22 rfl) rfl rfl ?_
        refine zS_getfieldE (x := 3) (v := (tnQ P x y 3)) (zdec eX7_takeNumber 23 rfl) kF_X7_32 ⟨by decide, rfl⟩ rfl rfl rfl ((RT5.2.2 3 (by omega) (by omega)).trans (nxP_3 _ _ _)) ?_
        refine zS_if_ne (tgt := 51) (zdec eX7_takeNumber 24 rfl) rfl (fun c4 => ?_) (fun c4 => ?_)
        · refine zS_iconst (zdec eX7_takeNumber 27 rfl) rfl ?_
          exact zlMI (zdec eX7_takeNumber 28 rfl) rfl ⟨by unfold tnV; rw [if_neg (by assumption)], RT5, f5⟩
        · refine zS_iload_n (zdec eX7_takeNumber 25 rfl) rfl ?_
          refine zS_goto (tgt := 52) (zdec eX7_takeNumber 26 rfl) rfl ?_
          exact zlMI (zdec eX7_takeNumber 28 rfl) rfl ⟨by unfold tnV; rw [if_pos (by assumption)], RT5, f5⟩
  · refine zS_aload_n (zdec eX7_takeNumber 7 rfl) rfl rfl ?_
    refine zS_iconst (zdec eX7_takeNumber 8 rfl) rfl ?_
    refine zvMV (M' := mX7_refuse) (As := [zI 1]) (st := []) (zdec eX7_takeNumber 9 rfl) kM_X7_69 kV_X7_refuse ⟨by decide, rfl⟩ rfl rfl rfl rfl rfl (by omega) (c_refuse V RT) (fun h3 ⟨RT3, f3⟩ => ?_)
    refine zS_goto (tgt := 36) (zdec eX7_takeNumber 10 rfl) rfl ?_
    have eq : tnQ P x y = rfu P 1 := by unfold tnQ; rw [if_pos c1]
    rw [← eq] at RT3
    have V3 := V.tq x y
    refine zS_aload_n (zdec eX7_takeNumber 20 rfl) rfl rfl ?_
    refine zvMV (M' := mX7_nextToken) (As := []) (st := []) (zdec eX7_takeNumber 21 rfl) kM_X7_38 kV_X7_nextToken ⟨by decide, rfl⟩ rfl rfl rfl rfl rfl (by omega) (c_nextToken (by omega) V3 RT3) (fun h5 ⟨RT5, g5⟩ => ?_)
    have f5 : Fr s1 h h5 := f3.tr g5 (fun k j z => z) (fun k j z => z)
    refine zS_aload_n (zdec eX7_takeNumber 22 rfl) rfl rfl ?_
    refine zS_getfieldE (x := 3) (v := (tnQ P x y 3)) (zdec eX7_takeNumber 23 rfl) kF_X7_32 ⟨by decide, rfl⟩ rfl rfl rfl ((RT5.2.2 3 (by omega) (by omega)).trans (nxP_3 _ _ _)) ?_
    refine zS_if_ne (tgt := 51) (zdec eX7_takeNumber 24 rfl) rfl (fun c2 => ?_) (fun c2 => ?_)
    · refine zS_iconst (zdec eX7_takeNumber 27 rfl) rfl ?_
      exact zlMI (zdec eX7_takeNumber 28 rfl) rfl ⟨by unfold tnV; rw [if_neg (by assumption)], RT5, f5⟩
    · refine zS_iload_n (zdec eX7_takeNumber 25 rfl) rfl ?_
      refine zS_goto (tgt := 52) (zdec eX7_takeNumber 26 rfl) rfl ?_
      exact zlMI (zdec eX7_takeNumber 28 rfl) rfl ⟨by unfold tnV; rw [if_pos (by assumption)], RT5, f5⟩
theorem c_takeField {d : Nat} {h : zH} {B : Int → Int} {L : Int} {P : Tp} {i x y : Int} (hd : 7 ≤ d) (V : TV L P) (RT : TC h B L P) (i0 : 0 ≤ i) (i1 : i < 18) : zMI d mX7_takeField [zA 1, (5, i), zI x, zI y] h (fun r h' => r = tfV B L P i x y ∧ TC h' B L (tfP B L P i x y) ∧ Fr s1 h h') := by
  refine zmet rfl rfl rfl ?_
  refine zS_aload_n (zdec eX7_takeField 0 rfl) rfl rfl ?_
  refine zS_aload_n (zdec eX7_takeField 1 rfl) rfl rfl ?_
  refine zvMV (M' := mX7_takeWord) (As := [(5, i)]) (st := []) (zdec eX7_takeField 2 rfl) kM_X7_78 kV_X7_takeWord ⟨by decide, rfl⟩ rfl rfl rfl rfl rfl (by omega) (c_takeWord (by omega) V RT i0 i1) (fun h3 ⟨RT3, f3⟩ => ?_)
  have V3 := V.tw B i
  refine zS_aload_n (zdec eX7_takeField 3 rfl) rfl rfl ?_
  refine zS_iload_n (zdec eX7_takeField 4 rfl) rfl ?_
  refine zS_iload_n (zdec eX7_takeField 5 rfl) rfl ?_
  refine zvMI (M' := mX7_takeNumber) (As := [zI x, zI y]) (st := []) (zdec eX7_takeField 6 rfl) kM_X7_143 kV_X7_takeNumber ⟨by decide, rfl⟩ rfl rfl rfl rfl rfl (by omega) (c_takeNumber (by omega) V3 RT3) (fun x5 h5 ⟨e5, RT5, g5⟩ => ?_)
  exact zlMI (zdec eX7_takeField 7 rfl) rfl ⟨e5, RT5, f3.tr g5 (fun k j z => z) (fun k j z => z)⟩
theorem c_takeSign {d : Nat} {h : zH} {B : Int → Int} {L : Int} {P : Tp} (hd : 2 ≤ d) (V : TV L P) (RT : TC h B L P) : zMV d mX7_takeSign [zA 1] h (fun h' => TC h' B L (tsP B L P) ∧ Fr s1 h h') := by
  have V3 : TV L (rfu P 1) := V.rf (by decide) (by decide)
  refine zmet rfl rfl rfl ?_
  refine zS_aload_n (zdec eX7_takeSign 0 rfl) rfl rfl ?_
  refine zS_getfieldE (x := 7) (v := (P 7)) (zdec eX7_takeSign 1 rfl) kF_X7_41 ⟨by decide, rfl⟩ rfl rfl rfl (RT.2.2 7 (by omega) (by omega)) ?_
  refine zS_iconst (zdec eX7_takeSign 2 rfl) rfl ?_
  refine zS_icmp_eq (tgt := 13) (zdec eX7_takeSign 3 rfl) rfl (fun c1 => ?_) (fun c1 => ?_)
  · refine zS_aload_n (zdec eX7_takeSign 7 rfl) rfl rfl ?_
    refine zvMV (M' := mX7_nextToken) (As := []) (st := []) (zdec eX7_takeSign 8 rfl) kM_X7_38 kV_X7_nextToken ⟨by decide, rfl⟩ rfl rfl rfl rfl rfl (by omega) (c_nextToken (by omega) V RT) (fun h5 ⟨RT5, g5⟩ => ?_)
    have f5 : Fr s1 h h5 := g5
    exact zlMV (zdec eX7_takeSign 9 rfl) rfl ⟨by unfold tsP; rw [if_pos c1]; exact RT5, f5⟩
  · refine zS_aload_n (zdec eX7_takeSign 4 rfl) rfl rfl ?_
    refine zS_iconst (zdec eX7_takeSign 5 rfl) rfl ?_
    refine zvMV (M' := mX7_refuse) (As := [zI 1]) (st := []) (zdec eX7_takeSign 6 rfl) kM_X7_69 kV_X7_refuse ⟨by decide, rfl⟩ rfl rfl rfl rfl rfl (by omega) (c_refuse V RT) (fun h3 ⟨RT3, f3⟩ => ?_)
    refine zS_aload_n (zdec eX7_takeSign 7 rfl) rfl rfl ?_
    refine zvMV (M' := mX7_nextToken) (As := []) (st := []) (zdec eX7_takeSign 8 rfl) kM_X7_38 kV_X7_nextToken ⟨by decide, rfl⟩ rfl rfl rfl rfl rfl (by omega) (c_nextToken (by omega) V3 RT3) (fun h5 ⟨RT5, g5⟩ => ?_)
    have f5 : Fr s1 h h5 := f3.tr g5 (fun k j z => z) (fun k j z => z)
    exact zlMV (zdec eX7_takeSign 9 rfl) rfl ⟨by unfold tsP; rw [if_neg c1]; exact RT5, f5⟩

/-! THE TAPE: B bytes, L length; P = fault 3, place 4, at 5, start 6, kind 7, value 8 -/
def kdB (b : Int) : Int := if 97 ≤ b ∧ b ≤ 122 then 1 else if 48 ≤ b ∧ b ≤ 57 then 2 else if b = 59 then 3 else if b = 32 ∨ b = 10 then 5 else 4
def dgB (b : Int) : Int := if 48 ≤ b ∧ b ≤ 57 then b - 48 else 0
def skN (B : Int → Int) (L : Int) : Nat → Int → Int
  | 0, a => a
  | n + 1, a => if a < L ∧ kdB (B a) = 5 then skN B L n (a + 1) else a
def skI (B : Int → Int) (L a : Int) : Int := skN B L (L - a).toNat a
def rnN (B : Int → Int) (k S : Int) : Nat → Int → Int → Int × Int
  | 0, a, v => (a, v)
  | n + 1, a, v => if a < S ∧ kdB (B a) = k then rnN B k S n (a + 1) (min 100000 (v * 10 + dgB (B a))) else (a, v)
def rnI (B : Int → Int) (k S a v : Int) : Int × Int := rnN B k S (S - a).toNat a v
def tkK (B : Int → Int) (L s : Int) : Int := if s < L then kdB (B s) else 0
def tkE (L s k : Int) : Int := if k = 1 ∨ k = 2 then L else min L (s + 1)
def tkR (B : Int → Int) (L s : Int) : Int × Int := rnI B (tkK B L s) (tkE L s (tkK B L s)) s 0
abbrev Tp : Type := Int → Int
def tkP (B : Int → Int) (L : Int) (P : Tp) (s : Int) : Tp := fun j => if j = 5 then (tkR B L s).1 else if j = 6 then s else if j = 7 then tkK B L s else if j = 8 then (tkR B L s).2 else P j
def nxP (B : Int → Int) (L : Int) (P : Tp) : Tp := if P 3 = 0 then tkP B L P (skI B L (P 5)) else P
def TC (h : zH) (B : Int → Int) (L : Int) (P : Tp) : Prop := h 1 2 = L ∧ (∀ i, 0 ≤ i → i < L → h 2 i = B i) ∧ ∀ j, 3 ≤ j → j ≤ 8 → h 1 j = P j
def TV (L : Int) (P : Tp) : Prop := (0 ≤ L ∧ L ≤ 700) ∧ (0 ≤ P 6 ∧ P 6 ≤ P 5 ∧ P 5 ≤ L) ∧ (0 ≤ P 8 ∧ P 8 ≤ 100000) ∧ (0 ≤ P 3 ∧ P 3 ≤ 3)
theorem kdB_rng (b : Int) : 1 ≤ kdB b ∧ kdB b ≤ 5 := by unfold kdB; split <;> (try split) <;> (try split) <;> (try split) <;> omega
theorem dgB_rng (b : Int) : 0 ≤ dgB b ∧ dgB b ≤ 9 := by unfold dgB; split <;> omega
theorem skN_rng (B : Int → Int) (L : Int) : ∀ (n : Nat) (a : Int), a + n = L → a ≤ skN B L n a ∧ skN B L n a ≤ L := by
  intro n
  induction n with
  | zero => intro a h; show a ≤ a ∧ a ≤ L; omega
  | succ n ih =>
    intro a h
    show a ≤ (if _ then _ else _) ∧ (if _ then _ else _) ≤ L
    split
    · have := ih (a + 1) (by omega); omega
    · omega
theorem skI_rng (B : Int → Int) {L a : Int} (h : a ≤ L) : a ≤ skI B L a ∧ skI B L a ≤ L := skN_rng B L _ a (by omega)
theorem rnN_rng (B : Int → Int) (k S : Int) : ∀ (n : Nat) (a v : Int), 0 ≤ v → v ≤ 100000 → (a ≤ (rnN B k S n a v).1 ∧ (rnN B k S n a v).1 ≤ a + n) ∧ 0 ≤ (rnN B k S n a v).2 ∧ (rnN B k S n a v).2 ≤ 100000 := by
  intro n
  induction n with
  | zero => intro a v h0 h1; show (a ≤ a ∧ a ≤ a + (0 : Nat)) ∧ 0 ≤ v ∧ v ≤ 100000; omega
  | succ n ih =>
    intro a v h0 h1
    have dg := dgB_rng (B a)
    unfold rnN
    split
    · have := ih (a + 1) (min 100000 (v * 10 + dgB (B a))) (by omega) (by omega); omega
    · show (a ≤ a ∧ a ≤ a + (n + 1 : Nat)) ∧ 0 ≤ v ∧ v ≤ 100000; omega
theorem tkR_rng (B : Int → Int) {L s : Int} (h0 : 0 ≤ s) (h : s ≤ L) : (s ≤ (tkR B L s).1 ∧ (tkR B L s).1 ≤ L) ∧ 0 ≤ (tkR B L s).2 ∧ (tkR B L s).2 ≤ 100000 := by
  have r := rnN_rng B (tkK B L s) (tkE L s (tkK B L s)) (tkE L s (tkK B L s) - s).toNat s 0 (by omega) (by omega)
  have e : tkE L s (tkK B L s) ≤ L ∧ s ≤ tkE L s (tkK B L s) := by unfold tkE; split <;> omega
  have d : tkR B L s = rnN B (tkK B L s) (tkE L s (tkK B L s)) (tkE L s (tkK B L s) - s).toNat s 0 := rfl
  rw [d]
  omega
theorem nxP_3 (B : Int → Int) (L : Int) (P : Tp) : nxP B L P 3 = P 3 := by
  unfold nxP
  split
  · rfl
  · rfl
theorem nxP_4 (B : Int → Int) (L : Int) (P : Tp) : nxP B L P 4 = P 4 := by
  unfold nxP
  split
  · rfl
  · rfl
theorem TV.nx {L : Int} {P : Tp} (V : TV L P) (B : Int → Int) : TV L (nxP B L P) := by
  unfold nxP
  split
  · have s := skI_rng B V.2.1.2.2
    have p6 := V.2.1.1
    have p5 := V.2.1.2.1
    have r := tkR_rng B (L := L) (s := skI B L (P 5)) (by omega) s.2
    refine ⟨V.1, ?_, ?_, V.2.2.2⟩
    · show 0 ≤ skI B L (P 5) ∧ skI B L (P 5) ≤ (tkR B L (skI B L (P 5))).1 ∧ (tkR B L (skI B L (P 5))).1 ≤ L
      omega
    · show 0 ≤ (tkR B L (skI B L (P 5))).2 ∧ (tkR B L (skI B L (P 5))).2 ≤ 100000
      omega
  · exact V
theorem TC.fr {S : Int → Int → Prop} {h h' : zH} {B : Int → Int} {L : Int} {P : Tp} (R : TC h B L P) (f : Fr S h h') (hn : ∀ k j, S k j → k ≠ 1 ∧ k ≠ 2) : TC h' B L P :=
  ⟨(f _ _ (fun z => (hn _ _ z).1 rfl)).trans R.1, fun i i0 i1 => (f _ _ (fun z => (hn _ _ z).2 rfl)).trans (R.2.1 i i0 i1), fun j j0 j1 => (f _ _ (fun z => (hn _ _ z).1 rfl)).trans (R.2.2 j j0 j1)⟩
abbrev s1 : Int → Int → Prop := fun k _ => k = 1
theorem c_kindOf {d : Nat} {h : zH} {b : Int} : zPI d mX7_kindOf [zI b] h (kdB b) := by
  refine zmet rfl rfl rfl ?_
  refine zS_iload_n (zdec eX7_kindOf 0 rfl) rfl ?_
  refine zS_bipush (zdec eX7_kindOf 1 rfl) rfl rfl ?_
  refine zS_icmp_lt (tgt := 14) (zdec eX7_kindOf 2 rfl) rfl (fun c1 => ?_) (fun c1 => ?_)
  · refine zS_iload_n (zdec eX7_kindOf 8 rfl) rfl ?_
    refine zS_bipush (zdec eX7_kindOf 9 rfl) rfl rfl ?_
    refine zS_icmp_lt (tgt := 28) (zdec eX7_kindOf 10 rfl) rfl (fun c2 => ?_) (fun c2 => ?_)
    · refine zS_iload_n (zdec eX7_kindOf 16 rfl) rfl ?_
      refine zS_bipush (zdec eX7_kindOf 17 rfl) rfl rfl ?_
      refine zS_icmp_ne (tgt := 36) (zdec eX7_kindOf 18 rfl) rfl (fun c3 => ?_) (fun c3 => ?_)
      · refine zS_iload_n (zdec eX7_kindOf 21 rfl) rfl ?_
        refine zS_bipush (zdec eX7_kindOf 22 rfl) rfl rfl ?_
        refine zS_icmp_eq (tgt := 48) (zdec eX7_kindOf 23 rfl) rfl (fun c4 => ?_) (fun c4 => ?_)
        · refine zS_iconst (zdec eX7_kindOf 27 rfl) rfl ?_
          refine zS_goto (tgt := 53) (zdec eX7_kindOf 28 rfl) rfl ?_
          exact zlI (zdec eX7_kindOf 30 rfl) rfl (by unfold kdB; rw [if_neg (by omega), if_neg (by omega), if_neg (by omega), if_pos (by omega)])
        · refine zS_iload_n (zdec eX7_kindOf 24 rfl) rfl ?_
          refine zS_bipush (zdec eX7_kindOf 25 rfl) rfl rfl ?_
          refine zS_icmp_ne (tgt := 52) (zdec eX7_kindOf 26 rfl) rfl (fun c5 => ?_) (fun c5 => ?_)
          · refine zS_iconst (zdec eX7_kindOf 29 rfl) rfl ?_
            exact zlI (zdec eX7_kindOf 30 rfl) rfl (by unfold kdB; rw [if_neg (by omega), if_neg (by omega), if_neg (by omega), if_neg (by omega)])
          · refine zS_iconst (zdec eX7_kindOf 27 rfl) rfl ?_
            refine zS_goto (tgt := 53) (zdec eX7_kindOf 28 rfl) rfl ?_
            exact zlI (zdec eX7_kindOf 30 rfl) rfl (by unfold kdB; rw [if_neg (by omega), if_neg (by omega), if_neg (by omega), if_pos (by omega)])
      · refine zS_iconst (zdec eX7_kindOf 19 rfl) rfl ?_
        exact zlI (zdec eX7_kindOf 20 rfl) rfl (by unfold kdB; rw [if_neg (by omega), if_neg (by omega), if_pos (by omega)])
    · refine zS_iload_n (zdec eX7_kindOf 11 rfl) rfl ?_
      refine zS_bipush (zdec eX7_kindOf 12 rfl) rfl rfl ?_
      refine zS_icmp_gt (tgt := 28) (zdec eX7_kindOf 13 rfl) rfl (fun c3 => ?_) (fun c3 => ?_)
      · refine zS_iload_n (zdec eX7_kindOf 16 rfl) rfl ?_
        refine zS_bipush (zdec eX7_kindOf 17 rfl) rfl rfl ?_
        refine zS_icmp_ne (tgt := 36) (zdec eX7_kindOf 18 rfl) rfl (fun c4 => ?_) (fun c4 => ?_)
        · refine zS_iload_n (zdec eX7_kindOf 21 rfl) rfl ?_
          refine zS_bipush (zdec eX7_kindOf 22 rfl) rfl rfl ?_
          refine zS_icmp_eq (tgt := 48) (zdec eX7_kindOf 23 rfl) rfl (fun c5 => ?_) (fun c5 => ?_)
          · refine zS_iconst (zdec eX7_kindOf 27 rfl) rfl ?_
            refine zS_goto (tgt := 53) (zdec eX7_kindOf 28 rfl) rfl ?_
            exact zlI (zdec eX7_kindOf 30 rfl) rfl (by unfold kdB; rw [if_neg (by omega), if_neg (by omega), if_neg (by omega), if_pos (by omega)])
          · refine zS_iload_n (zdec eX7_kindOf 24 rfl) rfl ?_
            refine zS_bipush (zdec eX7_kindOf 25 rfl) rfl rfl ?_
            refine zS_icmp_ne (tgt := 52) (zdec eX7_kindOf 26 rfl) rfl (fun c6 => ?_) (fun c6 => ?_)
            · refine zS_iconst (zdec eX7_kindOf 29 rfl) rfl ?_
              exact zlI (zdec eX7_kindOf 30 rfl) rfl (by unfold kdB; rw [if_neg (by omega), if_neg (by omega), if_neg (by omega), if_neg (by omega)])
            · refine zS_iconst (zdec eX7_kindOf 27 rfl) rfl ?_
              refine zS_goto (tgt := 53) (zdec eX7_kindOf 28 rfl) rfl ?_
              exact zlI (zdec eX7_kindOf 30 rfl) rfl (by unfold kdB; rw [if_neg (by omega), if_neg (by omega), if_neg (by omega), if_pos (by omega)])
        · refine zS_iconst (zdec eX7_kindOf 19 rfl) rfl ?_
          exact zlI (zdec eX7_kindOf 20 rfl) rfl (by unfold kdB; rw [if_neg (by omega), if_neg (by omega), if_pos (by omega)])
      · refine zS_iconst (zdec eX7_kindOf 14 rfl) rfl ?_
        exact zlI (zdec eX7_kindOf 15 rfl) rfl (by unfold kdB; rw [if_neg (by omega), if_pos (by omega)])
  · refine zS_iload_n (zdec eX7_kindOf 3 rfl) rfl ?_
    refine zS_bipush (zdec eX7_kindOf 4 rfl) rfl rfl ?_
    refine zS_icmp_gt (tgt := 14) (zdec eX7_kindOf 5 rfl) rfl (fun c2 => ?_) (fun c2 => ?_)
    · refine zS_iload_n (zdec eX7_kindOf 8 rfl) rfl ?_
      refine zS_bipush (zdec eX7_kindOf 9 rfl) rfl rfl ?_
      refine zS_icmp_lt (tgt := 28) (zdec eX7_kindOf 10 rfl) rfl (fun c3 => ?_) (fun c3 => ?_)
      · refine zS_iload_n (zdec eX7_kindOf 16 rfl) rfl ?_
        refine zS_bipush (zdec eX7_kindOf 17 rfl) rfl rfl ?_
        refine zS_icmp_ne (tgt := 36) (zdec eX7_kindOf 18 rfl) rfl (fun c4 => ?_) (fun c4 => ?_)
        · refine zS_iload_n (zdec eX7_kindOf 21 rfl) rfl ?_
          refine zS_bipush (zdec eX7_kindOf 22 rfl) rfl rfl ?_
          refine zS_icmp_eq (tgt := 48) (zdec eX7_kindOf 23 rfl) rfl (fun c5 => ?_) (fun c5 => ?_)
          · refine zS_iconst (zdec eX7_kindOf 27 rfl) rfl ?_
            refine zS_goto (tgt := 53) (zdec eX7_kindOf 28 rfl) rfl ?_
            exact zlI (zdec eX7_kindOf 30 rfl) rfl (by unfold kdB; rw [if_neg (by omega), if_neg (by omega), if_neg (by omega), if_pos (by omega)])
          · refine zS_iload_n (zdec eX7_kindOf 24 rfl) rfl ?_
            refine zS_bipush (zdec eX7_kindOf 25 rfl) rfl rfl ?_
            refine zS_icmp_ne (tgt := 52) (zdec eX7_kindOf 26 rfl) rfl (fun c6 => ?_) (fun c6 => ?_)
            · refine zS_iconst (zdec eX7_kindOf 29 rfl) rfl ?_
              exact zlI (zdec eX7_kindOf 30 rfl) rfl (by unfold kdB; rw [if_neg (by omega), if_neg (by omega), if_neg (by omega), if_neg (by omega)])
            · refine zS_iconst (zdec eX7_kindOf 27 rfl) rfl ?_
              refine zS_goto (tgt := 53) (zdec eX7_kindOf 28 rfl) rfl ?_
              exact zlI (zdec eX7_kindOf 30 rfl) rfl (by unfold kdB; rw [if_neg (by omega), if_neg (by omega), if_neg (by omega), if_pos (by omega)])
        · refine zS_iconst (zdec eX7_kindOf 19 rfl) rfl ?_
          exact zlI (zdec eX7_kindOf 20 rfl) rfl (by unfold kdB; rw [if_neg (by omega), if_neg (by omega), if_pos (by omega)])
      · refine zS_iload_n (zdec eX7_kindOf 11 rfl) rfl ?_
        refine zS_bipush (zdec eX7_kindOf 12 rfl) rfl rfl ?_
        refine zS_icmp_gt (tgt := 28) (zdec eX7_kindOf 13 rfl) rfl (fun c4 => ?_) (fun c4 => ?_)
        · refine zS_iload_n (zdec eX7_kindOf 16 rfl) rfl ?_
          refine zS_bipush (zdec eX7_kindOf 17 rfl) rfl rfl ?_
          refine zS_icmp_ne (tgt := 36) (zdec eX7_kindOf 18 rfl) rfl (fun c5 => ?_) (fun c5 => ?_)
          · refine zS_iload_n (zdec eX7_kindOf 21 rfl) rfl ?_
            refine zS_bipush (zdec eX7_kindOf 22 rfl) rfl rfl ?_
            refine zS_icmp_eq (tgt := 48) (zdec eX7_kindOf 23 rfl) rfl (fun c6 => ?_) (fun c6 => ?_)
            · refine zS_iconst (zdec eX7_kindOf 27 rfl) rfl ?_
              refine zS_goto (tgt := 53) (zdec eX7_kindOf 28 rfl) rfl ?_
              exact zlI (zdec eX7_kindOf 30 rfl) rfl (by unfold kdB; rw [if_neg (by omega), if_neg (by omega), if_neg (by omega), if_pos (by omega)])
            · refine zS_iload_n (zdec eX7_kindOf 24 rfl) rfl ?_
              refine zS_bipush (zdec eX7_kindOf 25 rfl) rfl rfl ?_
              refine zS_icmp_ne (tgt := 52) (zdec eX7_kindOf 26 rfl) rfl (fun c7 => ?_) (fun c7 => ?_)
              · refine zS_iconst (zdec eX7_kindOf 29 rfl) rfl ?_
                exact zlI (zdec eX7_kindOf 30 rfl) rfl (by unfold kdB; rw [if_neg (by omega), if_neg (by omega), if_neg (by omega), if_neg (by omega)])
              · refine zS_iconst (zdec eX7_kindOf 27 rfl) rfl ?_
                refine zS_goto (tgt := 53) (zdec eX7_kindOf 28 rfl) rfl ?_
                exact zlI (zdec eX7_kindOf 30 rfl) rfl (by unfold kdB; rw [if_neg (by omega), if_neg (by omega), if_neg (by omega), if_pos (by omega)])
          · refine zS_iconst (zdec eX7_kindOf 19 rfl) rfl ?_
            exact zlI (zdec eX7_kindOf 20 rfl) rfl (by unfold kdB; rw [if_neg (by omega), if_neg (by omega), if_pos (by omega)])
        · refine zS_iconst (zdec eX7_kindOf 14 rfl) rfl ?_
          exact zlI (zdec eX7_kindOf 15 rfl) rfl (by unfold kdB; rw [if_neg (by omega), if_pos (by omega)])
    · refine zS_iconst (zdec eX7_kindOf 6 rfl) rfl ?_
      exact zlI (zdec eX7_kindOf 7 rfl) rfl (by unfold kdB; rw [if_pos (by omega)])
theorem c_digitOf {d : Nat} {h : zH} {b : Int} : zPI d mX7_digitOf [zI b] h (dgB b) := by
  refine zmet rfl rfl rfl ?_
  refine zS_iload_n (zdec eX7_digitOf 0 rfl) rfl ?_
  refine zS_bipush (zdec eX7_digitOf 1 rfl) rfl rfl ?_
  refine zS_icmp_lt (tgt := 19) (zdec eX7_digitOf 2 rfl) rfl (fun c1 => ?_) (fun c1 => ?_)
  · refine zS_iconst (zdec eX7_digitOf 10 rfl) rfl ?_
    exact zlI (zdec eX7_digitOf 11 rfl) rfl (by unfold dgB; rw [if_neg (by omega)])
  · refine zS_iload_n (zdec eX7_digitOf 3 rfl) rfl ?_
    refine zS_bipush (zdec eX7_digitOf 4 rfl) rfl rfl ?_
    refine zS_icmp_gt (tgt := 19) (zdec eX7_digitOf 5 rfl) rfl (fun c2 => ?_) (fun c2 => ?_)
    · refine zS_iconst (zdec eX7_digitOf 10 rfl) rfl ?_
      exact zlI (zdec eX7_digitOf 11 rfl) rfl (by unfold dgB; rw [if_neg (by omega)])
    · refine zS_iload_n (zdec eX7_digitOf 6 rfl) rfl ?_
      refine zS_bipush (zdec eX7_digitOf 7 rfl) rfl rfl ?_
      refine zS_isub (zdec eX7_digitOf 8 rfl) ⟨by omega, by omega⟩ ?_
      refine zS_goto (tgt := 20) (zdec eX7_digitOf 9 rfl) rfl ?_
      exact zlI (zdec eX7_digitOf 11 rfl) rfl (by unfold dgB; rw [if_pos (by omega)])
theorem L_tok {d : Nat} {h : zH} {B : Int → Int} {L : Int} {P : Tp} {s g S : Int} (hd : 1 ≤ d) (hS : S = tkE L s (tkK B L s)) (s0 : 0 ≤ s) (sL : s ≤ L) (L1 : L ≤ 700) (RT : h 1 2 = L ∧ (∀ i, 0 ≤ i → i < L → h 2 i = B i)) : ∀ (n : Nat) (a v : Int) (h1 : zH), 0 ≤ a → a + n = S → 0 ≤ v → v ≤ 100000 → rnN B (tkK B L s) S n a v = tkR B L s → h1 1 5 = a → h1 1 8 = v → (∀ j, 3 ≤ j → j ≤ 8 → j ≠ 5 → j ≠ 8 → h1 1 j = tkP B L P s j) → Fr (fun k j => k = 1 ∧ 3 ≤ j) h h1 → zS mX7_nextToken (zr d) 139 [zA 1, zI g, zI S] [] TT h1 (zAnV (fun h' => TC h' B L (tkP B L P s) ∧ Fr s1 h h')) := by
  intro n
  induction n with
  | zero =>
    intro a v h1 a0 a2 v0 v1 r0 i1 i2 i3 i4
    have SL : S ≤ L := by rw [hS]; unfold tkE; split <;> omega
    have TX : ∀ i, 0 ≤ i → i < L → h1 2 i = B i := fun i i0 i1 => (i4 _ _ (by omega)).trans (RT.2 i i0 i1)
    refine zS_aload_n (zdec eX7_nextToken 71 rfl) rfl rfl ?_
    refine zS_getfieldE (x := 5) (v := a) (zdec eX7_nextToken 72 rfl) kF_X7_35 ⟨by decide, rfl⟩ rfl rfl rfl i1 ?_
    refine zS_iload_n (zdec eX7_nextToken 73 rfl) rfl ?_
    refine zS_icmp_ge (tgt := 208) (zdec eX7_nextToken 74 rfl) rfl (fun cz => ?_) (fun cz => absurd (by omega) cz)
    have t : (a, v) = tkR B L s := r0
    exact zlMV (zdec eX7_nextToken 106 rfl) rfl ⟨⟨(i4 _ _ (by omega)).trans RT.1, TX, fun j j0 j1 => by
        by_cases w5 : j = 5
        · subst w5; rw [i1]; show a = (tkR B L s).1; rw [← t]
        · by_cases w8 : j = 8
          · subst w8; rw [i2]; show v = (tkR B L s).2; rw [← t]
          · exact i3 j j0 j1 w5 w8⟩, i4.mono (fun k j z => z.1)⟩
  | succ n ih =>
    intro a v h1 a0 a2 v0 v1 r0 i1 i2 i3 i4
    have SL : S ≤ L := by rw [hS]; unfold tkE; split <;> omega
    have TX : ∀ i, 0 ≤ i → i < L → h1 2 i = B i := fun i i0 i1 => (i4 _ _ (by omega)).trans (RT.2 i i0 i1)
    have dg := dgB_rng (B a)
    refine zS_aload_n (zdec eX7_nextToken 71 rfl) rfl rfl ?_
    refine zS_getfieldE (x := 5) (v := a) (zdec eX7_nextToken 72 rfl) kF_X7_35 ⟨by decide, rfl⟩ rfl rfl rfl i1 ?_
    refine zS_iload_n (zdec eX7_nextToken 73 rfl) rfl ?_
    refine zS_icmp_ge (tgt := 208) (zdec eX7_nextToken 74 rfl) rfl (fun c1 => ?_) (fun c1 => ?_)
    · have t : (a, v) = tkR B L s := by rw [← r0]; unfold rnN; rw [if_neg (fun w => by have := w.1; omega)]
      exact zlMV (zdec eX7_nextToken 106 rfl) rfl ⟨⟨(i4 _ _ (by omega)).trans RT.1, TX, fun j j0 j1 => by
          by_cases w5 : j = 5
          · subst w5; rw [i1]; show a = (tkR B L s).1; rw [← t]
          · by_cases w8 : j = 8
            · subst w8; rw [i2]; show v = (tkR B L s).2; rw [← t]
            · exact i3 j j0 j1 w5 w8⟩, i4.mono (fun k j z => z.1)⟩
    · refine zS_aload_n (zdec eX7_nextToken 75 rfl) rfl rfl ?_
      refine zS_getref (i := 11) (zdec eX7_nextToken 76 rfl) kF_X7_9 ⟨by decide, rfl⟩ rfl rfl rfl rfl rfl ?_
      refine zS_aload_n (zdec eX7_nextToken 77 rfl) rfl rfl ?_
      refine zS_getfieldE (x := 5) (v := a) (zdec eX7_nextToken 78 rfl) kF_X7_35 ⟨by decide, rfl⟩ rfl rfl rfl i1 ?_
      refine zS_baloadE (v := (B a)) (zdec eX7_nextToken 79 rfl) (Or.inl rfl) ⟨by decide, rfl⟩ (by omega) (by omega) (TX _ (by omega) (by omega)) ?_
      refine zsI (M' := mX7_kindOf) (As := [zI (B a)]) (st := []) (zdec eX7_nextToken 80 rfl) kM_X7_166 kS_X7_kindOf rfl rfl rfl (by omega) c_kindOf ?_
      refine zS_aload_n (zdec eX7_nextToken 81 rfl) rfl rfl ?_
      refine zS_getfieldE (x := 7) (v := (tkK B L s)) (zdec eX7_nextToken 82 rfl) kF_X7_41 ⟨by decide, rfl⟩ rfl rfl rfl ((i3 7 (by omega) (by omega) (by omega) (by omega)).trans (show tkP B L P s 7 = tkK B L s from rfl)) ?_
      refine zS_icmp_ne (tgt := 208) (zdec eX7_nextToken 83 rfl) rfl (fun c2 => ?_) (fun c2 => ?_)
      · have t : (a, v) = tkR B L s := by rw [← r0]; unfold rnN; rw [if_neg (fun w => c2 w.2)]
        exact zlMV (zdec eX7_nextToken 106 rfl) rfl ⟨⟨(i4 _ _ (by omega)).trans RT.1, TX, fun j j0 j1 => by
            by_cases w5 : j = 5
            · subst w5; rw [i1]; show a = (tkR B L s).1; rw [← t]
            · by_cases w8 : j = 8
              · subst w8; rw [i2]; show v = (tkR B L s).2; rw [← t]
              · exact i3 j j0 j1 w5 w8⟩, i4.mono (fun k j z => z.1)⟩
      · refine zS_aload_n (zdec eX7_nextToken 84 rfl) rfl rfl ?_
        refine zS_ldc (zdec eX7_nextToken 85 rfl) kc_X7_175 rfl ?_
        refine zS_aload_n (zdec eX7_nextToken 86 rfl) rfl rfl ?_
        refine zS_getfieldE (x := 8) (v := v) (zdec eX7_nextToken 87 rfl) kF_X7_151 ⟨by decide, rfl⟩ rfl rfl rfl i2 ?_
        refine zS_bipush (zdec eX7_nextToken 88 rfl) rfl rfl ?_
        refine zS_imul (zdec eX7_nextToken 89 rfl) ⟨by omega, by omega⟩ ?_
        refine zS_aload_n (zdec eX7_nextToken 90 rfl) rfl rfl ?_
        refine zS_getref (i := 11) (zdec eX7_nextToken 91 rfl) kF_X7_9 ⟨by decide, rfl⟩ rfl rfl rfl rfl rfl ?_
        refine zS_aload_n (zdec eX7_nextToken 92 rfl) rfl rfl ?_
        refine zS_getfieldE (x := 5) (v := a) (zdec eX7_nextToken 93 rfl) kF_X7_35 ⟨by decide, rfl⟩ rfl rfl rfl i1 ?_
        refine zS_baloadE (v := (B a)) (zdec eX7_nextToken 94 rfl) (Or.inl rfl) ⟨by decide, rfl⟩ (by omega) (by omega) (TX _ (by omega) (by omega)) ?_
        refine zsI (M' := mX7_digitOf) (As := [zI (B a)]) (st := [zI (v * 10), zI 100000, zA 1]) (zdec eX7_nextToken 95 rfl) kM_X7_176 kS_X7_digitOf rfl rfl rfl (by omega) c_digitOf ?_
        refine zS_iadd (zdec eX7_nextToken 96 rfl) ⟨by omega, by omega⟩ ?_
        refine zS_min (zdec eX7_nextToken 97 rfl) kM_X7_170 rfl (by omega) ?_
        refine zS_putfield (x := 8) (zdec eX7_nextToken 98 rfl) kF_X7_151 (Or.inl kf7_8) ⟨by decide, rfl⟩ rfl rfl rfl (Or.inl (fun q => by cases q)) ?_
        refine zS_aload_n (zdec eX7_nextToken 99 rfl) rfl rfl ?_
        refine zS_dup (zdec eX7_nextToken 100 rfl) (fun q => by cases q) ?_
        refine zS_getfieldE (x := 5) (v := a) (zdec eX7_nextToken 101 rfl) kF_X7_35 ⟨by decide, rfl⟩ rfl rfl rfl ((zset_j (by decide)).trans i1) ?_
        refine zS_iconst (zdec eX7_nextToken 102 rfl) rfl ?_
        refine zS_iadd (zdec eX7_nextToken 103 rfl) ⟨by omega, by omega⟩ ?_
        refine zS_putfield (x := 5) (zdec eX7_nextToken 104 rfl) kF_X7_35 (Or.inl kf7_5) ⟨by decide, rfl⟩ rfl rfl rfl (Or.inl (fun q => by cases q)) ?_
        refine zS_goto (tgt := 139) (zdec eX7_nextToken 105 rfl) rfl ?_
        refine ih (a + 1) (min 100000 (v * 10 + dgB (B a))) _ (by omega) (by omega) (by omega) (by omega) ?_ (zset_s _ _ _ _) (by rw [zset_j (by decide), zset_s]) (fun j j0 j1 w5 w8 => by rw [zset_j w5, zset_j w8]; exact i3 j j0 j1 w5 w8) ((i4.set (by omega)).set (by omega))
        rw [← r0]
        conv => rhs; unfold rnN
        rw [if_pos ⟨by omega, c2⟩]
theorem M_tok {d : Nat} {h h1 : zH} {B : Int → Int} {L : Int} {P : Tp} {s : Int} (hd : 1 ≤ d) (s0 : 0 ≤ s) (sL : s ≤ L) (L1 : L ≤ 700) (RT0 : h 1 2 = L ∧ (∀ i, 0 ≤ i → i < L → h 2 i = B i)) (i1 : h1 1 5 = s) (i2 : ∀ j, 3 ≤ j → j ≤ 8 → j ≠ 5 → h1 1 j = P j) (i3 : Fr (fun k j => k = 1 ∧ 3 ≤ j) h h1) : zS mX7_nextToken (zr d) 48 [zA 1, zN, zN] [] TT h1 (zAnV (fun h' => TC h' B L (tkP B L P s) ∧ Fr s1 h h')) := by
  have RT : h1 1 2 = L ∧ (∀ i, 0 ≤ i → i < L → h1 2 i = B i) := ⟨(i3 _ _ (by omega)).trans RT0.1, fun i a b => (i3 _ _ (by omega)).trans (RT0.2 i a b)⟩
  have kr := kdB_rng (B s)
  refine zS_aload_n (zdec eX7_nextToken 24 rfl) rfl rfl ?_
  refine zS_aload_n (zdec eX7_nextToken 25 rfl) rfl rfl ?_
  refine zS_getfieldE (x := 5) (v := s) (zdec eX7_nextToken 26 rfl) kF_X7_35 ⟨by decide, rfl⟩ rfl rfl rfl i1 ?_
  refine zS_putfield (x := 6) (zdec eX7_nextToken 27 rfl) kF_X7_154 (Or.inl kf7_6) ⟨by decide, rfl⟩ rfl rfl rfl (Or.inl (fun q => by cases q)) ?_
  refine zS_aload_n (zdec eX7_nextToken 28 rfl) rfl rfl ?_
  refine zS_iconst (zdec eX7_nextToken 29 rfl) rfl ?_
  refine zS_putfield (x := 8) (zdec eX7_nextToken 30 rfl) kF_X7_151 (Or.inl kf7_8) ⟨by decide, rfl⟩ rfl rfl rfl (Or.inl (fun q => by cases q)) ?_
  refine zS_aload_n (zdec eX7_nextToken 31 rfl) rfl rfl ?_
  refine zS_aload_n (zdec eX7_nextToken 32 rfl) rfl rfl ?_
  refine zS_getfieldE (x := 5) (v := s) (zdec eX7_nextToken 33 rfl) kF_X7_35 ⟨by decide, rfl⟩ rfl rfl rfl ((zset_j (by decide)).trans ((zset_j (by decide)).trans i1)) ?_
  refine zS_aload_n (zdec eX7_nextToken 34 rfl) rfl rfl ?_
  refine zS_getfieldE (x := 2) (v := L) (zdec eX7_nextToken 35 rfl) kF_X7_26 ⟨by decide, rfl⟩ rfl rfl rfl ((zset_j (by decide)).trans ((zset_j (by decide)).trans RT.1)) ?_
  refine zS_icmp_ge (tgt := 88) (zdec eX7_nextToken 36 rfl) rfl (fun c1 => ?_) (fun c1 => ?_)
  · refine zS_iconst (zdec eX7_nextToken 44 rfl) rfl ?_
    refine zS_putfield (x := 7) (zdec eX7_nextToken 45 rfl) kF_X7_41 (Or.inl kf7_7) ⟨by decide, rfl⟩ rfl rfl rfl (Or.inl (fun q => by cases q)) ?_
    refine zS_aload_n (zdec eX7_nextToken 46 rfl) rfl rfl ?_
    refine zS_getfieldE (x := 7) (v := 0) (zdec eX7_nextToken 47 rfl) kF_X7_41 ⟨by decide, rfl⟩ rfl rfl rfl (zset_s _ _ _ _) ?_
    refine zS_iconst (zdec eX7_nextToken 48 rfl) rfl ?_
    refine zS_icmp_eq (tgt := 108) (zdec eX7_nextToken 49 rfl) rfl (fun c2 => ?_) (fun c2 => ?_)
    · refine zS_iconst (zdec eX7_nextToken 54 rfl) rfl ?_
      refine zS_goto (tgt := 113) (zdec eX7_nextToken 55 rfl) rfl ?_
      refine zS_istore_n (zdec eX7_nextToken 57 rfl) rfl ?_
      refine zS_iload_n (zdec eX7_nextToken 58 rfl) rfl ?_
      refine zS_if_eq (tgt := 125) (zdec eX7_nextToken 59 rfl) rfl (fun cz => absurd cz (by decide)) (fun cz => ?_)
      refine zS_aload_n (zdec eX7_nextToken 60 rfl) rfl rfl ?_
      refine zS_getfieldE (x := 2) (v := L) (zdec eX7_nextToken 61 rfl) kF_X7_26 ⟨by decide, rfl⟩ rfl rfl rfl ((zset_j (by decide)).trans ((zset_j (by decide)).trans ((zset_j (by decide)).trans RT.1))) ?_
      refine zS_goto (tgt := 138) (zdec eX7_nextToken 62 rfl) rfl ?_
      refine zS_istore_n (zdec eX7_nextToken 70 rfl) rfl ?_
      have hk : tkK B L s = 0 := by unfold tkK; rw [if_neg (by omega)]
      refine L_tok (h := h) (P := P) (S := L) hd (by unfold tkE; rw [hk, if_pos (by omega)]) s0 sL L1 RT0 (L - s).toNat s 0 _ s0 (by omega) (by omega) (by omega) (by unfold tkR rnI tkE; rw [hk, if_pos (by omega)]) ?_ ?_ (fun j j0 j1 w5 w8 => ?_) ?_
      · rw [zset_j (by decide), zset_j (by decide), zset_j (by decide)]; exact i1
      · rw [zset_j (by decide), zset_s]
      · show _ = if j = 5 then _ else if j = 6 then s else if j = 7 then tkK B L s else if j = 8 then _ else P j
        rw [if_neg w5]
        by_cases w6 : j = 6
        · rw [if_pos w6, w6, zset_j (by decide), zset_j (by decide), zset_s]
        · rw [if_neg w6]
          by_cases w7 : j = 7
          · rw [if_pos w7, w7, zset_s, hk]
          · rw [if_neg w7, if_neg w8, zset_j w7, zset_j w8, zset_j w6]; exact i2 j j0 j1 w5
      · exact ((i3.set (by omega)).set (by omega)).set (by omega)
    · refine zS_aload_n (zdec eX7_nextToken 50 rfl) rfl rfl ?_
      refine zS_getfieldE (x := 7) (v := 0) (zdec eX7_nextToken 51 rfl) kF_X7_41 ⟨by decide, rfl⟩ rfl rfl rfl (zset_s _ _ _ _) ?_
      refine zS_iconst (zdec eX7_nextToken 52 rfl) rfl ?_
      refine zS_icmp_ne (tgt := 112) (zdec eX7_nextToken 53 rfl) rfl (fun c3 => ?_) (fun c3 => ?_)
      · refine zS_iconst (zdec eX7_nextToken 56 rfl) rfl ?_
        refine zS_istore_n (zdec eX7_nextToken 57 rfl) rfl ?_
        refine zS_iload_n (zdec eX7_nextToken 58 rfl) rfl ?_
        refine zS_if_eq (tgt := 125) (zdec eX7_nextToken 59 rfl) rfl (fun cz => ?_) (fun cz => absurd (by decide) cz)
        refine zS_aload_n (zdec eX7_nextToken 63 rfl) rfl rfl ?_
        refine zS_getfieldE (x := 2) (v := L) (zdec eX7_nextToken 64 rfl) kF_X7_26 ⟨by decide, rfl⟩ rfl rfl rfl ((zset_j (by decide)).trans ((zset_j (by decide)).trans ((zset_j (by decide)).trans RT.1))) ?_
        refine zS_aload_n (zdec eX7_nextToken 65 rfl) rfl rfl ?_
        refine zS_getfieldE (x := 6) (v := s) (zdec eX7_nextToken 66 rfl) kF_X7_154 ⟨by decide, rfl⟩ rfl rfl rfl ((zset_j (by decide)).trans ((zset_j (by decide)).trans (zset_s _ _ _ _))) ?_
        refine zS_iconst (zdec eX7_nextToken 67 rfl) rfl ?_
        refine zS_iadd (zdec eX7_nextToken 68 rfl) ⟨by omega, by omega⟩ ?_
        refine zS_min (zdec eX7_nextToken 69 rfl) kM_X7_170 rfl (by omega) ?_
        refine zS_istore_n (zdec eX7_nextToken 70 rfl) rfl ?_
        have hk : tkK B L s = 0 := by unfold tkK; rw [if_neg (by omega)]
        refine L_tok (h := h) (P := P) (S := min L (s + 1)) hd (by unfold tkE; rw [hk, if_neg (by omega)]) s0 sL L1 RT0 (min L (s + 1) - s).toNat s 0 _ s0 (by omega) (by omega) (by omega) (by unfold tkR rnI tkE; rw [hk, if_neg (by omega)]) ?_ ?_ (fun j j0 j1 w5 w8 => ?_) ?_
        · rw [zset_j (by decide), zset_j (by decide), zset_j (by decide)]; exact i1
        · rw [zset_j (by decide), zset_s]
        · show _ = if j = 5 then _ else if j = 6 then s else if j = 7 then tkK B L s else if j = 8 then _ else P j
          rw [if_neg w5]
          by_cases w6 : j = 6
          · rw [if_pos w6, w6, zset_j (by decide), zset_j (by decide), zset_s]
          · rw [if_neg w6]
            by_cases w7 : j = 7
            · rw [if_pos w7, w7, zset_s, hk]
            · rw [if_neg w7, if_neg w8, zset_j w7, zset_j w8, zset_j w6]; exact i2 j j0 j1 w5
        · exact ((i3.set (by omega)).set (by omega)).set (by omega)
      · refine zS_iconst (zdec eX7_nextToken 54 rfl) rfl ?_
        refine zS_goto (tgt := 113) (zdec eX7_nextToken 55 rfl) rfl ?_
        refine zS_istore_n (zdec eX7_nextToken 57 rfl) rfl ?_
        refine zS_iload_n (zdec eX7_nextToken 58 rfl) rfl ?_
        refine zS_if_eq (tgt := 125) (zdec eX7_nextToken 59 rfl) rfl (fun cz => absurd cz (by decide)) (fun cz => ?_)
        refine zS_aload_n (zdec eX7_nextToken 60 rfl) rfl rfl ?_
        refine zS_getfieldE (x := 2) (v := L) (zdec eX7_nextToken 61 rfl) kF_X7_26 ⟨by decide, rfl⟩ rfl rfl rfl ((zset_j (by decide)).trans ((zset_j (by decide)).trans ((zset_j (by decide)).trans RT.1))) ?_
        refine zS_goto (tgt := 138) (zdec eX7_nextToken 62 rfl) rfl ?_
        refine zS_istore_n (zdec eX7_nextToken 70 rfl) rfl ?_
        have hk : tkK B L s = 0 := by unfold tkK; rw [if_neg (by omega)]
        refine L_tok (h := h) (P := P) (S := L) hd (by unfold tkE; rw [hk, if_pos (by omega)]) s0 sL L1 RT0 (L - s).toNat s 0 _ s0 (by omega) (by omega) (by omega) (by unfold tkR rnI tkE; rw [hk, if_pos (by omega)]) ?_ ?_ (fun j j0 j1 w5 w8 => ?_) ?_
        · rw [zset_j (by decide), zset_j (by decide), zset_j (by decide)]; exact i1
        · rw [zset_j (by decide), zset_s]
        · show _ = if j = 5 then _ else if j = 6 then s else if j = 7 then tkK B L s else if j = 8 then _ else P j
          rw [if_neg w5]
          by_cases w6 : j = 6
          · rw [if_pos w6, w6, zset_j (by decide), zset_j (by decide), zset_s]
          · rw [if_neg w6]
            by_cases w7 : j = 7
            · rw [if_pos w7, w7, zset_s, hk]
            · rw [if_neg w7, if_neg w8, zset_j w7, zset_j w8, zset_j w6]; exact i2 j j0 j1 w5
        · exact ((i3.set (by omega)).set (by omega)).set (by omega)
  · refine zS_aload_n (zdec eX7_nextToken 37 rfl) rfl rfl ?_
    refine zS_getref (i := 11) (zdec eX7_nextToken 38 rfl) kF_X7_9 ⟨by decide, rfl⟩ rfl rfl rfl rfl rfl ?_
    refine zS_aload_n (zdec eX7_nextToken 39 rfl) rfl rfl ?_
    refine zS_getfieldE (x := 5) (v := s) (zdec eX7_nextToken 40 rfl) kF_X7_35 ⟨by decide, rfl⟩ rfl rfl rfl ((zset_j (by decide)).trans ((zset_j (by decide)).trans i1)) ?_
    refine zS_baloadE (v := (B s)) (zdec eX7_nextToken 41 rfl) (Or.inl rfl) ⟨by decide, rfl⟩ (by omega) (by omega) ((congrFun (zset_k (by decide)) _).trans ((congrFun (zset_k (by decide)) _).trans (RT.2 _ (by omega) (by omega)))) ?_
    refine zsI (M' := mX7_kindOf) (As := [zI (B s)]) (st := [zA 1]) (zdec eX7_nextToken 42 rfl) kM_X7_166 kS_X7_kindOf rfl rfl rfl (by omega) c_kindOf ?_
    refine zS_goto (tgt := 89) (zdec eX7_nextToken 43 rfl) rfl ?_
    refine zS_putfield (x := 7) (zdec eX7_nextToken 45 rfl) kF_X7_41 (Or.inl kf7_7) ⟨by decide, rfl⟩ rfl rfl rfl (Or.inl (fun q => by cases q)) ?_
    refine zS_aload_n (zdec eX7_nextToken 46 rfl) rfl rfl ?_
    refine zS_getfieldE (x := 7) (v := (kdB (B s))) (zdec eX7_nextToken 47 rfl) kF_X7_41 ⟨by decide, rfl⟩ rfl rfl rfl (zset_s _ _ _ _) ?_
    refine zS_iconst (zdec eX7_nextToken 48 rfl) rfl ?_
    refine zS_icmp_eq (tgt := 108) (zdec eX7_nextToken 49 rfl) rfl (fun c2 => ?_) (fun c2 => ?_)
    · refine zS_iconst (zdec eX7_nextToken 54 rfl) rfl ?_
      refine zS_goto (tgt := 113) (zdec eX7_nextToken 55 rfl) rfl ?_
      refine zS_istore_n (zdec eX7_nextToken 57 rfl) rfl ?_
      refine zS_iload_n (zdec eX7_nextToken 58 rfl) rfl ?_
      refine zS_if_eq (tgt := 125) (zdec eX7_nextToken 59 rfl) rfl (fun cz => absurd cz (by decide)) (fun cz => ?_)
      refine zS_aload_n (zdec eX7_nextToken 60 rfl) rfl rfl ?_
      refine zS_getfieldE (x := 2) (v := L) (zdec eX7_nextToken 61 rfl) kF_X7_26 ⟨by decide, rfl⟩ rfl rfl rfl ((zset_j (by decide)).trans ((zset_j (by decide)).trans ((zset_j (by decide)).trans RT.1))) ?_
      refine zS_goto (tgt := 138) (zdec eX7_nextToken 62 rfl) rfl ?_
      refine zS_istore_n (zdec eX7_nextToken 70 rfl) rfl ?_
      have hk : tkK B L s = kdB (B s) := by unfold tkK; rw [if_pos (by omega)]
      refine L_tok (h := h) (P := P) (S := L) hd (by unfold tkE; rw [hk, if_pos (by omega)]) s0 sL L1 RT0 (L - s).toNat s 0 _ s0 (by omega) (by omega) (by omega) (by unfold tkR rnI tkE; rw [hk, if_pos (by omega)]) ?_ ?_ (fun j j0 j1 w5 w8 => ?_) ?_
      · rw [zset_j (by decide), zset_j (by decide), zset_j (by decide)]; exact i1
      · rw [zset_j (by decide), zset_s]
      · show _ = if j = 5 then _ else if j = 6 then s else if j = 7 then tkK B L s else if j = 8 then _ else P j
        rw [if_neg w5]
        by_cases w6 : j = 6
        · rw [if_pos w6, w6, zset_j (by decide), zset_j (by decide), zset_s]
        · rw [if_neg w6]
          by_cases w7 : j = 7
          · rw [if_pos w7, w7, zset_s, hk]
          · rw [if_neg w7, if_neg w8, zset_j w7, zset_j w8, zset_j w6]; exact i2 j j0 j1 w5
      · exact ((i3.set (by omega)).set (by omega)).set (by omega)
    · refine zS_aload_n (zdec eX7_nextToken 50 rfl) rfl rfl ?_
      refine zS_getfieldE (x := 7) (v := (kdB (B s))) (zdec eX7_nextToken 51 rfl) kF_X7_41 ⟨by decide, rfl⟩ rfl rfl rfl (zset_s _ _ _ _) ?_
      refine zS_iconst (zdec eX7_nextToken 52 rfl) rfl ?_
      refine zS_icmp_ne (tgt := 112) (zdec eX7_nextToken 53 rfl) rfl (fun c3 => ?_) (fun c3 => ?_)
      · refine zS_iconst (zdec eX7_nextToken 56 rfl) rfl ?_
        refine zS_istore_n (zdec eX7_nextToken 57 rfl) rfl ?_
        refine zS_iload_n (zdec eX7_nextToken 58 rfl) rfl ?_
        refine zS_if_eq (tgt := 125) (zdec eX7_nextToken 59 rfl) rfl (fun cz => ?_) (fun cz => absurd (by decide) cz)
        refine zS_aload_n (zdec eX7_nextToken 63 rfl) rfl rfl ?_
        refine zS_getfieldE (x := 2) (v := L) (zdec eX7_nextToken 64 rfl) kF_X7_26 ⟨by decide, rfl⟩ rfl rfl rfl ((zset_j (by decide)).trans ((zset_j (by decide)).trans ((zset_j (by decide)).trans RT.1))) ?_
        refine zS_aload_n (zdec eX7_nextToken 65 rfl) rfl rfl ?_
        refine zS_getfieldE (x := 6) (v := s) (zdec eX7_nextToken 66 rfl) kF_X7_154 ⟨by decide, rfl⟩ rfl rfl rfl ((zset_j (by decide)).trans ((zset_j (by decide)).trans (zset_s _ _ _ _))) ?_
        refine zS_iconst (zdec eX7_nextToken 67 rfl) rfl ?_
        refine zS_iadd (zdec eX7_nextToken 68 rfl) ⟨by omega, by omega⟩ ?_
        refine zS_min (zdec eX7_nextToken 69 rfl) kM_X7_170 rfl (by omega) ?_
        refine zS_istore_n (zdec eX7_nextToken 70 rfl) rfl ?_
        have hk : tkK B L s = kdB (B s) := by unfold tkK; rw [if_pos (by omega)]
        refine L_tok (h := h) (P := P) (S := min L (s + 1)) hd (by unfold tkE; rw [hk, if_neg (by omega)]) s0 sL L1 RT0 (min L (s + 1) - s).toNat s 0 _ s0 (by omega) (by omega) (by omega) (by unfold tkR rnI tkE; rw [hk, if_neg (by omega)]) ?_ ?_ (fun j j0 j1 w5 w8 => ?_) ?_
        · rw [zset_j (by decide), zset_j (by decide), zset_j (by decide)]; exact i1
        · rw [zset_j (by decide), zset_s]
        · show _ = if j = 5 then _ else if j = 6 then s else if j = 7 then tkK B L s else if j = 8 then _ else P j
          rw [if_neg w5]
          by_cases w6 : j = 6
          · rw [if_pos w6, w6, zset_j (by decide), zset_j (by decide), zset_s]
          · rw [if_neg w6]
            by_cases w7 : j = 7
            · rw [if_pos w7, w7, zset_s, hk]
            · rw [if_neg w7, if_neg w8, zset_j w7, zset_j w8, zset_j w6]; exact i2 j j0 j1 w5
        · exact ((i3.set (by omega)).set (by omega)).set (by omega)
      · refine zS_iconst (zdec eX7_nextToken 54 rfl) rfl ?_
        refine zS_goto (tgt := 113) (zdec eX7_nextToken 55 rfl) rfl ?_
        refine zS_istore_n (zdec eX7_nextToken 57 rfl) rfl ?_
        refine zS_iload_n (zdec eX7_nextToken 58 rfl) rfl ?_
        refine zS_if_eq (tgt := 125) (zdec eX7_nextToken 59 rfl) rfl (fun cz => absurd cz (by decide)) (fun cz => ?_)
        refine zS_aload_n (zdec eX7_nextToken 60 rfl) rfl rfl ?_
        refine zS_getfieldE (x := 2) (v := L) (zdec eX7_nextToken 61 rfl) kF_X7_26 ⟨by decide, rfl⟩ rfl rfl rfl ((zset_j (by decide)).trans ((zset_j (by decide)).trans ((zset_j (by decide)).trans RT.1))) ?_
        refine zS_goto (tgt := 138) (zdec eX7_nextToken 62 rfl) rfl ?_
        refine zS_istore_n (zdec eX7_nextToken 70 rfl) rfl ?_
        have hk : tkK B L s = kdB (B s) := by unfold tkK; rw [if_pos (by omega)]
        refine L_tok (h := h) (P := P) (S := L) hd (by unfold tkE; rw [hk, if_pos (by omega)]) s0 sL L1 RT0 (L - s).toNat s 0 _ s0 (by omega) (by omega) (by omega) (by unfold tkR rnI tkE; rw [hk, if_pos (by omega)]) ?_ ?_ (fun j j0 j1 w5 w8 => ?_) ?_
        · rw [zset_j (by decide), zset_j (by decide), zset_j (by decide)]; exact i1
        · rw [zset_j (by decide), zset_s]
        · show _ = if j = 5 then _ else if j = 6 then s else if j = 7 then tkK B L s else if j = 8 then _ else P j
          rw [if_neg w5]
          by_cases w6 : j = 6
          · rw [if_pos w6, w6, zset_j (by decide), zset_j (by decide), zset_s]
          · rw [if_neg w6]
            by_cases w7 : j = 7
            · rw [if_pos w7, w7, zset_s, hk]
            · rw [if_neg w7, if_neg w8, zset_j w7, zset_j w8, zset_j w6]; exact i2 j j0 j1 w5
        · exact ((i3.set (by omega)).set (by omega)).set (by omega)
theorem L_skip {d : Nat} {h : zH} {B : Int → Int} {L : Int} {P : Tp} {s : Int} (hd : 1 ≤ d) (L1 : L ≤ 700) (RT : TC h B L P) : ∀ (n : Nat) (a : Int) (h1 : zH), 0 ≤ a → a + n = L → skN B L n a = s → h1 1 5 = a → (∀ j, 3 ≤ j → j ≤ 8 → j ≠ 5 → h1 1 j = P j) → Fr (fun k j => k = 1 ∧ 3 ≤ j) h h1 → zS mX7_nextToken (zr d) 8 [zA 1, zN, zN] [] TT h1 (zAnV (fun h' => TC h' B L (tkP B L P s) ∧ Fr s1 h h')) := by
  intro n
  induction n with
  | zero =>
    intro a h1 a0 a2 r0 i1 i2 i3
    refine zS_aload_n (zdec eX7_nextToken 4 rfl) rfl rfl ?_
    refine zS_getfieldE (x := 5) (v := a) (zdec eX7_nextToken 5 rfl) kF_X7_35 ⟨by decide, rfl⟩ rfl rfl rfl i1 ?_
    refine zS_aload_n (zdec eX7_nextToken 6 rfl) rfl rfl ?_
    refine zS_getfieldE (x := 2) (v := L) (zdec eX7_nextToken 7 rfl) kF_X7_26 ⟨by decide, rfl⟩ rfl rfl rfl ((i3 _ _ (by omega)).trans RT.1) ?_
    refine zS_icmp_ge (tgt := 48) (zdec eX7_nextToken 8 rfl) rfl (fun cz => ?_) (fun cz => absurd (by omega) cz)
    have r0 : a = s := r0
    exact M_tok hd (by omega) (by omega) L1 ⟨RT.1, RT.2.1⟩ (i1.trans r0) i2 i3
  | succ n ih =>
    intro a h1 a0 a2 r0 i1 i2 i3
    refine zS_aload_n (zdec eX7_nextToken 4 rfl) rfl rfl ?_
    refine zS_getfieldE (x := 5) (v := a) (zdec eX7_nextToken 5 rfl) kF_X7_35 ⟨by decide, rfl⟩ rfl rfl rfl i1 ?_
    refine zS_aload_n (zdec eX7_nextToken 6 rfl) rfl rfl ?_
    refine zS_getfieldE (x := 2) (v := L) (zdec eX7_nextToken 7 rfl) kF_X7_26 ⟨by decide, rfl⟩ rfl rfl rfl ((i3 _ _ (by omega)).trans RT.1) ?_
    refine zS_icmp_ge (tgt := 48) (zdec eX7_nextToken 8 rfl) rfl (fun c1 => ?_) (fun c1 => ?_)
    · have r1 : a = s := by rw [← r0]; unfold skN; rw [if_neg (fun w => by have := w.1; omega)]
      exact M_tok hd (by omega) (by omega) L1 ⟨RT.1, RT.2.1⟩ (i1.trans r1) i2 i3
    · refine zS_aload_n (zdec eX7_nextToken 9 rfl) rfl rfl ?_
      refine zS_getref (i := 11) (zdec eX7_nextToken 10 rfl) kF_X7_9 ⟨by decide, rfl⟩ rfl rfl rfl rfl rfl ?_
      refine zS_aload_n (zdec eX7_nextToken 11 rfl) rfl rfl ?_
      refine zS_getfieldE (x := 5) (v := a) (zdec eX7_nextToken 12 rfl) kF_X7_35 ⟨by decide, rfl⟩ rfl rfl rfl i1 ?_
      refine zS_baloadE (v := (B a)) (zdec eX7_nextToken 13 rfl) (Or.inl rfl) ⟨by decide, rfl⟩ (by omega) (by omega) ((i3 _ _ (by omega)).trans (RT.2.1 _ (by omega) (by omega))) ?_
      refine zsI (M' := mX7_kindOf) (As := [zI (B a)]) (st := []) (zdec eX7_nextToken 14 rfl) kM_X7_166 kS_X7_kindOf rfl rfl rfl (by omega) c_kindOf ?_
      refine zS_iconst (zdec eX7_nextToken 15 rfl) rfl ?_
      refine zS_icmp_ne (tgt := 48) (zdec eX7_nextToken 16 rfl) rfl (fun c2 => ?_) (fun c2 => ?_)
      · have r1 : a = s := by rw [← r0]; unfold skN; rw [if_neg (fun w => c2 w.2)]
        exact M_tok hd (by omega) (by omega) L1 ⟨RT.1, RT.2.1⟩ (i1.trans r1) i2 i3
      · refine zS_aload_n (zdec eX7_nextToken 17 rfl) rfl rfl ?_
        refine zS_dup (zdec eX7_nextToken 18 rfl) (fun q => by cases q) ?_
        refine zS_getfieldE (x := 5) (v := a) (zdec eX7_nextToken 19 rfl) kF_X7_35 ⟨by decide, rfl⟩ rfl rfl rfl i1 ?_
        refine zS_iconst (zdec eX7_nextToken 20 rfl) rfl ?_
        refine zS_iadd (zdec eX7_nextToken 21 rfl) ⟨by omega, by omega⟩ ?_
        refine zS_putfield (x := 5) (zdec eX7_nextToken 22 rfl) kF_X7_35 (Or.inl kf7_5) ⟨by decide, rfl⟩ rfl rfl rfl (Or.inl (fun q => by cases q)) ?_
        refine zS_goto (tgt := 8) (zdec eX7_nextToken 23 rfl) rfl ?_
        refine ih (a + 1) _ (by omega) (by omega) ?_ (zset_s _ _ _ _) (fun j j0 j1 w5 => by rw [zset_j w5]; exact i2 j j0 j1 w5) (i3.set (by omega))
        rw [← r0]
        conv => rhs; unfold skN
        rw [if_pos ⟨by omega, c2⟩]
theorem c_nextToken0 {d : Nat} {h : zH} {B : Int → Int} {L : Int} {P : Tp} (hd : 1 ≤ d) (v1 : 0 ≤ L ∧ L ≤ 700) (v2 : 0 ≤ P 5 ∧ P 5 ≤ L) (RT : TC h B L P) : zMV d mX7_nextToken [zA 1] h (fun h' => TC h' B L (nxP B L P) ∧ Fr s1 h h') := by
  have r3 := RT.2.2 3 (by omega) (by omega)
  refine zmet rfl rfl rfl ?_
  refine zS_aload_n (zdec eX7_nextToken 0 rfl) rfl rfl ?_
  refine zS_getfieldE (x := 3) (v := (P 3)) (zdec eX7_nextToken 1 rfl) kF_X7_32 ⟨by decide, rfl⟩ rfl rfl rfl r3 ?_
  refine zS_if_eq (tgt := 8) (zdec eX7_nextToken 2 rfl) rfl (fun c1 => ?_) (fun c1 => ?_)
  · unfold nxP
    rw [if_pos c1]
    exact L_skip hd v1.2 RT (L - P 5).toNat (P 5) h (by omega) (by omega) rfl (RT.2.2 5 (by omega) (by omega)) (fun j j0 j1 _ => RT.2.2 j j0 j1) Fr.rf
  · exact zlMV (zdec eX7_nextToken 3 rfl) rfl ⟨by unfold nxP; rw [if_neg c1]; exact RT, Fr.rf⟩
theorem c_nextToken {d : Nat} {h : zH} {B : Int → Int} {L : Int} {P : Tp} (hd : 1 ≤ d) (V : TV L P) (RT : TC h B L P) : zMV d mX7_nextToken [zA 1] h (fun h' => TC h' B L (nxP B L P) ∧ Fr s1 h h') := c_nextToken0 hd V.1 (by have := V.2.1; omega) RT

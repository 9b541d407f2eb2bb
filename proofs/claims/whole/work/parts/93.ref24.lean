theorem zS_w {M : zM} {r : zB} {pc : Nat} {ls st : List zV} {T : zT} {h : zH} {Q Q' : Option zV → zT → zH → Prop} (k : zS M r pc ls st T h Q) (w : ∀ rv T h, Q rv T h → Q' rv T h) : zS M r pc ls st T h Q' :=
  fun p l e R s m args below meth c Qm G0 T0 hC => k p l e R s m args below meth c Qm G0 T0 ⟨hC.1, hC.2.1, hC.2.2.1, hC.2.2.2.1, hC.2.2.2.2.1, hC.2.2.2.2.2.1, hC.2.2.2.2.2.2.1, hC.2.2.2.2.2.2.2.1, fun G T h H locs la pc rv a b c d e f => hC.2.2.2.2.2.2.2.2 G T h H locs la pc rv a b c d e (w _ _ _ f)⟩
theorem wd_inj {f g : Int → Int} : ∀ n m : Nat, (∀ i : Int, 0 ≤ i → i < n → 97 ≤ f i ∧ f i ≤ 122) → (∀ i : Int, 0 ≤ i → i < m → 97 ≤ g i ∧ g i ≤ 122) → wdN f n = wdN g m → n = m ∧ ∀ i : Int, 0 ≤ i → i < n → f i = g i := by
  intro n
  induction n with
  | zero =>
    intro m hf hg e
    cases m with
    | zero => exact ⟨rfl, fun i i0 i1 => by omega⟩
    | succ m =>
      have b := wdN_b g m (fun i i0 i1 => hg i i0 (by omega))
      have q := hg m (by omega) (by omega)
      have e' : (0 : Int) = 27 * wdN g m + (g m - 96) := e
      omega
  | succ n ih =>
    intro m hf hg e
    have bf := wdN_b f n (fun i i0 i1 => hf i i0 (by omega))
    have qf := hf n (by omega) (by omega)
    cases m with
    | zero =>
      have e' : 27 * wdN f n + (f n - 96) = 0 := e
      omega
    | succ m =>
      have qg := hg m (by omega) (by omega)
      have e' : 27 * wdN f n + (f n - 96) = 27 * wdN g m + (g m - 96) := e
      obtain ⟨a, b⟩ := ih m (fun i i0 i1 => hf i i0 (by omega)) (fun i i0 i1 => hg i i0 (by omega)) (by omega)
      subst a
      refine ⟨rfl, fun i i0 i1 => ?_⟩
      by_cases u : i = n
      · subst u; omega
      · exact b i i0 (by omega)
def PR (h : zH) (B : Int → Int) (L : Int) (P : Tp) : Prop := BR h B L ∧ h 108 12 = P 3 ∧ h 108 13 = P 4 ∧ (P 3 = 0 → h 108 7 = P 5 ∧ h 108 8 = P 7 ∧ h 108 9 = P 6 ∧ (P 7 = 2 → min 100000 (h 108 10) = P 8 ∧ 0 ≤ h 108 10 ∧ h 108 10 ≤ 1000009) ∧ (P 7 = 1 → (∀ i, 0 ≤ i → i < P 5 - P 6 → 97 ≤ B (P 6 + i) ∧ B (P 6 + i) ≤ 122) ∧ h 108 11 = wcC (fun i => B (P 6 + i)) (P 5 - P 6)))
theorem PR.of {h h' : zH} {B : Int → Int} {L : Int} {P : Tp} (R : PR h B L P) (e : ∀ k j, (k = 108 ∧ 6 ≤ j ∧ j ≤ 13) ∨ k = 113 → h' k j = h k j) : PR h' B L P := by
  refine ⟨⟨(e _ _ (by omega)).trans R.1.1, fun i i0 i1 => (e _ _ (by omega)).trans (R.1.2 i i0 i1)⟩, (e _ _ (by omega)).trans R.2.1, (e _ _ (by omega)).trans R.2.2.1, fun z => ?_⟩
  rw [e 108 7 (by omega), e 108 8 (by omega), e 108 9 (by omega), e 108 10 (by omega), e 108 11 (by omega)]
  exact R.2.2.2 z
theorem PR.fr {S : Int → Int → Prop} {h h' : zH} {B : Int → Int} {L : Int} {P : Tp} (R : PR h B L P) (f : Fr S h h') (hn : ∀ k j, S k j → ¬ ((k = 108 ∧ 6 ≤ j ∧ j ≤ 13) ∨ k = 113)) : PR h' B L P := R.of (fun k j a => f k j (fun z => hn k j z a))
theorem PR.nx {h h' : zH} {B : Int → Int} {L : Int} {P : Tp} (R : PR h B L P) (p3 : P 3 = 0) (N : NR h' B L (skI B L (P 5))) (f : Fr sN h h') : PR h' B L (nxP B L P) := by
  have e : nxP B L P = tkP B L P (skI B L (P 5)) := by unfold nxP; rw [if_pos p3]
  rw [e]
  exact ⟨R.1.fr f (fun k j z => by omega), (f _ _ (by omega)).trans R.2.1, (f _ _ (by omega)).trans R.2.2.1, fun _ => N⟩
abbrev sPR : Int → Int → Prop := fun k j => k = 108 ∧ 7 ≤ j ∧ j ≤ 13
theorem r_nx {d : Nat} {h : zH} {B : Int → Int} {L : Int} {P : Tp} (hd : 1 ≤ d) (V : TV L P) (p3 : P 3 = 0) (R : PR h B L P) : zMV d mX10_next [zA 108] h (fun h' => PR h' B L (nxP B L P) ∧ Fr sPR h h') := by
  have v1 := V.1
  have v2 := V.2.1
  refine zmet rfl rfl rfl ?_
  exact zS_w (L_rskip hd v1.2 R.1 (L - P 5).toNat (P 5) h (by omega) (by omega) rfl (R.2.2.2 p3).1 Fr.rf) (fun rv T h' ⟨a, b, q⟩ => ⟨a, b, R.nx p3 q.1 q.2, q.2.mono (fun k j z => by omega)⟩)
theorem nxP_f {B : Int → Int} {L : Int} {P : Tp} (h : P 3 ≠ 0) : nxP B L P = P := by unfold nxP; rw [if_neg h]
theorem rfu_f {P : Tp} {c : Int} (h : P 3 ≠ 0) : rfu P c = P := by unfold rfu; rw [if_neg h]
theorem rfu_3 {P : Tp} {c : Int} (h : P 3 = 0) : rfu P c 3 = c := by unfold rfu; rw [if_pos h]; rfl
theorem rfu_4 {P : Tp} {c : Int} (h : P 3 = 0) : rfu P c 4 = P 6 := by unfold rfu; rw [if_pos h]; rfl
theorem r_errs {d : Nat} {h : zH} {B : Int → Int} {L : Int} {P : Tp} {c : Int} (c1 : 1 ≤ c) (R : PR h B L P) : zMV d mX10_errs [zA 108, zI c] h (fun h' => PR h' B L (rfu P c) ∧ Fr (fun k j => k = 108 ∧ 12 ≤ j ∧ j ≤ 13) h h') := by
  refine zmet rfl rfl rfl ?_
  refine zS_aload_n (zdec eX10_errs 0 rfl) rfl rfl ?_
  refine zS_getfieldE (x := 12) (v := (P 3)) (zdec eX10_errs 1 rfl) kF_X10_123 ⟨by decide, rfl⟩ rfl rfl rfl R.2.1 ?_
  refine zS_if_eq (tgt := 8) (zdec eX10_errs 2 rfl) rfl (fun c1 => ?_) (fun c1 => ?_)
  · refine zS_aload_n (zdec eX10_errs 4 rfl) rfl rfl ?_
    refine zS_iload_n (zdec eX10_errs 5 rfl) rfl ?_
    refine zS_putfield (x := 12) (zdec eX10_errs 6 rfl) kF_X10_123 (Or.inl kf10_12) ⟨by decide, rfl⟩ rfl rfl rfl (Or.inl (fun q => by cases q)) ?_
    refine zS_aload_n (zdec eX10_errs 7 rfl) rfl rfl ?_
    refine zS_aload_n (zdec eX10_errs 8 rfl) rfl rfl ?_
    refine zS_getfieldE (x := 9) (v := (P 6)) (zdec eX10_errs 9 rfl) kF_X10_102 ⟨by decide, rfl⟩ rfl rfl rfl ((zset_j (by decide)).trans (R.2.2.2 (by omega)).2.2.1) ?_
    refine zS_putfield (x := 13) (zdec eX10_errs 10 rfl) kF_X10_126 (Or.inl kf10_13) ⟨by decide, rfl⟩ rfl rfl rfl (Or.inl (fun q => by cases q)) ?_
    exact zlMV (zdec eX10_errs 11 rfl) rfl ⟨⟨(R.1.set (by omega) (by omega)).set (by omega) (by omega), by rw [rfu_3 (by omega)]; exact (zset_n (by omega)).trans (zset_s _ _ _ _), by rw [rfu_4 (by omega)]; exact zset_s _ _ _ _, fun z => by rw [rfu_3 (by omega)] at z; omega⟩, (Fr.rf.set (by omega)).set (by omega)⟩
  · exact zlMV (zdec eX10_errs 3 rfl) rfl ⟨by rw [rfu_f (by omega)]; exact R, Fr.rf⟩

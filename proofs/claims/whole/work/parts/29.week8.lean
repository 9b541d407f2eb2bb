abbrev sPlan : Int → Int → Prop := fun k j => k = 28 ∨ k = 29 ∨ k = 30 ∨ k = 31 ∨ (k = 14 ∧ (j = 11 ∨ j = 14))
theorem take_s {l : List Int} {e : Int} (h0 : 0 ≤ e) (h1 : e < l.length) : l.take (e + 1).toNat = l.take e.toNat ++ [l.getD e.toNat 0] := by
  rw [show (e + 1).toNat = e.toNat + 1 by omega, List.take_succ, List.getD_eq_getElem?_getD, List.getElem?_eq_getElem (show e.toNat < l.length by omega)]
  rfl
theorem not_take {p : Pb} {l : List Int} (hs : l.Pairwise (ltP p)) {i : Nat} (h : i < l.length) : l.getD i 0 ∉ l.take i := fun hm => by
  obtain ⟨j, hj, e⟩ := List.mem_take_iff_getElem.mp hm
  rw [List.getD_eq_getElem?_getD, List.getElem?_eq_getElem h] at e
  have lt := List.pairwise_iff_getElem.mp hs j i (by omega) h (by omega)
  rw [e] at lt
  exact ltP_as lt lt
theorem bl_pos {p : Pb} {b : Int} (h : 0 ≤ b ∧ b < pNb p ∧ pIn p b = true) : bl p b := ⟨h.1, h.2.1⟩
theorem L_plan {d : Nat} {h : zH} {p : Pb} (hd : 3 ≤ d) (V : PV p) (R : WC h p) : ∀ (n : Nat) (e : Int) (h1 : zH), 0 ≤ e → e + n = ((ordP p).length : Int) → PlC h1 p (planQ p ((ordP p).take e.toNat) (fun _ => pDays p)) → OrdC h1 (ordP p) → h1 14 14 = missQ p ((ordP p).take e.toNat) (fun _ => pDays p) 0 → Fr sPlan h h1 → zS mX8_planByLaw (zr d) 10 [zA 14, zI e, zN] [] TT h1 (zAnV (fun h' => PlC h' p (planP p) ∧ OrdC h' (ordP p) ∧ h' 14 14 = missP p ∧ Fr sPlan h h')) := by
  intro n
  induction n with
  | zero =>
    intro e h1 a1 a2 i1 i2 i3 i4
    have R0 := R
    have R : WC h1 p := R.fr V i4 (fun k j z => by unfold wcP; omega)
    have nb := V.nb
    have dy := V.days
    refine zS_iload_n (zdec eX8_planByLaw 6 rfl) rfl ?_
    refine zS_aload_n (zdec eX8_planByLaw 7 rfl) rfl rfl ?_
    refine zS_getfieldE (x := 11) (v := ((ordP p).length : Int)) (zdec eX8_planByLaw 8 rfl) kF_X8_95 ⟨by decide, rfl⟩ rfl rfl rfl i2.1 ?_
    refine zS_icmp_ge (tgt := 51) (zdec eX8_planByLaw 9 rfl) rfl (fun cz => ?_) (fun cz => absurd (by omega) cz)
    exact zlMV (zdec eX8_planByLaw 29 rfl) rfl ⟨by rw [show e.toNat = (ordP p).length by omega, List.take_length] at i1; exact i1, i2, by rw [show e.toNat = (ordP p).length by omega, List.take_length] at i3; exact i3, i4⟩
  | succ n ih =>
    intro e h1 a1 a2 i1 i2 i3 i4
    have R0 := R
    have R : WC h1 p := R.fr V i4 (fun k j z => by unfold wcP; omega)
    have nb := V.nb
    have dy := V.days
    have os := ordP_is V
    have hyb := (os.2 _).mp (getD_mem (l := ordP p) (i := e.toNat) (by omega))
    have hy0 := i2.2 e.toNat (by omega)
    rw [Int.toNat_of_nonneg (show 0 ≤ e by omega)] at hy0
    have ts := take_s (l := ordP p) (e := e) (by omega) (by omega)
    have nt := not_take os.1 (i := e.toNat) (by omega)
    have qy := planQ_not (p := p) (q := (fun _ => pDays p)) nt
    have mr := missQ_rng V (l := (ordP p).take e.toNat) (q := (fun _ => pDays p)) (m := 0) (fun b hb => bl_pos ((os.2 b).mp (List.mem_of_mem_take hb))) (by omega)
    obtain ⟨y, hyd⟩ : ∃ y, (ordP p).getD e.toNat 0 = y := ⟨_, rfl⟩
    rw [hyd] at hy0 hyb ts qy
    obtain ⟨q, hq⟩ : ∃ q, planQ p ((ordP p).take e.toNat) (fun _ => pDays p) = q := ⟨_, rfl⟩
    rw [hq] at qy i1
    have hy : h1 29 e = y := hy0
    have ln : ((ordP p).length : Int) ≤ pNb p := by have := ordI_len (p := p) (e := pNb p) (by omega); exact this
    have br := bestP_rng V q y
    have pq := planQ_app (p := p) (b := y) (l := (ordP p).take e.toNat) (q := (fun _ => pDays p))
    have mq := missQ_app (p := p) (b := y) (l := (ordP p).take e.toNat) (q := (fun _ => pDays p)) (m := 0)
    rw [← ts, hq] at pq mq
    rw [← i3] at mr mq
    refine zS_iload_n (zdec eX8_planByLaw 6 rfl) rfl ?_
    refine zS_aload_n (zdec eX8_planByLaw 7 rfl) rfl rfl ?_
    refine zS_getfieldE (x := 11) (v := ((ordP p).length : Int)) (zdec eX8_planByLaw 8 rfl) kF_X8_95 ⟨by decide, rfl⟩ rfl rfl rfl i2.1 ?_
    refine zS_icmp_ge (tgt := 51) (zdec eX8_planByLaw 9 rfl) rfl (fun cz => absurd cz (by omega)) (fun cz => ?_)
    refine zS_aload_n (zdec eX8_planByLaw 10 rfl) rfl rfl ?_
    refine zS_aload_n (zdec eX8_planByLaw 11 rfl) rfl rfl ?_
    refine zS_getref (i := 22) (zdec eX8_planByLaw 12 rfl) kF_X8_28 ⟨by decide, rfl⟩ rfl rfl rfl rfl rfl ?_
    refine zS_iload_n (zdec eX8_planByLaw 13 rfl) rfl ?_
    refine zS_ialoadE (v := y) (zdec eX8_planByLaw 14 rfl) ⟨by decide, rfl⟩ (by omega) (by omega) hy ?_
    refine zvMI (M' := mX8_dayByLaw) (As := [zI y]) (st := []) (zdec eX8_planByLaw 15 rfl) kM_X8_98 kV_X8_dayByLaw ⟨by decide, rfl⟩ rfl rfl rfl rfl rfl (by omega) (c_dayByLaw (by omega) V R i1 hyb.1 hyb.2.1 mr) (fun x2 h2 ⟨hx2, hh2⟩ => ?_)
    have hy2 : h2 29 e = y := by rw [hh2, zset_k (by decide)]; exact hy
    have R2 : WC h2 p := by rw [hh2]; exact R.set V (by unfold wcP; omega)
    have S2 : PlC h2 p q := by rw [hh2]; exact i1.set (by decide) (by decide) (by decide)
    have m2 : h2 14 14 = missQ p ((ordP p).take (e + 1).toNat) (fun _ => pDays p) 0 := by rw [hh2, zset_s, mq]
    have f2 : Fr sPlan h h2 := by rw [hh2]; exact i4.set (Or.inr (Or.inr (Or.inr (Or.inr ⟨rfl, Or.inr rfl⟩))))
    have O2 : OrdC h2 (ordP p) := by rw [hh2]; exact i2.of (zset_j (by decide)) (fun j => by rw [zset_k (by decide)])
    refine zS_istore_n (zdec eX8_planByLaw 16 rfl) rfl ?_
    refine zS_iload_n (zdec eX8_planByLaw 17 rfl) rfl ?_
    refine zS_iconst (zdec eX8_planByLaw 18 rfl) rfl ?_
    refine zS_icmp_eq (tgt := 45) (zdec eX8_planByLaw 19 rfl) rfl (fun c1 => ?_) (fun c1 => ?_)
    · refine zS_iinc (zdec eX8_planByLaw 27 rfl) rfl rfl ⟨by omega, by omega⟩ ?_
      refine zS_goto (tgt := 10) (zdec eX8_planByLaw 28 rfl) rfl ?_
      refine zS_forget (i := 2) ?_
      exact ih (e + 1) h2 (by omega) (by omega) (by rw [pq, show bestP p q y = pDays p by unfold bst at hx2; split at hx2 <;> omega, ← qy, updI_id]; exact S2) O2 m2 f2
    · refine zS_aload_n (zdec eX8_planByLaw 20 rfl) rfl rfl ?_
      refine zS_aload_n (zdec eX8_planByLaw 21 rfl) rfl rfl ?_
      refine zS_getref (i := 22) (zdec eX8_planByLaw 22 rfl) kF_X8_28 ⟨by decide, rfl⟩ rfl rfl rfl rfl rfl ?_
      refine zS_iload_n (zdec eX8_planByLaw 23 rfl) rfl ?_
      refine zS_ialoadE (v := y) (zdec eX8_planByLaw 24 rfl) ⟨by decide, rfl⟩ (by omega) (by omega) hy2 ?_
      refine zS_iload_n (zdec eX8_planByLaw 25 rfl) rfl ?_
      refine zvMV (M' := mX8_pay) (As := [zI y, zI x2]) (st := []) (zdec eX8_planByLaw 26 rfl) kM_X8_101 kV_X8_pay ⟨by decide, rfl⟩ rfl rfl rfl rfl rfl (by omega) (c_pay (by omega) V R2 S2 hyb.1 hyb.2.1 hyb.2.2 qy (by unfold bst at hx2; split at hx2 <;> omega) (by unfold bst at hx2; split at hx2 <;> omega)) (fun h4 ⟨S4, f4⟩ => ?_)
      refine zS_iinc (zdec eX8_planByLaw 27 rfl) rfl rfl ⟨by omega, by omega⟩ ?_
      refine zS_goto (tgt := 10) (zdec eX8_planByLaw 28 rfl) rfl ?_
      refine zS_forget (i := 2) ?_
      exact ih (e + 1) h4 (by omega) (by omega) (by rw [pq, show bestP p q y = x2 by unfold bst at hx2; split at hx2 <;> omega]; exact S4) (O2.of (f4 14 11 (by decide)) (fun j => f4 29 j (by omega))) (by rw [f4 14 14 (by decide)]; exact m2) (f2.tr f4 (fun k j z => z) (fun k j z => by omega))
theorem c_planByLaw {d : Nat} {h : zH} {p : Pb} (hd : 3 ≤ d) (V : PV p) (R : WC h p) : zMV d mX8_planByLaw [zA 14] h (fun h' => PlC h' p (planP p) ∧ OrdC h' (ordP p) ∧ h' 14 14 = missP p ∧ Fr sPlan h h') := by
  refine zmet rfl rfl rfl ?_
  refine zS_aload_n (zdec eX8_planByLaw 0 rfl) rfl rfl ?_
  refine zvMV (M' := mX8_clearPlan) (As := []) (st := []) (zdec eX8_planByLaw 1 rfl) kM_X8_89 kV_X8_clearPlan ⟨by decide, rfl⟩ rfl rfl rfl rfl rfl (by omega) (c_clearPlan (by omega) V R) (fun h2 ⟨S2, m2, f2⟩ => ?_)
  have R2 : WC h2 p := R.fr V f2 (fun k j z => by unfold wcP; omega)
  refine zS_aload_n (zdec eX8_planByLaw 2 rfl) rfl rfl ?_
  refine zvMV (M' := mX8_putInOrder) (As := []) (st := []) (zdec eX8_planByLaw 3 rfl) kM_X8_92 kV_X8_putInOrder ⟨by decide, rfl⟩ rfl rfl rfl rfl rfl (by omega) (c_putInOrder (by omega) V R2) (fun h3 ⟨O3, f3⟩ => ?_)
  refine zS_iconst (zdec eX8_planByLaw 4 rfl) rfl ?_
  refine zS_istore_n (zdec eX8_planByLaw 5 rfl) rfl ?_
  exact L_plan hd V R (ordP p).length 0 h3 (by omega) (by omega) (S2.of (fun k j z => f3 k j (by omega))) O3 (by rw [f3 14 14 (by decide)]; exact m2) (f2.tr f3 (fun k j z => by omega) (fun k j z => by omega))

/-! THE DESK: D 0 scalars (lines days law odds cash floor fee suppliers bills lines-of-cash acts), D 1 ranks, D (3 + b) what is told of a bill, D 8 amounts, D 9 days, D 10 acts -/
abbrev Dk : Type := Int → Int → Int
def DC (h : zH) (b : Int) (D : Dk) : Prop := (∀ j, 0 ≤ j → j ≤ 10 → h b j = D 0 j) ∧ (∀ s, 0 ≤ s → s < 4 → s < D 0 7 → h (b + 1) s = D 1 s) ∧ (∀ k w, 0 ≤ k → k < 5 → k < D 0 8 → 0 ≤ w → w < 7 → h (b + 3 + k) w = D (3 + k) w) ∧ (∀ i, 0 ≤ i → i < 6 → i < D 0 9 → h (b + 8) i = D 8 i ∧ h (b + 9) i = D 9 i) ∧ ∀ i, 0 ≤ i → i < 20 → i < D 0 10 → h (b + 10) i = D 10 i
section DCa
variable {h : zH} {D : Dk}
theorem DC.s (R : DC h 15 D) {j : Int} (h0 : 0 ≤ j) (h1 : j ≤ 10) : h 15 j = D 0 j := R.1 j h0 h1
theorem DC.rk (R : DC h 15 D) {s : Int} (h0 : 0 ≤ s) (h1 : s < 4) (h2 : s < D 0 7) : h 16 s = D 1 s := R.2.1 s h0 h1 h2
theorem DC.row (R : DC h 15 D) {k w : Int} (h0 : 0 ≤ k) (h1 : k < 5) (h2 : k < D 0 8) (g0 : 0 ≤ w) (g1 : w < 7) : h (18 + k) w = D (3 + k) w := R.2.2.1 k w h0 h1 h2 g0 g1
theorem DC.amt (R : DC h 15 D) {i : Int} (h0 : 0 ≤ i) (h1 : i < 6) (h2 : i < D 0 9) : h 23 i = D 8 i := (R.2.2.2.1 i h0 h1 h2).1
theorem DC.on' (R : DC h 15 D) {i : Int} (h0 : 0 ≤ i) (h1 : i < 6) (h2 : i < D 0 9) : h 24 i = D 9 i := (R.2.2.2.1 i h0 h1 h2).2
theorem DC.act (R : DC h 15 D) {i : Int} (h0 : 0 ≤ i) (h1 : i < 20) (h2 : i < D 0 10) : h 25 i = D 10 i := R.2.2.2.2 i h0 h1 h2
end DCa
theorem DC.at {h h' : zH} {c b : Int} {D : Dk} (R : DC h c D) (e : ∀ k j, 0 ≤ k → k ≤ 10 → h' (b + k) j = h (c + k) j) : DC h' b D :=
  ⟨fun j x y => by have := e 0 j (by omega) (by omega); rw [Int.add_zero, Int.add_zero] at this; rw [this]; exact R.1 j x y, fun s x y z => by rw [e 1 s (by omega) (by omega)]; exact R.2.1 s x y z, fun k w x y z u v => by rw [show b + 3 + k = b + (3 + k) by omega, e (3 + k) w (by omega) (by omega), show c + (3 + k) = c + 3 + k by omega]; exact R.2.2.1 k w x y z u v, fun i x y z => by rw [e 8 i (by omega) (by omega), e 9 i (by omega) (by omega)]; exact R.2.2.2.1 i x y z, fun i x y z => by rw [e 10 i (by omega) (by omega)]; exact R.2.2.2.2 i x y z⟩
theorem DC.of {h h' : zH} {D : Dk} (R : DC h 15 D) (e : ∀ k j, 15 ≤ k → k ≤ 25 → h' k j = h k j) : DC h' 15 D := R.at (fun k j a b => e _ j (by omega) (by omega))
theorem DC.fr {S : Int → Int → Prop} {h h' : zH} {D : Dk} (R : DC h 15 D) (f : Fr S h h') (hn : ∀ k j, S k j → ¬ (15 ≤ k ∧ k ≤ 25)) : DC h' 15 D := R.of (fun k j a b => f k j (fun z => hn k j z ⟨a, b⟩))
def DV (D : Dk) : Prop := (0 ≤ D 0 0 ∧ D 0 0 ≤ 1000) ∧ (0 ≤ D 0 1 ∧ D 0 1 ≤ 7) ∧ (0 ≤ D 0 2 ∧ D 0 2 ≤ 3) ∧ (0 ≤ D 0 3 ∧ D 0 3 ≤ 10) ∧ (0 ≤ D 0 4 ∧ D 0 4 ≤ 9999) ∧ (0 ≤ D 0 5 ∧ D 0 5 ≤ 5000) ∧ (0 ≤ D 0 6 ∧ D 0 6 ≤ 200) ∧ (0 ≤ D 0 7 ∧ D 0 7 ≤ 4) ∧ (0 ≤ D 0 8 ∧ D 0 8 ≤ 5) ∧ (0 ≤ D 0 9 ∧ D 0 9 ≤ 6) ∧ (0 ≤ D 0 10 ∧ D 0 10 ≤ 20) ∧
  (0 < D 0 0 → 1 ≤ D 0 1) ∧ (D 0 0 = 0 → ∀ j, 1 ≤ j → j ≤ 10 → D 0 j = 0) ∧ (∀ s, 0 ≤ s → s < D 0 7 → 0 ≤ D 1 s ∧ D 1 s ≤ 9) ∧
  (∀ b, 0 ≤ b → b < D 0 8 → (0 ≤ D (3 + b) 0 ∧ D (3 + b) 0 < D 0 7) ∧ (1 ≤ D (3 + b) 1 ∧ D (3 + b) 1 ≤ 3000) ∧ (0 ≤ D (3 + b) 2 ∧ D (3 + b) 2 ≤ 20) ∧ (0 ≤ D (3 + b) 3 ∧ D (3 + b) 3 ≤ 6) ∧ (0 ≤ D (3 + b) 4 ∧ D (3 + b) 4 ≤ 6) ∧ (0 ≤ D (3 + b) 5 ∧ D (3 + b) 5 ≤ 99) ∧ (0 ≤ D (3 + b) 6 ∧ D (3 + b) 6 ≤ D (3 + b) 1)) ∧
  (∀ i, 0 ≤ i → i < D 0 9 → (1 ≤ D 8 i ∧ D 8 i ≤ 3000) ∧ (0 ≤ D 9 i ∧ D 9 i ≤ 6)) ∧ ∀ i, 0 ≤ i → i < D 0 10 → 0 ≤ D 10 i ∧ D 10 i < 5 + D 0 1 ∧ (D 10 i < 5 → D 10 i < D 0 8)
section DVa
variable {D : Dk}
theorem DV.lines (V : DV D) : 0 ≤ D 0 0 ∧ D 0 0 ≤ 1000 := V.1
theorem DV.days (V : DV D) : 0 ≤ D 0 1 ∧ D 0 1 ≤ 7 := V.2.1
theorem DV.law (V : DV D) : 0 ≤ D 0 2 ∧ D 0 2 ≤ 3 := V.2.2.1
theorem DV.odds (V : DV D) : 0 ≤ D 0 3 ∧ D 0 3 ≤ 10 := V.2.2.2.1
theorem DV.cash (V : DV D) : 0 ≤ D 0 4 ∧ D 0 4 ≤ 9999 := V.2.2.2.2.1
theorem DV.fl (V : DV D) : 0 ≤ D 0 5 ∧ D 0 5 ≤ 5000 := V.2.2.2.2.2.1
theorem DV.fee (V : DV D) : 0 ≤ D 0 6 ∧ D 0 6 ≤ 200 := V.2.2.2.2.2.2.1
theorem DV.ns (V : DV D) : 0 ≤ D 0 7 ∧ D 0 7 ≤ 4 := V.2.2.2.2.2.2.2.1
theorem DV.nb (V : DV D) : 0 ≤ D 0 8 ∧ D 0 8 ≤ 5 := V.2.2.2.2.2.2.2.2.1
theorem DV.nl (V : DV D) : 0 ≤ D 0 9 ∧ D 0 9 ≤ 6 := V.2.2.2.2.2.2.2.2.2.1
theorem DV.na (V : DV D) : 0 ≤ D 0 10 ∧ D 0 10 ≤ 20 := V.2.2.2.2.2.2.2.2.2.2.1
theorem DV.some (V : DV D) (h : 0 < D 0 0) : 1 ≤ D 0 1 := V.2.2.2.2.2.2.2.2.2.2.2.1 h
theorem DV.none (V : DV D) (h : D 0 0 = 0) : ∀ j, 1 ≤ j → j ≤ 10 → D 0 j = 0 := V.2.2.2.2.2.2.2.2.2.2.2.2.1 h
theorem DV.rk (V : DV D) {s : Int} (h0 : 0 ≤ s) (h1 : s < D 0 7) : 0 ≤ D 1 s ∧ D 1 s ≤ 9 := V.2.2.2.2.2.2.2.2.2.2.2.2.2.1 s h0 h1
theorem DV.row (V : DV D) {b : Int} (h0 : 0 ≤ b) (h1 : b < D 0 8) : (0 ≤ D (3 + b) 0 ∧ D (3 + b) 0 < D 0 7) ∧ (1 ≤ D (3 + b) 1 ∧ D (3 + b) 1 ≤ 3000) ∧ (0 ≤ D (3 + b) 2 ∧ D (3 + b) 2 ≤ 20) ∧ (0 ≤ D (3 + b) 3 ∧ D (3 + b) 3 ≤ 6) ∧ (0 ≤ D (3 + b) 4 ∧ D (3 + b) 4 ≤ 6) ∧ (0 ≤ D (3 + b) 5 ∧ D (3 + b) 5 ≤ 99) ∧ (0 ≤ D (3 + b) 6 ∧ D (3 + b) 6 ≤ D (3 + b) 1) := V.2.2.2.2.2.2.2.2.2.2.2.2.2.2.1 b h0 h1
theorem DV.ln (V : DV D) {i : Int} (h0 : 0 ≤ i) (h1 : i < D 0 9) : (1 ≤ D 8 i ∧ D 8 i ≤ 3000) ∧ (0 ≤ D 9 i ∧ D 9 i ≤ 6) := V.2.2.2.2.2.2.2.2.2.2.2.2.2.2.2.1 i h0 h1
theorem DV.act (V : DV D) {i : Int} (h0 : 0 ≤ i) (h1 : i < D 0 10) : 0 ≤ D 10 i ∧ D 10 i < 5 + D 0 1 ∧ (D 10 i < 5 → D 10 i < D 0 8) := V.2.2.2.2.2.2.2.2.2.2.2.2.2.2.2.2 i h0 h1
theorem DV.bill (V : DV D) {b : Int} (h0 : 0 ≤ b) (h1 : b < D 0 8) : 0 < D 0 0 := by
  have := V.lines
  rcases Int.lt_or_eq_of_le this.1 with z | z
  · exact z
  · have := V.none z.symm 8 (by omega) (by omega); omega
theorem DV.day (V : DV D) {d : Int} (h0 : 0 ≤ d) (h1 : d < D 0 1) : 0 < D 0 0 := by
  have := V.lines
  rcases Int.lt_or_eq_of_le this.1 with z | z
  · exact z
  · have := V.none z.symm 1 (by omega) (by omega); omega
theorem DV.sup (V : DV D) {s : Int} (h0 : 0 ≤ s) (h1 : s < D 0 7) : 0 < D 0 0 := by
  have := V.lines
  rcases Int.lt_or_eq_of_le this.1 with z | z
  · exact z
  · have := V.none z.symm 7 (by omega) (by omega); omega
end DVa
/-- released; what a bill is for; a day whose file fails -/
def relD (D : Dk) (b : Int) : Bool := anyI (fun i => D 10 i == b) (D 0 10)
def netD (D : Dk) (b : Int) : Int := if relD D b then D (3 + b) 1 else D (3 + b) 1 - D (3 + b) 6
def clD (D : Dk) (d : Int) : Bool := anyI (fun i => D 10 i == 5 + d) (D 0 10)
/-- the problem as told -/
def pb0 (D : Dk) : Pb := (fun j => if j = 0 then D 0 8 else if j = 1 then D 0 1 else if j = 2 then D 0 6 else if j = 3 then D 0 5 else if j = 4 then D 0 2 else if j = 5 then D 0 4 else D 0 9,
  fun k b => if k = 0 then netD D b else if k = 1 then D (3 + b) 2 else if k = 2 then D (3 + b) 3 else if k = 3 then D (3 + b) 4 else if k = 4 then D (3 + b) 5 else if k = 5 then D 1 (D (3 + b) 0) else if k = 6 then D (3 + b) 0 else if k = 7 then D 8 b else D 9 b,
  fun k d => if k = 0 then clD D d else true)
theorem netB {D : Dk} (V : DV D) {b : Int} (h0 : 0 ≤ b) (h1 : b < D 0 8) : 0 ≤ netD D b ∧ netD D b ≤ 3000 := by
  have r := V.row h0 h1
  unfold netD
  split <;> omega
theorem pb0_V {D : Dk} (V : DV D) (hd : 0 < D 0 0) : PV (pb0 D) := by
  refine ⟨V.nb, ⟨V.some hd, V.days.2⟩, V.fee, V.fl, V.law, V.cash, V.nl, fun b h0 h1 => ?_, fun i h0 h1 => ?_⟩
  · have r := V.row h0 h1
    have n := netB V h0 h1
    have k := V.rk r.1.1 r.1.2
    have s := V.ns
    refine ⟨n, ?_, ?_, ?_, ?_, k, ?_⟩
    · show 0 ≤ D (3 + b) 2 ∧ D (3 + b) 2 ≤ 25; omega
    · show 0 ≤ D (3 + b) 3 ∧ D (3 + b) 3 ≤ 6; omega
    · show 0 ≤ D (3 + b) 4 ∧ D (3 + b) 4 ≤ 6; omega
    · show 0 ≤ D (3 + b) 5 ∧ D (3 + b) 5 ≤ 99; omega
    · show 0 ≤ D (3 + b) 0 ∧ D (3 + b) 0 ≤ 3; omega
  · have r := V.ln h0 h1
    refine ⟨?_, ?_⟩
    · show 0 ≤ D 8 i ∧ D 8 i ≤ 3000; omega
    · show 0 ≤ D 9 i ∧ D 9 i ≤ 6; omega
theorem allbits : ∀ (k : Fin 7) (b : Fin 6), b.val < k.val → bitB (zShl 1 (k.val : Int) - 1) (b.val : Int) = true := by decide +kernel
theorem all_bit {k b : Int} (k0 : 0 ≤ k) (k1 : k ≤ 6) (b0 : 0 ≤ b) (b1 : b < k) : bitB (zShl 1 k - 1) b = true := by
  obtain ⟨x, rfl⟩ := fin_of (n := 7) k0 (by omega)
  obtain ⟨y, rfl⟩ := fin_of (n := 6) b0 (by omega)
  exact allbits x y (by omega)
theorem allrng : ∀ k : Fin 7, 0 ≤ zShl 1 (k.val : Int) - 1 ∧ zShl 1 (k.val : Int) ≤ 64 := by decide +kernel
theorem all_rng {k : Int} (k0 : 0 ≤ k) (k1 : k ≤ 6) : 0 ≤ zShl 1 k - 1 ∧ zShl 1 k ≤ 64 := by
  obtain ⟨x, rfl⟩ := fin_of (n := 7) k0 (by omega)
  exact allrng x
/-- closed days as a number -/
def clN (D : Dk) : Nat → Int
  | 0 => 0
  | n + 1 => if D 10 n < 5 then clN D n else zOr (clN D n) (zShl 1 (D 10 n - 5))
def clI (D : Dk) (k : Int) : Int := clN D k.toNat
theorem clI_0 (D : Dk) : clI D 0 = 0 := rfl
theorem clI_s (D : Dk) {k : Int} (h : 0 ≤ k) : clI D (k + 1) = if D 10 k < 5 then clI D k else zOr (clI D k) (zShl 1 (D 10 k - 5)) := by
  unfold clI
  rw [show (k + 1).toNat = k.toNat + 1 by omega]
  show (if D 10 (k.toNat : Int) < 5 then clN D k.toNat else zOr (clN D k.toNat) (zShl 1 (D 10 (k.toNat : Int) - 5))) = _
  rw [Int.toNat_of_nonneg h]
theorem clI_is {D : Dk} (V : DV D) {k : Int} (h0 : 0 ≤ k) (h1 : k ≤ D 0 10) : (0 ≤ clI D k ∧ clI D k < 128) ∧ ∀ d, 0 ≤ d → d < 31 → bitB (clI D k) d = anyI (fun i => D 10 i == 5 + d) k := by
  refine up_ind (P := fun k => k ≤ D 0 10 → (0 ≤ clI D k ∧ clI D k < 128) ∧ ∀ d, 0 ≤ d → d < 31 → bitB (clI D k) d = anyI (fun i => D 10 i == 5 + d) k) (fun _ => ?_) (fun j hj ih h => ?_) k h0 h1
  · rw [clI_0]
    refine ⟨⟨by omega, by omega⟩, fun d d0 d1 => ?_⟩
    rw [anyI_0 _ (by omega)]
    obtain ⟨n, rfl⟩ := Int.eq_ofNat_of_zero_le d0
    rw [show (0 : Int) = ((0 : Nat) : Int) from rfl, bitB_nat (by decide) (by omega)]
    simp
  · obtain ⟨⟨a0, a1⟩, a2⟩ := ih (by omega)
    have dy := V.days
    have ac := V.act hj (show j < D 0 10 by omega)
    rw [clI_s _ hj]
    by_cases c : D 10 j < 5
    · rw [if_pos c]
      refine ⟨⟨a0, a1⟩, fun d d0 d1 => ?_⟩
      rw [a2 d d0 d1, anyI_s _ hj]
      have : (D 10 j == 5 + d) = false := by simp; omega
      rw [this, Bool.or_false]
    · rw [if_neg c]
      obtain ⟨x, hx⟩ := Int.eq_ofNat_of_zero_le a0
      obtain ⟨b, hb⟩ := Int.eq_ofNat_of_zero_le (show 0 ≤ D 10 j - 5 by omega)
      obtain ⟨y, y1, y2, y3⟩ := orN (x := x) (b := b) (m := 7) (by omega) (by omega) (by omega)
      rw [hx, hb, y1]
      refine ⟨⟨by omega, by omega⟩, fun d d0 d1 => ?_⟩
      obtain ⟨n, rfl⟩ := Int.eq_ofNat_of_zero_le d0
      rw [y3 n (by omega), ← hx, a2 n d0 d1, anyI_s _ hj]
      congr 1
      apply Bool.eq_iff_iff.mpr
      rw [decide_eq_true_eq, beq_iff_eq]
      omega

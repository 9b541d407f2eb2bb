theorem zcpy_step {h : zH} {K s t e : Int} (e0 : 0 ≤ e) : zset (zcpy h K s K t e) K (t + e) (h K (s + e)) = zcpy h K s K t (e + 1) := by
  funext a b
  by_cases w : a = K ∧ b = t + e
  · rw [zset_e w.1 w.2]
    show _ = if a = K ∧ t ≤ b ∧ b < t + (e + 1) then h K (s + (b - t)) else h a b
    rw [if_pos ⟨w.1, by omega, by omega⟩, show s + (b - t) = s + e by omega]
  · rw [zset_n w]
    show (if a = K ∧ t ≤ b ∧ b < t + e then h K (s + (b - t)) else h a b) = if a = K ∧ t ≤ b ∧ b < t + (e + 1) then h K (s + (b - t)) else h a b
    by_cases u : a = K ∧ t ≤ b ∧ b < t + e
    · rw [if_pos u, if_pos ⟨u.1, u.2.1, by omega⟩]
    · rw [if_neg u, if_neg (fun z => by omega)]
theorem zcpy_0 {h : zH} {K s t : Int} : zcpy h K s K t 0 = h := by
  funext a b
  show (if a = K ∧ t ≤ b ∧ b < t + 0 then h K (s + (b - t)) else h a b) = h a b
  rw [if_neg (by omega)]
theorem zcpy_at {h : zH} {K s t n j : Int} (h0 : t ≤ j) (h1 : j < t + n) : zcpy h K s K t n K j = h K (s + (j - t)) := by
  show (if K = K ∧ t ≤ j ∧ j < t + n then h K (s + (j - t)) else h K j) = _
  rw [if_pos ⟨rfl, h0, h1⟩]
theorem zcpy_out {h : zH} {K s t n k j : Int} (hn : ¬ (k = K ∧ t ≤ j ∧ j < t + n)) : zcpy h K s K t n k j = h k j := if_neg hn
theorem L_cpr114 {d : Nat} {h : zH} {a b : Int} (a0 : 0 ≤ a) (a4 : a ≤ 4) (b0 : 0 ≤ b) (b4 : b ≤ 4) (hab : a ≠ b) : ∀ (n : Nat) (e : Int) (h1 : zH), 0 ≤ e → e + n = 1 → h1 = (zcpy h 114 (1 * a) 114 (1 * b) e) → zS mX10_copyRow (zr d) 3 [zA 114, zI 1, zI a, zI b, zI e] [] TT h1 (zAnV (fun h' => h' = zcpy h 114 (1 * a) 114 (1 * b) 1)) := by
  intro n
  induction n with
  | zero =>
    intro e h1 a1 a2 i1
    refine zS_iload (zdec eX10_copyRow 2 rfl) rfl ?_
    refine zS_iload_n (zdec eX10_copyRow 3 rfl) rfl ?_
    refine zS_icmp_ge (tgt := 31) (zdec eX10_copyRow 4 rfl) rfl (fun cz => ?_) (fun cz => absurd (by omega) cz)
    exact zlMV (zdec eX10_copyRow 21 rfl) rfl (by rw [i1, show e = 1 by omega])
  | succ n ih =>
    intro e h1 a1 a2 i1
    refine zS_iload (zdec eX10_copyRow 2 rfl) rfl ?_
    refine zS_iload_n (zdec eX10_copyRow 3 rfl) rfl ?_
    refine zS_icmp_ge (tgt := 31) (zdec eX10_copyRow 4 rfl) rfl (fun cz => absurd cz (by omega)) (fun cz => ?_)
    refine zS_aload_n (zdec eX10_copyRow 5 rfl) rfl rfl ?_
    refine zS_iload_n (zdec eX10_copyRow 6 rfl) rfl ?_
    refine zS_iload_n (zdec eX10_copyRow 7 rfl) rfl ?_
    refine zS_imul (zdec eX10_copyRow 8 rfl) ⟨by omega, by omega⟩ ?_
    refine zS_iload (zdec eX10_copyRow 9 rfl) rfl ?_
    refine zS_iadd (zdec eX10_copyRow 10 rfl) ⟨by omega, by omega⟩ ?_
    refine zS_aload_n (zdec eX10_copyRow 11 rfl) rfl rfl ?_
    refine zS_iload_n (zdec eX10_copyRow 12 rfl) rfl ?_
    refine zS_iload_n (zdec eX10_copyRow 13 rfl) rfl ?_
    refine zS_imul (zdec eX10_copyRow 14 rfl) ⟨by omega, by omega⟩ ?_
    refine zS_iload (zdec eX10_copyRow 15 rfl) rfl ?_
    refine zS_iadd (zdec eX10_copyRow 16 rfl) ⟨by omega, by omega⟩ ?_
    refine zS_ialoadE (v := (h 114 (1 * a + e))) (zdec eX10_copyRow 17 rfl) ⟨by decide, rfl⟩ (by omega) (by omega) (by rw [i1]; exact zcpy_out (by omega)) ?_
    refine zS_iastore (zdec eX10_copyRow 18 rfl) ⟨by decide, rfl⟩ (by omega) (by omega) ?_
    refine zS_iinc (zdec eX10_copyRow 19 rfl) rfl rfl ⟨by omega, by omega⟩ ?_
    refine zS_goto (tgt := 3) (zdec eX10_copyRow 20 rfl) rfl ?_
    exact ih (e + 1) _ (by omega) (by omega) (by rw [i1]; exact zcpy_step a1)
theorem r_cpr114 {d : Nat} {h : zH} {a b : Int} (a0 : 0 ≤ a) (a4 : a ≤ 4) (b0 : 0 ≤ b) (b4 : b ≤ 4) (hab : a ≠ b) : zMV d mX10_copyRow [zA 114, zI 1, zI a, zI b] h (fun h' => h' = zcpy h 114 (1 * a) 114 (1 * b) 1) := by
  refine zmet rfl rfl rfl ?_
  refine zS_iconst (zdec eX10_copyRow 0 rfl) rfl ?_
  refine zS_istore (zdec eX10_copyRow 1 rfl) rfl ?_
  exact L_cpr114 a0 a4 b0 b4 hab 1 0 h (by omega) (by omega) zcpy_0.symm
theorem L_cpr115 {d : Nat} {h : zH} {a b : Int} (a0 : 0 ≤ a) (a4 : a ≤ 4) (b0 : 0 ≤ b) (b4 : b ≤ 4) (hab : a ≠ b) : ∀ (n : Nat) (e : Int) (h1 : zH), 0 ≤ e → e + n = 10 → h1 = (zcpy h 115 (10 * a) 115 (10 * b) e) → zS mX10_copyRow (zr d) 3 [zA 115, zI 10, zI a, zI b, zI e] [] TT h1 (zAnV (fun h' => h' = zcpy h 115 (10 * a) 115 (10 * b) 10)) := by
  intro n
  induction n with
  | zero =>
    intro e h1 a1 a2 i1
    refine zS_iload (zdec eX10_copyRow 2 rfl) rfl ?_
    refine zS_iload_n (zdec eX10_copyRow 3 rfl) rfl ?_
    refine zS_icmp_ge (tgt := 31) (zdec eX10_copyRow 4 rfl) rfl (fun cz => ?_) (fun cz => absurd (by omega) cz)
    exact zlMV (zdec eX10_copyRow 21 rfl) rfl (by rw [i1, show e = 10 by omega])
  | succ n ih =>
    intro e h1 a1 a2 i1
    refine zS_iload (zdec eX10_copyRow 2 rfl) rfl ?_
    refine zS_iload_n (zdec eX10_copyRow 3 rfl) rfl ?_
    refine zS_icmp_ge (tgt := 31) (zdec eX10_copyRow 4 rfl) rfl (fun cz => absurd cz (by omega)) (fun cz => ?_)
    refine zS_aload_n (zdec eX10_copyRow 5 rfl) rfl rfl ?_
    refine zS_iload_n (zdec eX10_copyRow 6 rfl) rfl ?_
    refine zS_iload_n (zdec eX10_copyRow 7 rfl) rfl ?_
    refine zS_imul (zdec eX10_copyRow 8 rfl) ⟨by omega, by omega⟩ ?_
    refine zS_iload (zdec eX10_copyRow 9 rfl) rfl ?_
    refine zS_iadd (zdec eX10_copyRow 10 rfl) ⟨by omega, by omega⟩ ?_
    refine zS_aload_n (zdec eX10_copyRow 11 rfl) rfl rfl ?_
    refine zS_iload_n (zdec eX10_copyRow 12 rfl) rfl ?_
    refine zS_iload_n (zdec eX10_copyRow 13 rfl) rfl ?_
    refine zS_imul (zdec eX10_copyRow 14 rfl) ⟨by omega, by omega⟩ ?_
    refine zS_iload (zdec eX10_copyRow 15 rfl) rfl ?_
    refine zS_iadd (zdec eX10_copyRow 16 rfl) ⟨by omega, by omega⟩ ?_
    refine zS_ialoadE (v := (h 115 (10 * a + e))) (zdec eX10_copyRow 17 rfl) ⟨by decide, rfl⟩ (by omega) (by omega) (by rw [i1]; exact zcpy_out (by omega)) ?_
    refine zS_iastore (zdec eX10_copyRow 18 rfl) ⟨by decide, rfl⟩ (by omega) (by omega) ?_
    refine zS_iinc (zdec eX10_copyRow 19 rfl) rfl rfl ⟨by omega, by omega⟩ ?_
    refine zS_goto (tgt := 3) (zdec eX10_copyRow 20 rfl) rfl ?_
    exact ih (e + 1) _ (by omega) (by omega) (by rw [i1]; exact zcpy_step a1)
theorem r_cpr115 {d : Nat} {h : zH} {a b : Int} (a0 : 0 ≤ a) (a4 : a ≤ 4) (b0 : 0 ≤ b) (b4 : b ≤ 4) (hab : a ≠ b) : zMV d mX10_copyRow [zA 115, zI 10, zI a, zI b] h (fun h' => h' = zcpy h 115 (10 * a) 115 (10 * b) 10) := by
  refine zmet rfl rfl rfl ?_
  refine zS_iconst (zdec eX10_copyRow 0 rfl) rfl ?_
  refine zS_istore (zdec eX10_copyRow 1 rfl) rfl ?_
  exact L_cpr115 a0 a4 b0 b4 hab 10 0 h (by omega) (by omega) zcpy_0.symm
theorem L_cpr116 {d : Nat} {h : zH} {a b : Int} (a0 : 0 ≤ a) (a4 : a ≤ 4) (b0 : 0 ≤ b) (b4 : b ≤ 4) (hab : a ≠ b) : ∀ (n : Nat) (e : Int) (h1 : zH), 0 ≤ e → e + n = 4 → h1 = (zcpy h 116 (4 * a) 116 (4 * b) e) → zS mX10_copyRow (zr d) 3 [zA 116, zI 4, zI a, zI b, zI e] [] TT h1 (zAnV (fun h' => h' = zcpy h 116 (4 * a) 116 (4 * b) 4)) := by
  intro n
  induction n with
  | zero =>
    intro e h1 a1 a2 i1
    refine zS_iload (zdec eX10_copyRow 2 rfl) rfl ?_
    refine zS_iload_n (zdec eX10_copyRow 3 rfl) rfl ?_
    refine zS_icmp_ge (tgt := 31) (zdec eX10_copyRow 4 rfl) rfl (fun cz => ?_) (fun cz => absurd (by omega) cz)
    exact zlMV (zdec eX10_copyRow 21 rfl) rfl (by rw [i1, show e = 4 by omega])
  | succ n ih =>
    intro e h1 a1 a2 i1
    refine zS_iload (zdec eX10_copyRow 2 rfl) rfl ?_
    refine zS_iload_n (zdec eX10_copyRow 3 rfl) rfl ?_
    refine zS_icmp_ge (tgt := 31) (zdec eX10_copyRow 4 rfl) rfl (fun cz => absurd cz (by omega)) (fun cz => ?_)
    refine zS_aload_n (zdec eX10_copyRow 5 rfl) rfl rfl ?_
    refine zS_iload_n (zdec eX10_copyRow 6 rfl) rfl ?_
    refine zS_iload_n (zdec eX10_copyRow 7 rfl) rfl ?_
    refine zS_imul (zdec eX10_copyRow 8 rfl) ⟨by omega, by omega⟩ ?_
    refine zS_iload (zdec eX10_copyRow 9 rfl) rfl ?_
    refine zS_iadd (zdec eX10_copyRow 10 rfl) ⟨by omega, by omega⟩ ?_
    refine zS_aload_n (zdec eX10_copyRow 11 rfl) rfl rfl ?_
    refine zS_iload_n (zdec eX10_copyRow 12 rfl) rfl ?_
    refine zS_iload_n (zdec eX10_copyRow 13 rfl) rfl ?_
    refine zS_imul (zdec eX10_copyRow 14 rfl) ⟨by omega, by omega⟩ ?_
    refine zS_iload (zdec eX10_copyRow 15 rfl) rfl ?_
    refine zS_iadd (zdec eX10_copyRow 16 rfl) ⟨by omega, by omega⟩ ?_
    refine zS_ialoadE (v := (h 116 (4 * a + e))) (zdec eX10_copyRow 17 rfl) ⟨by decide, rfl⟩ (by omega) (by omega) (by rw [i1]; exact zcpy_out (by omega)) ?_
    refine zS_iastore (zdec eX10_copyRow 18 rfl) ⟨by decide, rfl⟩ (by omega) (by omega) ?_
    refine zS_iinc (zdec eX10_copyRow 19 rfl) rfl rfl ⟨by omega, by omega⟩ ?_
    refine zS_goto (tgt := 3) (zdec eX10_copyRow 20 rfl) rfl ?_
    exact ih (e + 1) _ (by omega) (by omega) (by rw [i1]; exact zcpy_step a1)
theorem r_cpr116 {d : Nat} {h : zH} {a b : Int} (a0 : 0 ≤ a) (a4 : a ≤ 4) (b0 : 0 ≤ b) (b4 : b ≤ 4) (hab : a ≠ b) : zMV d mX10_copyRow [zA 116, zI 4, zI a, zI b] h (fun h' => h' = zcpy h 116 (4 * a) 116 (4 * b) 4) := by
  refine zmet rfl rfl rfl ?_
  refine zS_iconst (zdec eX10_copyRow 0 rfl) rfl ?_
  refine zS_istore (zdec eX10_copyRow 1 rfl) rfl ?_
  exact L_cpr116 a0 a4 b0 b4 hab 4 0 h (by omega) (by omega) zcpy_0.symm
theorem L_cpr117 {d : Nat} {h : zH} {a b : Int} (a0 : 0 ≤ a) (a4 : a ≤ 4) (b0 : 0 ≤ b) (b4 : b ≤ 4) (hab : a ≠ b) : ∀ (n : Nat) (e : Int) (h1 : zH), 0 ≤ e → e + n = 35 → h1 = (zcpy h 117 (35 * a) 117 (35 * b) e) → zS mX10_copyRow (zr d) 3 [zA 117, zI 35, zI a, zI b, zI e] [] TT h1 (zAnV (fun h' => h' = zcpy h 117 (35 * a) 117 (35 * b) 35)) := by
  intro n
  induction n with
  | zero =>
    intro e h1 a1 a2 i1
    refine zS_iload (zdec eX10_copyRow 2 rfl) rfl ?_
    refine zS_iload_n (zdec eX10_copyRow 3 rfl) rfl ?_
    refine zS_icmp_ge (tgt := 31) (zdec eX10_copyRow 4 rfl) rfl (fun cz => ?_) (fun cz => absurd (by omega) cz)
    exact zlMV (zdec eX10_copyRow 21 rfl) rfl (by rw [i1, show e = 35 by omega])
  | succ n ih =>
    intro e h1 a1 a2 i1
    refine zS_iload (zdec eX10_copyRow 2 rfl) rfl ?_
    refine zS_iload_n (zdec eX10_copyRow 3 rfl) rfl ?_
    refine zS_icmp_ge (tgt := 31) (zdec eX10_copyRow 4 rfl) rfl (fun cz => absurd cz (by omega)) (fun cz => ?_)
    refine zS_aload_n (zdec eX10_copyRow 5 rfl) rfl rfl ?_
    refine zS_iload_n (zdec eX10_copyRow 6 rfl) rfl ?_
    refine zS_iload_n (zdec eX10_copyRow 7 rfl) rfl ?_
    refine zS_imul (zdec eX10_copyRow 8 rfl) ⟨by omega, by omega⟩ ?_
    refine zS_iload (zdec eX10_copyRow 9 rfl) rfl ?_
    refine zS_iadd (zdec eX10_copyRow 10 rfl) ⟨by omega, by omega⟩ ?_
    refine zS_aload_n (zdec eX10_copyRow 11 rfl) rfl rfl ?_
    refine zS_iload_n (zdec eX10_copyRow 12 rfl) rfl ?_
    refine zS_iload_n (zdec eX10_copyRow 13 rfl) rfl ?_
    refine zS_imul (zdec eX10_copyRow 14 rfl) ⟨by omega, by omega⟩ ?_
    refine zS_iload (zdec eX10_copyRow 15 rfl) rfl ?_
    refine zS_iadd (zdec eX10_copyRow 16 rfl) ⟨by omega, by omega⟩ ?_
    refine zS_ialoadE (v := (h 117 (35 * a + e))) (zdec eX10_copyRow 17 rfl) ⟨by decide, rfl⟩ (by omega) (by omega) (by rw [i1]; exact zcpy_out (by omega)) ?_
    refine zS_iastore (zdec eX10_copyRow 18 rfl) ⟨by decide, rfl⟩ (by omega) (by omega) ?_
    refine zS_iinc (zdec eX10_copyRow 19 rfl) rfl rfl ⟨by omega, by omega⟩ ?_
    refine zS_goto (tgt := 3) (zdec eX10_copyRow 20 rfl) rfl ?_
    exact ih (e + 1) _ (by omega) (by omega) (by rw [i1]; exact zcpy_step a1)
theorem r_cpr117 {d : Nat} {h : zH} {a b : Int} (a0 : 0 ≤ a) (a4 : a ≤ 4) (b0 : 0 ≤ b) (b4 : b ≤ 4) (hab : a ≠ b) : zMV d mX10_copyRow [zA 117, zI 35, zI a, zI b] h (fun h' => h' = zcpy h 117 (35 * a) 117 (35 * b) 35) := by
  refine zmet rfl rfl rfl ?_
  refine zS_iconst (zdec eX10_copyRow 0 rfl) rfl ?_
  refine zS_istore (zdec eX10_copyRow 1 rfl) rfl ?_
  exact L_cpr117 a0 a4 b0 b4 hab 35 0 h (by omega) (by omega) zcpy_0.symm
theorem L_cpr118 {d : Nat} {h : zH} {a b : Int} (a0 : 0 ≤ a) (a4 : a ≤ 4) (b0 : 0 ≤ b) (b4 : b ≤ 4) (hab : a ≠ b) : ∀ (n : Nat) (e : Int) (h1 : zH), 0 ≤ e → e + n = 12 → h1 = (zcpy h 118 (12 * a) 118 (12 * b) e) → zS mX10_copyRow (zr d) 3 [zA 118, zI 12, zI a, zI b, zI e] [] TT h1 (zAnV (fun h' => h' = zcpy h 118 (12 * a) 118 (12 * b) 12)) := by
  intro n
  induction n with
  | zero =>
    intro e h1 a1 a2 i1
    refine zS_iload (zdec eX10_copyRow 2 rfl) rfl ?_
    refine zS_iload_n (zdec eX10_copyRow 3 rfl) rfl ?_
    refine zS_icmp_ge (tgt := 31) (zdec eX10_copyRow 4 rfl) rfl (fun cz => ?_) (fun cz => absurd (by omega) cz)
    exact zlMV (zdec eX10_copyRow 21 rfl) rfl (by rw [i1, show e = 12 by omega])
  | succ n ih =>
    intro e h1 a1 a2 i1
    refine zS_iload (zdec eX10_copyRow 2 rfl) rfl ?_
    refine zS_iload_n (zdec eX10_copyRow 3 rfl) rfl ?_
    refine zS_icmp_ge (tgt := 31) (zdec eX10_copyRow 4 rfl) rfl (fun cz => absurd cz (by omega)) (fun cz => ?_)
    refine zS_aload_n (zdec eX10_copyRow 5 rfl) rfl rfl ?_
    refine zS_iload_n (zdec eX10_copyRow 6 rfl) rfl ?_
    refine zS_iload_n (zdec eX10_copyRow 7 rfl) rfl ?_
    refine zS_imul (zdec eX10_copyRow 8 rfl) ⟨by omega, by omega⟩ ?_
    refine zS_iload (zdec eX10_copyRow 9 rfl) rfl ?_
    refine zS_iadd (zdec eX10_copyRow 10 rfl) ⟨by omega, by omega⟩ ?_
    refine zS_aload_n (zdec eX10_copyRow 11 rfl) rfl rfl ?_
    refine zS_iload_n (zdec eX10_copyRow 12 rfl) rfl ?_
    refine zS_iload_n (zdec eX10_copyRow 13 rfl) rfl ?_
    refine zS_imul (zdec eX10_copyRow 14 rfl) ⟨by omega, by omega⟩ ?_
    refine zS_iload (zdec eX10_copyRow 15 rfl) rfl ?_
    refine zS_iadd (zdec eX10_copyRow 16 rfl) ⟨by omega, by omega⟩ ?_
    refine zS_ialoadE (v := (h 118 (12 * a + e))) (zdec eX10_copyRow 17 rfl) ⟨by decide, rfl⟩ (by omega) (by omega) (by rw [i1]; exact zcpy_out (by omega)) ?_
    refine zS_iastore (zdec eX10_copyRow 18 rfl) ⟨by decide, rfl⟩ (by omega) (by omega) ?_
    refine zS_iinc (zdec eX10_copyRow 19 rfl) rfl rfl ⟨by omega, by omega⟩ ?_
    refine zS_goto (tgt := 3) (zdec eX10_copyRow 20 rfl) rfl ?_
    exact ih (e + 1) _ (by omega) (by omega) (by rw [i1]; exact zcpy_step a1)
theorem r_cpr118 {d : Nat} {h : zH} {a b : Int} (a0 : 0 ≤ a) (a4 : a ≤ 4) (b0 : 0 ≤ b) (b4 : b ≤ 4) (hab : a ≠ b) : zMV d mX10_copyRow [zA 118, zI 12, zI a, zI b] h (fun h' => h' = zcpy h 118 (12 * a) 118 (12 * b) 12) := by
  refine zmet rfl rfl rfl ?_
  refine zS_iconst (zdec eX10_copyRow 0 rfl) rfl ?_
  refine zS_istore (zdec eX10_copyRow 1 rfl) rfl ?_
  exact L_cpr118 a0 a4 b0 b4 hab 12 0 h (by omega) (by omega) zcpy_0.symm
theorem L_cpr119 {d : Nat} {h : zH} {a b : Int} (a0 : 0 ≤ a) (a4 : a ≤ 4) (b0 : 0 ≤ b) (b4 : b ≤ 4) (hab : a ≠ b) : ∀ (n : Nat) (e : Int) (h1 : zH), 0 ≤ e → e + n = 40 → h1 = (zcpy h 119 (40 * a) 119 (40 * b) e) → zS mX10_copyRow (zr d) 3 [zA 119, zI 40, zI a, zI b, zI e] [] TT h1 (zAnV (fun h' => h' = zcpy h 119 (40 * a) 119 (40 * b) 40)) := by
  intro n
  induction n with
  | zero =>
    intro e h1 a1 a2 i1
    refine zS_iload (zdec eX10_copyRow 2 rfl) rfl ?_
    refine zS_iload_n (zdec eX10_copyRow 3 rfl) rfl ?_
    refine zS_icmp_ge (tgt := 31) (zdec eX10_copyRow 4 rfl) rfl (fun cz => ?_) (fun cz => absurd (by omega) cz)
    exact zlMV (zdec eX10_copyRow 21 rfl) rfl (by rw [i1, show e = 40 by omega])
  | succ n ih =>
    intro e h1 a1 a2 i1
    refine zS_iload (zdec eX10_copyRow 2 rfl) rfl ?_
    refine zS_iload_n (zdec eX10_copyRow 3 rfl) rfl ?_
    refine zS_icmp_ge (tgt := 31) (zdec eX10_copyRow 4 rfl) rfl (fun cz => absurd cz (by omega)) (fun cz => ?_)
    refine zS_aload_n (zdec eX10_copyRow 5 rfl) rfl rfl ?_
    refine zS_iload_n (zdec eX10_copyRow 6 rfl) rfl ?_
    refine zS_iload_n (zdec eX10_copyRow 7 rfl) rfl ?_
    refine zS_imul (zdec eX10_copyRow 8 rfl) ⟨by omega, by omega⟩ ?_
    refine zS_iload (zdec eX10_copyRow 9 rfl) rfl ?_
    refine zS_iadd (zdec eX10_copyRow 10 rfl) ⟨by omega, by omega⟩ ?_
    refine zS_aload_n (zdec eX10_copyRow 11 rfl) rfl rfl ?_
    refine zS_iload_n (zdec eX10_copyRow 12 rfl) rfl ?_
    refine zS_iload_n (zdec eX10_copyRow 13 rfl) rfl ?_
    refine zS_imul (zdec eX10_copyRow 14 rfl) ⟨by omega, by omega⟩ ?_
    refine zS_iload (zdec eX10_copyRow 15 rfl) rfl ?_
    refine zS_iadd (zdec eX10_copyRow 16 rfl) ⟨by omega, by omega⟩ ?_
    refine zS_ialoadE (v := (h 119 (40 * a + e))) (zdec eX10_copyRow 17 rfl) ⟨by decide, rfl⟩ (by omega) (by omega) (by rw [i1]; exact zcpy_out (by omega)) ?_
    refine zS_iastore (zdec eX10_copyRow 18 rfl) ⟨by decide, rfl⟩ (by omega) (by omega) ?_
    refine zS_iinc (zdec eX10_copyRow 19 rfl) rfl rfl ⟨by omega, by omega⟩ ?_
    refine zS_goto (tgt := 3) (zdec eX10_copyRow 20 rfl) rfl ?_
    exact ih (e + 1) _ (by omega) (by omega) (by rw [i1]; exact zcpy_step a1)
theorem r_cpr119 {d : Nat} {h : zH} {a b : Int} (a0 : 0 ≤ a) (a4 : a ≤ 4) (b0 : 0 ≤ b) (b4 : b ≤ 4) (hab : a ≠ b) : zMV d mX10_copyRow [zA 119, zI 40, zI a, zI b] h (fun h' => h' = zcpy h 119 (40 * a) 119 (40 * b) 40) := by
  refine zmet rfl rfl rfl ?_
  refine zS_iconst (zdec eX10_copyRow 0 rfl) rfl ?_
  refine zS_istore (zdec eX10_copyRow 1 rfl) rfl ?_
  exact L_cpr119 a0 a4 b0 b4 hab 40 0 h (by omega) (by omega) zcpy_0.symm
def oft (k a : Int) : Int := if k = 114 then a else if k = 115 then 10 * a else if k = 116 then 4 * a else if k = 117 then 35 * a else if k = 118 then 12 * a else 40 * a
theorem r_copyDesk {d : Nat} {h : zH} {a b : Int} (hd : 1 ≤ d) (a0 : 0 ≤ a) (a4 : a ≤ 4) (b0 : 0 ≤ b) (b4 : b ≤ 4) (hab : a ≠ b) : zMV d mX10_copyDesk [zA 108, zI a, zI b] h (fun h' => (∀ k j, blk b k j → h' k j = h k (oft k a + (j - oft k b))) ∧ Fr (blk b) h h') := by
  refine zmet rfl rfl rfl ?_
  refine zS_aload_n (zdec eX10_copyDesk 0 rfl) rfl rfl ?_
  refine zS_getref (i := 60) (zdec eX10_copyDesk 1 rfl) kF_X10_31 ⟨by decide, rfl⟩ rfl rfl rfl rfl rfl ?_
  refine zS_iconst (zdec eX10_copyDesk 2 rfl) rfl ?_
  refine zS_iload_n (zdec eX10_copyDesk 3 rfl) rfl ?_
  refine zS_iload_n (zdec eX10_copyDesk 4 rfl) rfl ?_
  refine zsMV (M' := mX10_copyRow) (As := [zA 114, zI 1, zI a, zI b]) (st := []) (zdec eX10_copyDesk 5 rfl) kM_X10_232 kS_X10_copyRow rfl rfl rfl (by omega) (r_cpr114 a0 a4 b0 b4 hab) (fun h1 e1 => ?_)
  refine zS_aload_n (zdec eX10_copyDesk 6 rfl) rfl rfl ?_
  refine zS_getref (i := 61) (zdec eX10_copyDesk 7 rfl) kF_X10_34 ⟨by decide, rfl⟩ rfl rfl rfl rfl rfl ?_
  refine zS_bipush (zdec eX10_copyDesk 8 rfl) rfl rfl ?_
  refine zS_iload_n (zdec eX10_copyDesk 9 rfl) rfl ?_
  refine zS_iload_n (zdec eX10_copyDesk 10 rfl) rfl ?_
  refine zsMV (M' := mX10_copyRow) (As := [zA 115, zI 10, zI a, zI b]) (st := []) (zdec eX10_copyDesk 11 rfl) kM_X10_232 kS_X10_copyRow rfl rfl rfl (by omega) (r_cpr115 a0 a4 b0 b4 hab) (fun h2 e2 => ?_)
  refine zS_aload_n (zdec eX10_copyDesk 12 rfl) rfl rfl ?_
  refine zS_getref (i := 62) (zdec eX10_copyDesk 13 rfl) kF_X10_37 ⟨by decide, rfl⟩ rfl rfl rfl rfl rfl ?_
  refine zS_iconst (zdec eX10_copyDesk 14 rfl) rfl ?_
  refine zS_iload_n (zdec eX10_copyDesk 15 rfl) rfl ?_
  refine zS_iload_n (zdec eX10_copyDesk 16 rfl) rfl ?_
  refine zsMV (M' := mX10_copyRow) (As := [zA 116, zI 4, zI a, zI b]) (st := []) (zdec eX10_copyDesk 17 rfl) kM_X10_232 kS_X10_copyRow rfl rfl rfl (by omega) (r_cpr116 a0 a4 b0 b4 hab) (fun h3 e3 => ?_)
  refine zS_aload_n (zdec eX10_copyDesk 18 rfl) rfl rfl ?_
  refine zS_getref (i := 63) (zdec eX10_copyDesk 19 rfl) kF_X10_40 ⟨by decide, rfl⟩ rfl rfl rfl rfl rfl ?_
  refine zS_bipush (zdec eX10_copyDesk 20 rfl) rfl rfl ?_
  refine zS_iload_n (zdec eX10_copyDesk 21 rfl) rfl ?_
  refine zS_iload_n (zdec eX10_copyDesk 22 rfl) rfl ?_
  refine zsMV (M' := mX10_copyRow) (As := [zA 117, zI 35, zI a, zI b]) (st := []) (zdec eX10_copyDesk 23 rfl) kM_X10_232 kS_X10_copyRow rfl rfl rfl (by omega) (r_cpr117 a0 a4 b0 b4 hab) (fun h4 e4 => ?_)
  refine zS_aload_n (zdec eX10_copyDesk 24 rfl) rfl rfl ?_
  refine zS_getref (i := 64) (zdec eX10_copyDesk 25 rfl) kF_X10_43 ⟨by decide, rfl⟩ rfl rfl rfl rfl rfl ?_
  refine zS_bipush (zdec eX10_copyDesk 26 rfl) rfl rfl ?_
  refine zS_iload_n (zdec eX10_copyDesk 27 rfl) rfl ?_
  refine zS_iload_n (zdec eX10_copyDesk 28 rfl) rfl ?_
  refine zsMV (M' := mX10_copyRow) (As := [zA 118, zI 12, zI a, zI b]) (st := []) (zdec eX10_copyDesk 29 rfl) kM_X10_232 kS_X10_copyRow rfl rfl rfl (by omega) (r_cpr118 a0 a4 b0 b4 hab) (fun h5 e5 => ?_)
  refine zS_aload_n (zdec eX10_copyDesk 30 rfl) rfl rfl ?_
  refine zS_getref (i := 65) (zdec eX10_copyDesk 31 rfl) kF_X10_46 ⟨by decide, rfl⟩ rfl rfl rfl rfl rfl ?_
  refine zS_bipush (zdec eX10_copyDesk 32 rfl) rfl rfl ?_
  refine zS_iload_n (zdec eX10_copyDesk 33 rfl) rfl ?_
  refine zS_iload_n (zdec eX10_copyDesk 34 rfl) rfl ?_
  refine zsMV (M' := mX10_copyRow) (As := [zA 119, zI 40, zI a, zI b]) (st := []) (zdec eX10_copyDesk 35 rfl) kM_X10_232 kS_X10_copyRow rfl rfl rfl (by omega) (r_cpr119 a0 a4 b0 b4 hab) (fun h6 e6 => ?_)
  subst e1 e2 e3 e4 e5 e6
  refine zlMV (zdec eX10_copyDesk 36 rfl) rfl ⟨fun k j hb => ?_, fun k j hb => ?_⟩
  · unfold blk at hb
    rcases hb with ⟨rfl, hb⟩ | ⟨rfl, hb⟩ | ⟨rfl, hb⟩ | ⟨rfl, hb⟩ | ⟨rfl, hb⟩ | ⟨rfl, hb⟩
    · rw [zcpy_k (by decide), zcpy_k (by decide), zcpy_k (by decide), zcpy_k (by decide), zcpy_k (by decide), zcpy_at (by omega) (by omega)]
      rw [Int.one_mul, Int.one_mul]; rfl
    · rw [zcpy_k (by decide), zcpy_k (by decide), zcpy_k (by decide), zcpy_k (by decide), zcpy_at (by omega) (by omega), zcpy_k (by decide)]
      rfl
    · rw [zcpy_k (by decide), zcpy_k (by decide), zcpy_k (by decide), zcpy_at (by omega) (by omega), zcpy_k (by decide), zcpy_k (by decide)]
      rfl
    · rw [zcpy_k (by decide), zcpy_k (by decide), zcpy_at (by omega) (by omega), zcpy_k (by decide), zcpy_k (by decide), zcpy_k (by decide)]
      rfl
    · rw [zcpy_k (by decide), zcpy_at (by omega) (by omega), zcpy_k (by decide), zcpy_k (by decide), zcpy_k (by decide), zcpy_k (by decide)]
      rfl
    · rw [zcpy_at (by omega) (by omega), zcpy_k (by decide), zcpy_k (by decide), zcpy_k (by decide), zcpy_k (by decide), zcpy_k (by decide)]
      rfl
  · unfold blk at hb
    rw [zcpy_out (by omega), zcpy_out (by omega), zcpy_out (by omega), zcpy_out (by omega), zcpy_out (by omega), zcpy_out (by omega)]
theorem DR.cp {h h' : zH} {a b : Int} {D : Dk} (R : DR h a D) (e : ∀ k j, blk b k j → h' k j = h k (oft k a + (j - oft k b))) : DR h' b D := by
  have g : ∀ k j v, blk b k j → h k (oft k a + (j - oft k b)) = v → h' k j = v := fun k j v hb hv => (e k j hb).trans hv
  refine ⟨g _ _ _ (by unfold blk; omega) ?_, fun w x y => g _ _ _ (by unfold blk; omega) ?_, fun s x y z => g _ _ _ (by unfold blk; omega) ?_, fun c w x y z u v => g _ _ _ (by unfold blk; omega) ?_, fun i x y z => ⟨g _ _ _ (by unfold blk; omega) ?_, g _ _ _ (by unfold blk; omega) ?_⟩, fun i x y z => ⟨g _ _ _ (by unfold blk; omega) ?_, g _ _ _ (by unfold blk; omega) ?_⟩⟩
  · show h 114 (a + (b - b)) = _; rw [show a + (b - b) = a by omega]; exact R.1
  · show h 115 (10 * a + (10 * b + w - 10 * b)) = _; rw [show 10 * a + (10 * b + w - 10 * b) = 10 * a + w by omega]; exact R.2.1 w x y
  · show h 116 (4 * a + (4 * b + s - 4 * b)) = _; rw [show 4 * a + (4 * b + s - 4 * b) = 4 * a + s by omega]; exact R.2.2.1 s x y z
  · show h 117 (35 * a + (35 * b + 7 * c + w - 35 * b)) = _; rw [show 35 * a + (35 * b + 7 * c + w - 35 * b) = 35 * a + 7 * c + w by omega]; exact R.2.2.2.1 c w x y z u v
  · show h 118 (12 * a + (12 * b + 2 * i - 12 * b)) = _; rw [show 12 * a + (12 * b + 2 * i - 12 * b) = 12 * a + 2 * i by omega]; exact (R.2.2.2.2.1 i x y z).1
  · show h 118 (12 * a + (12 * b + 2 * i + 1 - 12 * b)) = _; rw [show 12 * a + (12 * b + 2 * i + 1 - 12 * b) = 12 * a + 2 * i + 1 by omega]; exact (R.2.2.2.2.1 i x y z).2
  · show h 119 (40 * a + (40 * b + 2 * i - 40 * b)) = _; rw [show 40 * a + (40 * b + 2 * i - 40 * b) = 40 * a + 2 * i by omega]; exact (R.2.2.2.2.2 i x y z).1
  · show h 119 (40 * a + (40 * b + 2 * i + 1 - 40 * b)) = _; rw [show 40 * a + (40 * b + 2 * i + 1 - 40 * b) = 40 * a + 2 * i + 1 by omega]; exact (R.2.2.2.2.2 i x y z).2
theorem q_image {d : Nat} {h : zH} {D : Dk} {x : Int} (hd : 200 ≤ d) (RD : DR h 0 D) : zMI d mX10_image [zA 108, zI x] h (fun r h' => r = (if 0 ≤ x ∧ x < 3 then 0 else -2) ∧ (0 ≤ x ∧ x < 3 → DR h' (1 + x) D) ∧ (0 ≤ x ∧ x < 3 → h' 120 x = 1) ∧ Fr (fun k j => (k = 108 ∧ j = 0) ∨ blk (1 + x) k j ∨ (k = 120 ∧ j = x)) h h') := by
  refine zmet rfl rfl rfl ?_
  refine zS_aload_n (zdec eX10_image 0 rfl) rfl rfl ?_
  refine zS_iconst (zdec eX10_image 1 rfl) rfl ?_
  refine zS_putfield (x := 0) (zdec eX10_image 2 rfl) kF_X10_71 (Or.inl kf10_0) ⟨by decide, rfl⟩ rfl rfl rfl (Or.inl (fun q => by cases q)) ?_
  obtain ⟨h0, E0⟩ : ∃ x, x = zset h 108 0 0 := ⟨_, rfl⟩
  rw [show zset h 108 0 (0 : Int) = h0 from E0.symm]
  have f0 : Fr (fun k j => k = 108 ∧ j = 0) h h0 := by rw [E0]; exact Fr.rf.set ⟨rfl, rfl⟩
  refine zS_iload_n (zdec eX10_image 3 rfl) rfl ?_
  refine zS_i2l (zdec eX10_image 4 rfl) ?_
  refine zS_lconst (zdec eX10_image 5 rfl) ?_
  refine zS_ldc2_w (zdec eX10_image 6 rfl) kj_X10_486 rfl ?_
  refine zsI (M' := mX10_in) (As := [zJ x, zJ 0, zJ 2]) (st := []) (zdec eX10_image 7 rfl) kM_X10_76 kS_X10_in rfl rfl rfl (by omega) r_in ?_
  refine zS_if_ne (tgt := 20) (zdec eX10_image 8 rfl) rfl (fun c1 => ?_) (fun c1 => ?_)
  · have z1 := d2i_n.mp c1
    refine zS_aload_n (zdec eX10_image 11 rfl) rfl rfl ?_
    refine zS_iconst (zdec eX10_image 12 rfl) rfl ?_
    refine zS_iconst (zdec eX10_image 13 rfl) rfl ?_
    refine zS_iload_n (zdec eX10_image 14 rfl) rfl ?_
    refine zS_iadd (zdec eX10_image 15 rfl) ⟨by omega, by omega⟩ ?_
    refine zvMV (M' := mX10_copyDesk) (As := [zI 0, zI (1 + x)]) (st := []) (zdec eX10_image 16 rfl) kM_X10_229 kV_X10_copyDesk ⟨by decide, rfl⟩ rfl rfl rfl rfl rfl (by omega) (r_copyDesk (a := 0) (b := 1 + x) (by omega) (by omega) (by omega) (by omega) (by omega) (by omega)) (fun h3 ⟨e3, g3⟩ => ?_)
    refine zS_aload_n (zdec eX10_image 17 rfl) rfl rfl ?_
    refine zS_getref (i := 66) (zdec eX10_image 18 rfl) kF_X10_49 ⟨by decide, rfl⟩ rfl rfl rfl rfl rfl ?_
    refine zS_iload_n (zdec eX10_image 19 rfl) rfl ?_
    refine zS_iconst (zdec eX10_image 20 rfl) rfl ?_
    refine zS_bastore (zdec eX10_image 21 rfl) (Or.inr ⟨rfl, by omega⟩) ⟨by decide, rfl⟩ (by omega) (by omega) ?_
    refine zS_iconst (zdec eX10_image 22 rfl) rfl ?_
    exact zlMI (zdec eX10_image 23 rfl) rfl ⟨by rw [if_pos (by omega)], fun _ => ((RD.fr f0 (fun k j z => by omega)).cp e3).ofb (fun k j hb => zset_n (by unfold blk at hb; omega)), fun _ => zset_s _ _ _ _, ((f0.mono (fun k j z => Or.inl z)).tr g3 (S'' := (fun k j => (k = 108 ∧ j = 0) ∨ blk (1 + x) k j ∨ (k = 120 ∧ j = x))) (fun k j z => z) (fun k j z => Or.inr (Or.inl z))).set (by omega)⟩
  · have z1 := d2i_0.mp c1
    refine zS_bipush (zdec eX10_image 9 rfl) rfl rfl ?_
    exact zlMI (zdec eX10_image 10 rfl) rfl ⟨by rw [if_neg (by omega)], fun w => absurd w (by omega), fun w => absurd w (by omega), f0.mono (fun k j z => Or.inl z)⟩
theorem q_back {d : Nat} {h : zH} {D : Dk} {x v : Int} (hd : 200 ≤ d) (hv : 0 ≤ x ∧ x < 3 → h 120 x = v) (RI : 0 ≤ x ∧ x < 3 → DR h (1 + x) D) : zMI d mX10_back [zA 108, zI x] h (fun r h' => r = (if 0 ≤ x ∧ x < 3 then (if v = 0 then -6 else 0) else -2) ∧ ((0 ≤ x ∧ x < 3) ∧ v ≠ 0 → DR h' 0 D) ∧ Fr (fun k j => (k = 108 ∧ j = 0) ∨ blk 0 k j) h h' ∧ (¬ ((0 ≤ x ∧ x < 3) ∧ v ≠ 0) → Fr (fun k j => k = 108 ∧ j = 0) h h')) := by
  refine zmet rfl rfl rfl ?_
  refine zS_aload_n (zdec eX10_back 0 rfl) rfl rfl ?_
  refine zS_iconst (zdec eX10_back 1 rfl) rfl ?_
  refine zS_putfield (x := 0) (zdec eX10_back 2 rfl) kF_X10_71 (Or.inl kf10_0) ⟨by decide, rfl⟩ rfl rfl rfl (Or.inl (fun q => by cases q)) ?_
  obtain ⟨h0, E0⟩ : ∃ x, x = zset h 108 0 0 := ⟨_, rfl⟩
  rw [show zset h 108 0 (0 : Int) = h0 from E0.symm]
  have f0 : Fr (fun k j => k = 108 ∧ j = 0) h h0 := by rw [E0]; exact Fr.rf.set ⟨rfl, rfl⟩
  refine zS_iload_n (zdec eX10_back 3 rfl) rfl ?_
  refine zS_i2l (zdec eX10_back 4 rfl) ?_
  refine zS_lconst (zdec eX10_back 5 rfl) ?_
  refine zS_ldc2_w (zdec eX10_back 6 rfl) kj_X10_486 rfl ?_
  refine zsI (M' := mX10_in) (As := [zJ x, zJ 0, zJ 2]) (st := []) (zdec eX10_back 7 rfl) kM_X10_76 kS_X10_in rfl rfl rfl (by omega) r_in ?_
  refine zS_if_ne (tgt := 20) (zdec eX10_back 8 rfl) rfl (fun c1 => ?_) (fun c1 => ?_)
  · have z1 := d2i_n.mp c1
    refine zS_aload_n (zdec eX10_back 11 rfl) rfl rfl ?_
    refine zS_getref (i := 66) (zdec eX10_back 12 rfl) kF_X10_49 ⟨by decide, rfl⟩ rfl rfl rfl rfl rfl ?_
    refine zS_iload_n (zdec eX10_back 13 rfl) rfl ?_
    refine zS_baloadE (v := v) (zdec eX10_back 14 rfl) (Or.inr rfl) ⟨by decide, rfl⟩ (by omega) (by omega) ((f0 _ _ (by omega)).trans (hv (by omega))) ?_
    refine zS_if_ne (tgt := 32) (zdec eX10_back 15 rfl) rfl (fun c2 => ?_) (fun c2 => ?_)
    · refine zS_aload_n (zdec eX10_back 18 rfl) rfl rfl ?_
      refine zS_iconst (zdec eX10_back 19 rfl) rfl ?_
      refine zS_iload_n (zdec eX10_back 20 rfl) rfl ?_
      refine zS_iadd (zdec eX10_back 21 rfl) ⟨by omega, by omega⟩ ?_
      refine zS_iconst (zdec eX10_back 22 rfl) rfl ?_
      refine zvMV (M' := mX10_copyDesk) (As := [zI (1 + x), zI 0]) (st := []) (zdec eX10_back 23 rfl) kM_X10_229 kV_X10_copyDesk ⟨by decide, rfl⟩ rfl rfl rfl rfl rfl (by omega) (r_copyDesk (a := 1 + x) (b := 0) (by omega) (by omega) (by omega) (by omega) (by omega) (by omega)) (fun h3 ⟨e3, g3⟩ => ?_)
      refine zS_iconst (zdec eX10_back 24 rfl) rfl ?_
      exact zlMI (zdec eX10_back 25 rfl) rfl ⟨by rw [if_pos (by omega), if_neg (by omega)], fun _ => ((RI (by omega)).fr f0 (fun k j z => by omega)).cp e3, (f0.mono (fun k j z => Or.inl z)).tr g3 (fun k j z => z) (fun k j z => Or.inr z), fun w => absurd w (by omega)⟩
    · refine zS_bipush (zdec eX10_back 16 rfl) rfl rfl ?_
      exact zlMI (zdec eX10_back 17 rfl) rfl ⟨by rw [if_pos (by omega), if_pos (by omega)], fun w => absurd w.2 (by omega), f0.mono (fun k j z => Or.inl z), fun _ => f0⟩
  · have z1 := d2i_0.mp c1
    refine zS_bipush (zdec eX10_back 9 rfl) rfl rfl ?_
    exact zlMI (zdec eX10_back 10 rfl) rfl ⟨by rw [if_neg (by omega)], fun w => absurd w.1 (by omega), f0.mono (fun k j z => Or.inl z), fun _ => f0⟩

/-! WHEN ALL IS MADE: contracts in short forms, calls by them -/
abbrev zr (d : Nat) : zB := (d, 0, 0, 0, 0)
abbrev zOne (x : Int) (h : zH) : Option zV → zT → zH → Prop := fun rv T' h' => rv = some (zI x) ∧ T' = TT ∧ h' = h
abbrev zOnJ (x : Int) (h : zH) : Option zV → zT → zH → Prop := fun rv T' h' => rv = some (zJ x) ∧ T' = TT ∧ h' = h
abbrev zAnI (P : Int → zH → Prop) : Option zV → zT → zH → Prop := fun rv T' h' => ∃ x, rv = some (zI x) ∧ T' = TT ∧ P x h'
abbrev zAnJ (P : Int → zH → Prop) : Option zV → zT → zH → Prop := fun rv T' h' => ∃ x, rv = some (zJ x) ∧ T' = TT ∧ P x h'
abbrev zAnV (P : zH → Prop) : Option zV → zT → zH → Prop := fun rv T' h' => rv = none ∧ T' = TT ∧ P h'
abbrev zAnA (y : Int) (P : zH → Prop) : Option zV → zT → zH → Prop := fun rv T' h' => rv = some (zA y) ∧ T' = TT ∧ P h'
/-- answers x, changes nothing -/
def zPI (d : Nat) (M : zM) (av : List zV) (h : zH) (x : Int) : Prop := zMet d 0 0 M av TT h (zOne x h)
def zPJ (d : Nat) (M : zM) (av : List zV) (h : zH) (x : Int) : Prop := zMet d 0 0 M av TT h (zOnJ x h)
def zMI (d : Nat) (M : zM) (av : List zV) (h : zH) (P : Int → zH → Prop) : Prop := zMet d 0 0 M av TT h (zAnI P)
def zMJ (d : Nat) (M : zM) (av : List zV) (h : zH) (P : Int → zH → Prop) : Prop := zMet d 0 0 M av TT h (zAnJ P)
def zMV (d : Nat) (M : zM) (av : List zV) (h : zH) (P : zH → Prop) : Prop := zMet d 0 0 M av TT h (zAnV P)
def zMA (d : Nat) (M : zM) (av : List zV) (h : zH) (y : Int) (P : zH → Prop) : Prop := zMet d 0 0 M av TT h (zAnA y P)
section Norm
variable {M : zM} {d pc : Nat} {ls : List zV} {h : zH} {Q : Option zV → zT → zH → Prop}
variable {ix n ci nf : Nat} {M' : zM} {kk : Int} {As st stk : List zV} {x : Int}
theorem zm0 : (0 : Nat) ≤ 0 ∧ (0 : Nat) ≤ 0 := ⟨Nat.le_refl 0, Nat.le_refl 0⟩
theorem zS_v (hd : decode M.2.1 pc = .ok (.invokevirtual ix, 3)) (hl1 : Cond.methodLink M.1.cls ix M'.1 ∈ lwg) (hL : zLv M' n) (ht : zAt TT kk (ci, nf)) (hci : decide (ci < 20) = true) (hcl : (vwCl[ci]?).map (fun q => q.1) = some M'.1.cls) (hn : As.length = n) (hw : Nat.ble (st.map zcat).sum 8 = true) (hs : As.reverse ++ zA kk :: st = stk) (hdd : 1 ≤ d)
    {Q1 : Option zV → zT → zH → Prop} (hM : zMet (d - 1) 0 0 M' (zA kk :: As) TT h Q1) (k : ∀ rv T' h', Q1 rv T' h' → zS M (zr d) (pc + 3) ls (rv.toList ++ st) T' h' Q) : zS M (zr d) pc ls stk TT h Q := by
  rw [← hs]
  exact zS_invokevirtual hd hl1 hL ht (of_decide_eq_true hci) hcl hn (Nat.le_of_ble_eq_true hw) (by show d - 1 + 1 ≤ d; omega) hM zm0 (fun rv T' h' q _ => k rv T' h' q)
theorem zS_s (hd : decode M.2.1 pc = .ok (.invokestatic ix, 3)) (hl1 : Cond.methodLink M.1.cls ix M'.1 ∈ lwg) (hL : zLs M' n) (hn : As.length = n) (hw : Nat.ble (st.map zcat).sum 8 = true) (hs : As.reverse ++ st = stk) (hdd : 1 ≤ d)
    {Q1 : Option zV → zT → zH → Prop} (hM : zMet (d - 1) 0 0 M' As TT h Q1) (k : ∀ rv T' h', Q1 rv T' h' → zS M (zr d) (pc + 3) ls (rv.toList ++ st) T' h' Q) : zS M (zr d) pc ls stk TT h Q := by
  rw [← hs]
  exact zS_invokestatic hd hl1 hL hn (Nat.le_of_ble_eq_true hw) (by show d - 1 + 1 ≤ d; omega) hM zm0 (fun rv T' h' q _ => k rv T' h' q)
theorem zvI (hd : decode M.2.1 pc = .ok (.invokevirtual ix, 3)) (hl1 : Cond.methodLink M.1.cls ix M'.1 ∈ lwg) (hL : zLv M' n) (ht : zAt TT kk (ci, nf)) (hci : decide (ci < 20) = true) (hcl : (vwCl[ci]?).map (fun q => q.1) = some M'.1.cls) (hn : As.length = n) (hw : Nat.ble (st.map zcat).sum 8 = true) (hs : As.reverse ++ zA kk :: st = stk) (hdd : 1 ≤ d)
    (hM : zPI (d - 1) M' (zA kk :: As) h x) (k : zS M (zr d) (pc + 3) ls (zI x :: st) TT h Q) : zS M (zr d) pc ls stk TT h Q :=
  zS_v hd hl1 hL ht hci hcl hn hw hs hdd hM (fun rv T' h' q => by obtain ⟨rfl, rfl, rfl⟩ := q; exact k)
theorem zvJ (hd : decode M.2.1 pc = .ok (.invokevirtual ix, 3)) (hl1 : Cond.methodLink M.1.cls ix M'.1 ∈ lwg) (hL : zLv M' n) (ht : zAt TT kk (ci, nf)) (hci : decide (ci < 20) = true) (hcl : (vwCl[ci]?).map (fun q => q.1) = some M'.1.cls) (hn : As.length = n) (hw : Nat.ble (st.map zcat).sum 8 = true) (hs : As.reverse ++ zA kk :: st = stk) (hdd : 1 ≤ d)
    (hM : zPJ (d - 1) M' (zA kk :: As) h x) (k : zS M (zr d) (pc + 3) ls (zJ x :: st) TT h Q) : zS M (zr d) pc ls stk TT h Q :=
  zS_v hd hl1 hL ht hci hcl hn hw hs hdd hM (fun rv T' h' q => by obtain ⟨rfl, rfl, rfl⟩ := q; exact k)
theorem zsI (hd : decode M.2.1 pc = .ok (.invokestatic ix, 3)) (hl1 : Cond.methodLink M.1.cls ix M'.1 ∈ lwg) (hL : zLs M' n) (hn : As.length = n) (hw : Nat.ble (st.map zcat).sum 8 = true) (hs : As.reverse ++ st = stk) (hdd : 1 ≤ d)
    (hM : zPI (d - 1) M' As h x) (k : zS M (zr d) (pc + 3) ls (zI x :: st) TT h Q) : zS M (zr d) pc ls stk TT h Q :=
  zS_s hd hl1 hL hn hw hs hdd hM (fun rv T' h' q => by obtain ⟨rfl, rfl, rfl⟩ := q; exact k)
theorem zsJ (hd : decode M.2.1 pc = .ok (.invokestatic ix, 3)) (hl1 : Cond.methodLink M.1.cls ix M'.1 ∈ lwg) (hL : zLs M' n) (hn : As.length = n) (hw : Nat.ble (st.map zcat).sum 8 = true) (hs : As.reverse ++ st = stk) (hdd : 1 ≤ d)
    (hM : zPJ (d - 1) M' As h x) (k : zS M (zr d) (pc + 3) ls (zJ x :: st) TT h Q) : zS M (zr d) pc ls stk TT h Q :=
  zS_s hd hl1 hL hn hw hs hdd hM (fun rv T' h' q => by obtain ⟨rfl, rfl, rfl⟩ := q; exact k)
theorem zvMI {P : Int → zH → Prop} (hd : decode M.2.1 pc = .ok (.invokevirtual ix, 3)) (hl1 : Cond.methodLink M.1.cls ix M'.1 ∈ lwg) (hL : zLv M' n) (ht : zAt TT kk (ci, nf)) (hci : decide (ci < 20) = true) (hcl : (vwCl[ci]?).map (fun q => q.1) = some M'.1.cls) (hn : As.length = n) (hw : Nat.ble (st.map zcat).sum 8 = true) (hs : As.reverse ++ zA kk :: st = stk) (hdd : 1 ≤ d)
    (hM : zMI (d - 1) M' (zA kk :: As) h P) (k : ∀ x h', P x h' → zS M (zr d) (pc + 3) ls (zI x :: st) TT h' Q) : zS M (zr d) pc ls stk TT h Q :=
  zS_v hd hl1 hL ht hci hcl hn hw hs hdd hM (fun rv T' h' q => by obtain ⟨x, rfl, rfl, hp⟩ := q; exact k x h' hp)
theorem zvMJ {P : Int → zH → Prop} (hd : decode M.2.1 pc = .ok (.invokevirtual ix, 3)) (hl1 : Cond.methodLink M.1.cls ix M'.1 ∈ lwg) (hL : zLv M' n) (ht : zAt TT kk (ci, nf)) (hci : decide (ci < 20) = true) (hcl : (vwCl[ci]?).map (fun q => q.1) = some M'.1.cls) (hn : As.length = n) (hw : Nat.ble (st.map zcat).sum 8 = true) (hs : As.reverse ++ zA kk :: st = stk) (hdd : 1 ≤ d)
    (hM : zMJ (d - 1) M' (zA kk :: As) h P) (k : ∀ x h', P x h' → zS M (zr d) (pc + 3) ls (zJ x :: st) TT h' Q) : zS M (zr d) pc ls stk TT h Q :=
  zS_v hd hl1 hL ht hci hcl hn hw hs hdd hM (fun rv T' h' q => by obtain ⟨x, rfl, rfl, hp⟩ := q; exact k x h' hp)
theorem zvMV {P : zH → Prop} (hd : decode M.2.1 pc = .ok (.invokevirtual ix, 3)) (hl1 : Cond.methodLink M.1.cls ix M'.1 ∈ lwg) (hL : zLv M' n) (ht : zAt TT kk (ci, nf)) (hci : decide (ci < 20) = true) (hcl : (vwCl[ci]?).map (fun q => q.1) = some M'.1.cls) (hn : As.length = n) (hw : Nat.ble (st.map zcat).sum 8 = true) (hs : As.reverse ++ zA kk :: st = stk) (hdd : 1 ≤ d)
    (hM : zMV (d - 1) M' (zA kk :: As) h P) (k : ∀ h', P h' → zS M (zr d) (pc + 3) ls st TT h' Q) : zS M (zr d) pc ls stk TT h Q :=
  zS_v hd hl1 hL ht hci hcl hn hw hs hdd hM (fun rv T' h' q => by obtain ⟨rfl, rfl, hp⟩ := q; exact k h' hp)
theorem zvMA {y : Int} {P : zH → Prop} (hd : decode M.2.1 pc = .ok (.invokevirtual ix, 3)) (hl1 : Cond.methodLink M.1.cls ix M'.1 ∈ lwg) (hL : zLv M' n) (ht : zAt TT kk (ci, nf)) (hci : decide (ci < 20) = true) (hcl : (vwCl[ci]?).map (fun q => q.1) = some M'.1.cls) (hn : As.length = n) (hw : Nat.ble (st.map zcat).sum 8 = true) (hs : As.reverse ++ zA kk :: st = stk) (hdd : 1 ≤ d)
    (hM : zMA (d - 1) M' (zA kk :: As) h y P) (k : ∀ h', P h' → zS M (zr d) (pc + 3) ls (zA y :: st) TT h' Q) : zS M (zr d) pc ls stk TT h Q :=
  zS_v hd hl1 hL ht hci hcl hn hw hs hdd hM (fun rv T' h' q => by obtain ⟨rfl, rfl, hp⟩ := q; exact k h' hp)
theorem zsMV {P : zH → Prop} (hd : decode M.2.1 pc = .ok (.invokestatic ix, 3)) (hl1 : Cond.methodLink M.1.cls ix M'.1 ∈ lwg) (hL : zLs M' n) (hn : As.length = n) (hw : Nat.ble (st.map zcat).sum 8 = true) (hs : As.reverse ++ st = stk) (hdd : 1 ≤ d)
    (hM : zMV (d - 1) M' As h P) (k : ∀ h', P h' → zS M (zr d) (pc + 3) ls st TT h' Q) : zS M (zr d) pc ls stk TT h Q :=
  zS_s hd hl1 hL hn hw hs hdd hM (fun rv T' h' q => by obtain ⟨rfl, rfl, hp⟩ := q; exact k h' hp)
/-! ends -/
theorem zlI {y : Int} (hd : decode M.2.1 pc = .ok (.ireturn, 1)) (hty : M.2.2.2 = some .int) (e : x = y) : zS M (zr d) pc ls [zI x] TT h (zOne y h) := zS_ireturn hd hty zm0 ⟨by rw [e], rfl, rfl⟩
theorem zlZ {y : Int} (hd : decode M.2.1 pc = .ok (.ireturn, 1)) (hty : M.2.2.2 = some .boolean) (hx : x = 0 ∨ x = 1) (e : x = y) : zS M (zr d) pc ls [zI x] TT h (zOne y h) := zS_zreturn hd hty hx zm0 ⟨by rw [e], rfl, rfl⟩
theorem zlJ {y : Int} (hd : decode M.2.1 pc = .ok (.lreturn, 1)) (hty : M.2.2.2 = some .long) (e : x = y) : zS M (zr d) pc ls [zJ x] TT h (zOnJ y h) := zS_lreturn hd hty zm0 ⟨by rw [e], rfl, rfl⟩
theorem zlMI {P : Int → zH → Prop} (hd : decode M.2.1 pc = .ok (.ireturn, 1)) (hty : M.2.2.2 = some .int) (e : P x h) : zS M (zr d) pc ls [zI x] TT h (zAnI P) := zS_ireturn hd hty zm0 ⟨x, rfl, rfl, e⟩
theorem zlMZ {P : Int → zH → Prop} (hd : decode M.2.1 pc = .ok (.ireturn, 1)) (hty : M.2.2.2 = some .boolean) (hx : x = 0 ∨ x = 1) (e : P x h) : zS M (zr d) pc ls [zI x] TT h (zAnI P) := zS_zreturn hd hty hx zm0 ⟨x, rfl, rfl, e⟩
theorem zlMJ {P : Int → zH → Prop} (hd : decode M.2.1 pc = .ok (.lreturn, 1)) (hty : M.2.2.2 = some .long) (e : P x h) : zS M (zr d) pc ls [zJ x] TT h (zAnJ P) := zS_lreturn hd hty zm0 ⟨x, rfl, rfl, e⟩
theorem zlMV {P : zH → Prop} (hd : decode M.2.1 pc = .ok (.return_, 1)) (hty : M.2.2.2 = none) (e : P h) : zS M (zr d) pc ls [] TT h (zAnV P) := zS_return hd hty zm0 ⟨rfl, rfl, e⟩
theorem zlMA {P : zH → Prop} {y : Int} {n : String} (hd : decode M.2.1 pc = .ok (.areturn, 1)) (hty : M.2.2.2 = some (.object n)) (hx : 0 ≤ y) (e : P h) : zS M (zr d) pc ls [zA y] TT h (zAnA y P) := zS_areturn hd hty hx zm0 ⟨rfl, rfl, e⟩
theorem zmet {d : Nat} {M : zM} {av : List zV} {h : zH} {Q : Option zV → zT → zH → Prop} {ls : List zV} (hp : plainName M.1.cls = true) (he : zlay av ++ List.replicate (M.2.2.1 - (zlay av).length) zN = ls) (hle : Nat.ble (zlay av).length M.2.2.1 = true)
    (k : zS M (zr d) 0 ls [] TT h Q) : zMet d 0 0 M av TT h Q := zMet.of hp he (Nat.le_of_ble_eq_true hle) k
end Norm

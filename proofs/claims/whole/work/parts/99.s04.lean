/-! THE COMMON STATE: desk D, images I, kept K, rows W, tape B, L, fault F, Q; script xs of N ints -/
def SC (h : zH) (xs : Int → Int) (N : Int) : Prop := (h (-2) 0 = N ∧ 0 ≤ N ∧ N ≤ 3072) ∧ ∀ j, 0 ≤ j → j < N → h (-1) j = xs j ∧ zR (xs j)
theorem SC.fr {S : Int → Int → Prop} {h h' : zH} {xs : Int → Int} {N : Int} (R : SC h xs N) (f : Fr S h h') (hn : ∀ k j, S k j → 0 ≤ k) : SC h' xs N :=
  ⟨⟨(f _ _ (fun z => by have := hn _ _ z; omega)).trans R.1.1, R.1.2⟩, fun j a b => ⟨(f _ _ (fun z => by have := hn _ _ z; omega)).trans (R.2 j a b).1, (R.2 j a b).2⟩⟩
def UI (h : zH) (I : Int → Dk) (K : Int → Int) : Prop := (DC h 33 (I 0) ∧ DC h 44 (I 1) ∧ DC h 55 (I 2)) ∧ h 66 0 = K 0 ∧ h 66 1 = K 1 ∧ h 66 2 = K 2
def UJ (h : zH) (I : Int → Dk) (K : Int → Int) : Prop := ∀ x, 0 ≤ x → x < 3 → DR h (1 + x) (I x) ∧ h 120 x = K x
def UC (h : zH) (D : Dk) (I : Int → Dk) (K : Int → Int) (W : Rw) (B : Int → Int) (L F Q : Int) : Prop := DC h 15 D ∧ UI h I K ∧ RC h W ∧ TX h B L F Q
def UR (h : zH) (D : Dk) (I : Int → Dk) (K : Int → Int) (W : Rw) (B : Int → Int) (L F Q : Int) : Prop := DR h 0 D ∧ UJ h I K ∧ RR h W ∧ TR h B L F Q
def UV (D : Dk) (I : Int → Dk) (W : Rw) (L : Int) : Prop := DV D ∧ (∀ x, 0 ≤ x → x < 3 → DV (I x)) ∧ RV W ∧ 0 ≤ L ∧ L ≤ 700
def SU (h : zH) (xs : Int → Int) (N : Int) (D : Dk) (I : Int → Dk) (K : Int → Int) (W : Rw) (B : Int → Int) (L F Q : Int) : Prop := SC h xs N ∧ UC h D I K W B L F Q ∧ UR h D I K W B L F Q ∧ UV D I W L
theorem TX.fr {S : Int → Int → Prop} {h h' : zH} {B : Int → Int} {L F Q : Int} (R : TX h B L F Q) (f : Fr S h h') (hn : ∀ k j, S k j → ¬ ((k = 1 ∧ 2 ≤ j ∧ j ≤ 4) ∨ k = 2)) : TX h' B L F Q :=
  ⟨(f _ _ (fun z => hn _ _ z (by omega))).trans R.1, fun i a b => (f _ _ (fun z => hn _ _ z (by omega))).trans (R.2.1 i a b), (f _ _ (fun z => hn _ _ z (by omega))).trans R.2.2.1, (f _ _ (fun z => hn _ _ z (by omega))).trans R.2.2.2⟩
theorem UI.fr {S : Int → Int → Prop} {h h' : zH} {I : Int → Dk} {K : Int → Int} (R : UI h I K) (f : Fr S h h') (hn : ∀ k j, S k j → ¬ (33 ≤ k ∧ k ≤ 66)) : UI h' I K :=
  ⟨⟨R.1.1.at (fun k j a b => f _ _ (fun z => hn _ _ z (by omega))), R.1.2.1.at (fun k j a b => f _ _ (fun z => hn _ _ z (by omega))), R.1.2.2.at (fun k j a b => f _ _ (fun z => hn _ _ z (by omega)))⟩, (f _ _ (fun z => hn _ _ z (by omega))).trans R.2.1, (f _ _ (fun z => hn _ _ z (by omega))).trans R.2.2.1, (f _ _ (fun z => hn _ _ z (by omega))).trans R.2.2.2⟩
theorem UJ.fr {S : Int → Int → Prop} {h h' : zH} {I : Int → Dk} {K : Int → Int} (R : UJ h I K) (f : Fr S h h') (hn : ∀ k j, S k j → ¬ (blk 1 k j ∨ blk 2 k j ∨ blk 3 k j ∨ k = 120)) : UJ h' I K := fun x x0 x1 =>
  ⟨(R x x0 x1).1.ofb (fun k j b => f _ _ (fun z => hn _ _ z (by
    have e : x = 0 ∨ x = 1 ∨ x = 2 := by omega
    rcases e with rfl | rfl | rfl
    · exact Or.inl b
    · exact Or.inr (Or.inl b)
    · exact Or.inr (Or.inr (Or.inl b))))), (f _ _ (fun z => hn _ _ z (Or.inr (Or.inr (Or.inr rfl))))).trans (R x x0 x1).2⟩
section US
variable {h h' : zH} {xs : Int → Int} {N : Int} {D : Dk} {I : Int → Dk} {K : Int → Int} {W : Rw} {B : Int → Int} {L F Q : Int} {S : Int → Int → Prop}
theorem UC.fr (R : UC h D I K W B L F Q) (f : Fr S h h') (hn : ∀ k j, S k j → ¬ ((15 ≤ k ∧ k ≤ 25) ∨ (33 ≤ k ∧ k ≤ 66) ∨ (69 ≤ k ∧ k ≤ 74) ∨ (k = 1 ∧ 2 ≤ j ∧ j ≤ 4) ∨ k = 2)) : UC h' D I K W B L F Q :=
  ⟨R.1.fr f (fun k j z q => hn k j z (Or.inl q)), R.2.1.fr f (fun k j z q => hn k j z (Or.inr (Or.inl q))), R.2.2.1.fr f (fun k j z q => hn k j z (Or.inr (Or.inr (Or.inl q)))), R.2.2.2.fr f (fun k j z q => hn k j z (Or.inr (Or.inr (Or.inr q))))⟩
theorem UR.fr (R : UR h D I K W B L F Q) (f : Fr S h h') (hn : ∀ k j, S k j → ¬ ((109 ≤ k ∧ k ≤ 111) ∨ (113 ≤ k ∧ k ≤ 120) ∨ (k = 108 ∧ (j = 6 ∨ j = 14 ∨ j = 15)))) : UR h' D I K W B L F Q :=
  ⟨R.1.fr f (fun k j z q => hn k j z (Or.inr (Or.inl (by omega)))), R.2.1.fr f (fun k j z q => hn k j z (Or.inr (Or.inl (by unfold blk at q; omega)))), R.2.2.1.fr f (fun k j z q => hn k j z (Or.inl q)), R.2.2.2.fr f (fun k j z q => hn k j z (q.elim (fun q => Or.inr (Or.inr q)) (fun q => Or.inr (Or.inl (by omega)))))⟩
/-- the class's questions change nothing of it -/
theorem UC.q (R : UC h D I K W B L F Q) (f : Fr sQ h h') : UC h' D I K W B L F Q := R.fr f (fun k j z => by omega)
theorem UR.c (R : UR h D I K W B L F Q) (f : Fr S h h') (hn : ∀ k j, S k j → k < 108) : UR h' D I K W B L F Q := R.fr f (fun k j z => by have := hn k j z; omega)
theorem UC.c (R : UC h D I K W B L F Q) (f : Fr S h h') (hn : ∀ k j, S k j → 108 ≤ k) : UC h' D I K W B L F Q := R.fr f (fun k j z => by have := hn k j z; omega)
theorem UR.q (R : UR h D I K W B L F Q) (f : Fr sQR h h') : UR h' D I K W B L F Q := R.fr f (fun k j z => by omega)
/-- acts -/
theorem UC.a {D' : Dk} (R : UC h D I K W B L F Q) (f : Fr sD h h') (d : DC h' 15 D') : UC h' D' I K W B L F Q := ⟨d, R.2.1.fr f (fun k j z => by omega), R.2.2.1.fr f (fun k j z => by omega), R.2.2.2.fr f (fun k j z => by omega)⟩
theorem UR.a {D' : Dk} (R : UR h D I K W B L F Q) (f : Fr sB h h') (d : DR h' 0 D') : UR h' D' I K W B L F Q :=
  ⟨d, R.2.1.fr f (fun k j z => by unfold sB blk at z; unfold blk; omega), R.2.2.1.fr f (fun k j z => by unfold sB blk at z; omega), R.2.2.2.fr f (fun k j z => by unfold sB blk at z; omega)⟩
/-- rows -/
theorem UC.w {W' : Rw} (R : UC h D I K W B L F Q) (f : Fr (fun k _ => 69 ≤ k ∧ k ≤ 74) h h') (d : RC h' W') : UC h' D I K W' B L F Q := ⟨R.1.fr f (fun k j z => by omega), R.2.1.fr f (fun k j z => by omega), d, R.2.2.2.fr f (fun k j z => by omega)⟩
theorem UR.w {W' : Rw} (R : UR h D I K W B L F Q) (f : Fr (fun k j => (k = 108 ∧ j = 0) ∨ (109 ≤ k ∧ k ≤ 112)) h h') (d : RR h' W') : UR h' D I K W' B L F Q := ⟨R.1.fr f (fun k j z => by omega), R.2.1.fr f (fun k j z => by unfold blk; omega), d, R.2.2.2.fr f (fun k j z => by omega)⟩
/-- tape -/
theorem UC.t {B' : Int → Int} {L' F' Q' : Int} (R : UC h D I K W B L F Q) (f : Fr S h h') (hn : ∀ k j, S k j → k = 1 ∨ k = 2) (d : TX h' B' L' F' Q') : UC h' D I K W B' L' F' Q' := ⟨R.1.fr f (fun k j z => by have := hn k j z; omega), R.2.1.fr f (fun k j z => by have := hn k j z; omega), R.2.2.1.fr f (fun k j z => by have := hn k j z; omega), d⟩
theorem UR.t {B' : Int → Int} {L' F' Q' : Int} (R : UR h D I K W B L F Q) (f : Fr S h h') (hn : ∀ k j, S k j → k = 108 ∨ k = 113) (d : TR h' B' L' F' Q') : UR h' D I K W B' L' F' Q' := ⟨R.1.fr f (fun k j z => by have := hn k j z; omega), R.2.1.fr f (fun k j z => by have := hn k j z; unfold blk; omega), R.2.2.1.fr f (fun k j z => by have := hn k j z; omega), d⟩
/-- desk -/
theorem UC.d {D' : Dk} {B' : Int → Int} {L' F' Q' : Int} (R : UC h D I K W B L F Q) (f : Fr (fun k _ => 1 ≤ k ∧ k ≤ 25) h h') (e : DC h' 15 D') (d : TX h' B' L' F' Q') : UC h' D' I K W B' L' F' Q' := ⟨e, R.2.1.fr f (fun k j z => by omega), R.2.2.1.fr f (fun k j z => by omega), d⟩
theorem UR.d {D' : Dk} {B' : Int → Int} {L' F' Q' : Int} (R : UR h D I K W B L F Q) (f : Fr (fun k j => sX k j ∨ blk 0 k j) h h') (e : DR h' 0 D') (d : TR h' B' L' F' Q') : UR h' D' I K W B' L' F' Q' := ⟨e, R.2.1.fr f (fun k j z => by unfold sX blk at z; unfold blk; omega), R.2.2.1.fr f (fun k j z => by unfold sX blk at z; omega), d⟩
/-- images -/
def imI (I : Int → Dk) (D : Dk) (x : Int) : Int → Dk := fun j => if j = x then D else I j
def imK (K : Int → Int) (x : Int) : Int → Int := fun j => if j = x then 1 else K j
theorem UR.im {x : Int} (R : UR h D I K W B L F Q) (x0 : 0 ≤ x) (x1 : x < 3) (f : Fr (fun k j => (k = 108 ∧ j = 0) ∨ blk (1 + x) k j ∨ (k = 120 ∧ j = x)) h h') (d : DR h' (1 + x) D) (e : h' 120 x = 1) : UR h' D (imI I D x) (imK K x) W B L F Q := by
  refine ⟨R.1.ofb (fun k j b => f _ _ (fun z => by unfold blk at z b; omega)), fun y y0 y1 => ?_, R.2.2.1.fr f (fun k j z => by unfold blk at z; omega), R.2.2.2.fr f (fun k j z => by unfold blk at z; omega)⟩
  by_cases c : y = x
  · subst c
    unfold imI imK
    rw [if_pos rfl, if_pos rfl]
    exact ⟨d, e⟩
  · unfold imI imK
    rw [if_neg c, if_neg c]
    exact ⟨(R.2.1 y y0 y1).1.ofb (fun k j b => f _ _ (fun z => by unfold blk at z b; omega)), (f _ _ (fun z => by unfold blk at z; omega)).trans (R.2.1 y y0 y1).2⟩
theorem UR.bk {x : Int} (R : UR h D I K W B L F Q) (x0 : 0 ≤ x) (x1 : x < 3) (f : Fr (fun k j => (k = 108 ∧ j = 0) ∨ blk 0 k j) h h') (d : DR h' 0 (I x)) : UR h' (I x) I K W B L F Q :=
  ⟨d, R.2.1.fr f (fun k j z => by unfold blk at z ⊢; omega), R.2.2.1.fr f (fun k j z => by unfold blk at z; omega), R.2.2.2.fr f (fun k j z => by unfold blk at z; omega)⟩
theorem UR.o (R : UR h D I K W B L F Q) (f : Fr (fun k j => k = 108 ∧ j = 0) h h') : UR h' D I K W B L F Q := R.fr f (fun k j z => by omega)
theorem UC.im0 (R : UC h D I K W B L F Q) (f : Fr (fun k j => (33 ≤ k ∧ k ≤ 43) ∨ (k = 66 ∧ j = 0)) h h') (d : DC h' 33 D) (e : h' 66 0 = 1) : UC h' D (imI I D 0) (imK K 0) W B L F Q :=
  ⟨R.1.fr f (fun k j z => by omega), ⟨⟨d, R.2.1.1.2.1.at (fun k j a b => f _ _ (fun z => by omega)), R.2.1.1.2.2.at (fun k j a b => f _ _ (fun z => by omega))⟩, e, (f _ _ (fun z => by omega)).trans R.2.1.2.2.1, (f _ _ (fun z => by omega)).trans R.2.1.2.2.2⟩, R.2.2.1.fr f (fun k j z => by omega), R.2.2.2.fr f (fun k j z => by omega)⟩
theorem UC.im1 (R : UC h D I K W B L F Q) (f : Fr (fun k j => (44 ≤ k ∧ k ≤ 54) ∨ (k = 66 ∧ j = 1)) h h') (d : DC h' 44 D) (e : h' 66 1 = 1) : UC h' D (imI I D 1) (imK K 1) W B L F Q :=
  ⟨R.1.fr f (fun k j z => by omega), ⟨⟨R.2.1.1.1.at (fun k j a b => f _ _ (fun z => by omega)), d, R.2.1.1.2.2.at (fun k j a b => f _ _ (fun z => by omega))⟩, (f _ _ (fun z => by omega)).trans R.2.1.2.1, e, (f _ _ (fun z => by omega)).trans R.2.1.2.2.2⟩, R.2.2.1.fr f (fun k j z => by omega), R.2.2.2.fr f (fun k j z => by omega)⟩
theorem UC.im2 (R : UC h D I K W B L F Q) (f : Fr (fun k j => (55 ≤ k ∧ k ≤ 65) ∨ (k = 66 ∧ j = 2)) h h') (d : DC h' 55 D) (e : h' 66 2 = 1) : UC h' D (imI I D 2) (imK K 2) W B L F Q :=
  ⟨R.1.fr f (fun k j z => by omega), ⟨⟨R.2.1.1.1.at (fun k j a b => f _ _ (fun z => by omega)), R.2.1.1.2.1.at (fun k j a b => f _ _ (fun z => by omega)), d⟩, (f _ _ (fun z => by omega)).trans R.2.1.2.1, (f _ _ (fun z => by omega)).trans R.2.1.2.2.1, e⟩, R.2.2.1.fr f (fun k j z => by omega), R.2.2.2.fr f (fun k j z => by omega)⟩
theorem UC.bk {D' : Dk} (R : UC h D I K W B L F Q) (f : Fr (fun k _ => 15 ≤ k ∧ k ≤ 25) h h') (d : DC h' 15 D') : UC h' D' I K W B L F Q := ⟨d, R.2.1.fr f (fun k j z => by omega), R.2.2.1.fr f (fun k j z => by omega), R.2.2.2.fr f (fun k j z => by omega)⟩
theorem UV.im {x : Int} (V : UV D I W L) : UV D (imI I D x) W L := by
  refine ⟨V.1, fun y y0 y1 => ?_, V.2.2⟩
  unfold imI
  by_cases c : y = x
  · rw [if_pos c]; exact V.1
  · rw [if_neg c]; exact V.2.1 y y0 y1
end US
theorem n_feedL_V {L : Int} (l0 : 0 ≤ L ∧ L ≤ 700) : 0 ≤ n_feedL L ∧ n_feedL L ≤ 700 := by unfold n_feedL; split <;> omega
theorem n_end_V {L : Int} (l0 : 0 ≤ L ∧ L ≤ 700) (x : Int) : 0 ≤ n_end L x ∧ n_end L x ≤ 700 := by unfold n_end; split <;> omega
/-! calls with any room -/
section Room
variable {M : zM} {r : zB} {pc : Nat} {ls : List zV} {h : zH} {Q : Option zV → zT → zH → Prop}
variable {ix n ci nf : Nat} {M' : zM} {kk : Int} {As st stk : List zV} {x : Int}
theorem zS_vr (hr : (Nat.ble r.2.1 r.2.2.2.1 && Nat.ble r.2.2.1 r.2.2.2.2) = true) (hd : decode M.2.1 pc = .ok (.invokevirtual ix, 3)) (hl1 : Cond.methodLink M.1.cls ix M'.1 ∈ lwg) (hL : zLv M' n) (ht : zAt TT kk (ci, nf)) (hci : decide (ci < 20) = true) (hcl : (vwCl[ci]?).map (fun q => q.1) = some M'.1.cls) (hn : As.length = n) (hw : Nat.ble (st.map zcat).sum 8 = true) (hs : As.reverse ++ zA kk :: st = stk) (hdd : 1 ≤ r.1)
    {Q1 : Option zV → zT → zH → Prop} (hM : zMet (r.1 - 1) 0 0 M' (zA kk :: As) TT h Q1) (k : ∀ rv T' h', Q1 rv T' h' → zS M r (pc + 3) ls (rv.toList ++ st) T' h' Q) : zS M r pc ls stk TT h Q := by
  rw [← hs]
  rw [Bool.and_eq_true] at hr
  exact zS_invokevirtual hd hl1 hL ht (of_decide_eq_true hci) hcl hn (Nat.le_of_ble_eq_true hw) (by omega) hM ⟨Nat.le_of_ble_eq_true hr.1, Nat.le_of_ble_eq_true hr.2⟩ (fun rv T' h' q _ => k rv T' h' q)
theorem zvMIr {P : Int → zH → Prop} (hr : (Nat.ble r.2.1 r.2.2.2.1 && Nat.ble r.2.2.1 r.2.2.2.2) = true) (hd : decode M.2.1 pc = .ok (.invokevirtual ix, 3)) (hl1 : Cond.methodLink M.1.cls ix M'.1 ∈ lwg) (hL : zLv M' n) (ht : zAt TT kk (ci, nf)) (hci : decide (ci < 20) = true) (hcl : (vwCl[ci]?).map (fun q => q.1) = some M'.1.cls) (hn : As.length = n) (hw : Nat.ble (st.map zcat).sum 8 = true) (hs : As.reverse ++ zA kk :: st = stk) (hdd : 1 ≤ r.1)
    (hM : zMI (r.1 - 1) M' (zA kk :: As) h P) (k : ∀ x h', P x h' → zS M r (pc + 3) ls (zI x :: st) TT h' Q) : zS M r pc ls stk TT h Q :=
  zS_vr hr hd hl1 hL ht hci hcl hn hw hs hdd hM (fun rv T' h' q => by obtain ⟨x, rfl, rfl, hp⟩ := q; exact k x h' hp)
theorem zvMJr {P : Int → zH → Prop} (hr : (Nat.ble r.2.1 r.2.2.2.1 && Nat.ble r.2.2.1 r.2.2.2.2) = true) (hd : decode M.2.1 pc = .ok (.invokevirtual ix, 3)) (hl1 : Cond.methodLink M.1.cls ix M'.1 ∈ lwg) (hL : zLv M' n) (ht : zAt TT kk (ci, nf)) (hci : decide (ci < 20) = true) (hcl : (vwCl[ci]?).map (fun q => q.1) = some M'.1.cls) (hn : As.length = n) (hw : Nat.ble (st.map zcat).sum 8 = true) (hs : As.reverse ++ zA kk :: st = stk) (hdd : 1 ≤ r.1)
    (hM : zMJ (r.1 - 1) M' (zA kk :: As) h P) (k : ∀ x h', P x h' → zS M r (pc + 3) ls (zJ x :: st) TT h' Q) : zS M r pc ls stk TT h Q :=
  zS_vr hr hd hl1 hL ht hci hcl hn hw hs hdd hM (fun rv T' h' q => by obtain ⟨x, rfl, rfl, hp⟩ := q; exact k x h' hp)
theorem zvIr (hr : (Nat.ble r.2.1 r.2.2.2.1 && Nat.ble r.2.2.1 r.2.2.2.2) = true) (hd : decode M.2.1 pc = .ok (.invokevirtual ix, 3)) (hl1 : Cond.methodLink M.1.cls ix M'.1 ∈ lwg) (hL : zLv M' n) (ht : zAt TT kk (ci, nf)) (hci : decide (ci < 20) = true) (hcl : (vwCl[ci]?).map (fun q => q.1) = some M'.1.cls) (hn : As.length = n) (hw : Nat.ble (st.map zcat).sum 8 = true) (hs : As.reverse ++ zA kk :: st = stk) (hdd : 1 ≤ r.1)
    (hM : zPI (r.1 - 1) M' (zA kk :: As) h x) (k : zS M r (pc + 3) ls (zI x :: st) TT h Q) : zS M r pc ls stk TT h Q :=
  zS_vr hr hd hl1 hL ht hci hcl hn hw hs hdd hM (fun rv T' h' q => by obtain ⟨rfl, rfl, rfl⟩ := q; exact k)
theorem zS_scr {T : zT} {j v : Int} {xs : Int → Int} {N : Int} (hd : decode M.2.1 pc = .ok (.iaload, 1)) (R : SC h xs N) (h0 : 0 ≤ j) (h1 : j < N) (hv : xs j = v) (k : zS M r (pc + 1) ls (zI v :: st) T h Q) : zS M r pc ls (zI j :: (6, 0) :: st) T h Q := by
  refine zS_script hd h0 (by rw [R.1.1]; exact h1) ?_
  rw [(R.2 j h0 h1).1, hv]; exact k
theorem zCmp_self (a : Int) : zCmp a a = 0 := by unfold zCmp; rw [if_neg (by omega), if_pos rfl]
end Room

/-! DAYS FROM THE LAST ON BACK: pure -/
def dnN {α : Type} (f : Int → α → α) (hi : Int) (a : α) : Nat → α
  | 0 => a
  | n + 1 => f (hi - 1 - n) (dnN f hi a n)
def dnI {α : Type} (f : Int → α → α) (hi : Int) (a : α) (k : Int) : α := dnN f hi a (hi - k).toNat
theorem dnI_0 {α : Type} (f : Int → α → α) (hi : Int) (a : α) {k : Int} (h : hi ≤ k) : dnI f hi a k = a := by
  unfold dnI
  rw [show (hi - k).toNat = 0 by omega]
  rfl
theorem dnI_s {α : Type} (f : Int → α → α) (hi : Int) (a : α) {k : Int} (h : k < hi) : dnI f hi a k = f k (dnI f hi a (k + 1)) := by
  unfold dnI
  rw [show (hi - k).toNat = (hi - (k + 1)).toNat + 1 by omega]
  show f (hi - 1 - ((hi - (k + 1)).toNat : Int)) _ = _
  rw [show hi - 1 - ((hi - (k + 1)).toNat : Int) = k by omega]
theorem dn_ind {P : Int → Prop} {hi : Int} (h0 : P hi) (hs : ∀ k, k < hi → P (k + 1) → P k) : ∀ k, k ≤ hi → P k := by
  have key : ∀ n : Nat, P (hi - n) := by
    intro n
    induction n with
    | zero => rw [show hi - ((0 : Nat) : Int) = hi by omega]; exact h0
    | succ n ih => exact hs _ (by omega) (by rw [show hi - ((n + 1 : Nat) : Int) + 1 = hi - n by omega]; exact ih)
  intro k hk
  have := key (hi - k).toNat
  rw [show hi - ((hi - k).toNat : Int) = k by omega] at this
  exact this
def lowI (p : Pb) (q : Int → Int) (k : Int) : Int := dnI (fun d m => min m (cashP p q d)) (pDays p) 2147483647 k
def lacksP (p : Pb) (q : Int → Int) (b d : Int) : Int := pFl p + goesP p q b d - lowI p q d
def mst (m l : Int) : Int := if 0 < l then (if m = 0 then l else min m l) else m
def msI (p : Pb) (q : Int → Int) (b m k : Int) : Int := dnI (fun d m => if pCl p d then m else mst m (lacksP p q b d)) (pDays p) m k
theorem lowI_s {p : Pb} {q : Int → Int} {k : Int} (h : k < pDays p) : lowI p q k = min (lowI p q (k + 1)) (cashP p q k) := dnI_s _ _ _ h
theorem lowI_0 {p : Pb} {q : Int → Int} : lowI p q (pDays p) = 2147483647 := dnI_0 _ _ _ (by omega)
theorem msI_s {p : Pb} {q : Int → Int} {b m k : Int} (h : k < pDays p) : msI p q b m k = if pCl p k then msI p q b m (k + 1) else mst (msI p q b m (k + 1)) (lacksP p q b k) := dnI_s _ _ _ h
theorem msI_0 {p : Pb} {q : Int → Int} {b m : Int} : msI p q b m (pDays p) = m := dnI_0 _ _ _ (by omega)
theorem lowI_le {p : Pb} {q : Int → Int} {k : Int} (hk : k ≤ pDays p) : ∀ e, k ≤ e → e < pDays p → lowI p q k ≤ cashP p q e :=
  dn_ind (P := fun k => ∀ e, k ≤ e → e < pDays p → lowI p q k ≤ cashP p q e) (fun e a b => by omega) (fun k hk ih e a b => by
    rw [lowI_s hk]
    by_cases z : e = k
    · subst z; omega
    · have := ih e (by omega) b; omega) k hk
theorem lowI_glb {p : Pb} {q : Int → Int} {k x : Int} (hk : k ≤ pDays p) (hx : x ≤ 2147483647) : (∀ e, k ≤ e → e < pDays p → x ≤ cashP p q e) → x ≤ lowI p q k :=
  dn_ind (P := fun k => (∀ e, k ≤ e → e < pDays p → x ≤ cashP p q e) → x ≤ lowI p q k) (fun _ => by rw [lowI_0]; exact hx) (fun k hk ih h => by
    rw [lowI_s hk]
    have a := ih (fun e a b => h e (by omega) b)
    have b := h k (by omega) hk
    omega) k hk
theorem lowI_rng {p : Pb} (V : PV p) (q : Int → Int) {k : Int} (h0 : 0 ≤ k) (hk : k < pDays p) : -200000 ≤ lowI p q k ∧ lowI p q k ≤ 30000 := by
  have a := lowI_le (p := p) (q := q) (show k ≤ pDays p by omega) k (by omega) hk
  have b := cashB V q h0 hk
  have c := lowI_glb (p := p) (q := q) (k := k) (x := -200000) (by omega) (by omega) (fun e e0 e1 => (cashB V q (by omega) e1).1)
  omega
theorem canP_iff {p : Pb} (V : PV p) {q : Int → Int} {b d : Int} (b0 : 0 ≤ b) (b1 : b < pNb p) (h0 : 0 ≤ d) (h1 : d < pDays p) : canP p q b d ↔ pCl p d = false ∧ lacksP p q b d ≤ 0 := by
  have dy := V.days
  have g := goesB V q b0 b1 (show d ≤ 7 by omega)
  have f := V.fl
  unfold canP lacksP
  constructor
  · rintro ⟨h2, h3⟩
    refine ⟨h2, ?_⟩
    have := lowI_glb (p := p) (q := q) (k := d) (x := pFl p + goesP p q b d) (by omega) (by omega) (fun e e0 e1 => by have := h3 e e0 e1; omega)
    omega
  · rintro ⟨h2, h3⟩
    refine ⟨h2, fun e e0 e1 => ?_⟩
    have := lowI_le (p := p) (q := q) (show d ≤ pDays p by omega) e e0 e1
    omega
theorem lacksB {p : Pb} (V : PV p) (q : Int → Int) {b d : Int} (b0 : 0 ≤ b) (b1 : b < pNb p) (h0 : 0 ≤ d) (h1 : d < pDays p) : -30000 ≤ lacksP p q b d ∧ lacksP p q b d ≤ 300000 := by
  have dy := V.days
  have g := goesB V q b0 b1 (show d ≤ 7 by omega)
  have f := V.fl
  have l := lowI_rng V q h0 h1
  unfold lacksP
  omega
theorem msB {p : Pb} (V : PV p) (q : Int → Int) {b m k : Int} (b0 : 0 ≤ b) (b1 : b < pNb p) (hm : 0 ≤ m ∧ m ≤ 300000) (h0 : 0 ≤ k) (h1 : k ≤ pDays p) : 0 ≤ msI p q b m k ∧ msI p q b m k ≤ 300000 :=
  dn_ind (P := fun k => 0 ≤ k → 0 ≤ msI p q b m k ∧ msI p q b m k ≤ 300000) (fun _ => by rw [msI_0]; exact hm) (fun k hk ih h0 => by
    rw [msI_s hk]
    have a := ih (by omega)
    have l := lacksB V q b0 b1 h0 hk
    unfold mst
    split
    · exact a
    · split
      · split <;> omega
      · exact a) k h1 h0
theorem zset_zset (h : zH) (k j v w : Int) : zset (zset h k j v) k j w = zset h k j w := by
  funext a b
  unfold zset
  by_cases q : a = k ∧ b = j
  · rw [if_pos q, if_pos q]
  · rw [if_neg q, if_neg q, if_neg q]
theorem zset_id (h : zH) (k j : Int) : zset h k j (h k j) = h := by
  funext a b
  unfold zset
  by_cases q : a = k ∧ b = j
  · rw [if_pos q, q.1, q.2]
  · rw [if_neg q]
theorem PlC.of {h h' : zH} {p : Pb} {q : Int → Int} (S : PlC h p q) (e : ∀ k j, k = 28 ∨ k = 30 ∨ k = 31 → h' k j = h k j) : PlC h' p q :=
  ⟨fun b b0 b1 => by rw [e 28 b (Or.inl rfl)]; exact S.1 b b0 b1, fun d d0 d1 => by rw [e 30 d (Or.inr (Or.inl rfl)), e 31 d (Or.inr (Or.inr rfl))]; exact S.2 d d0 d1⟩
theorem PlC.set {h : zH} {p : Pb} {q : Int → Int} {k j v : Int} (S : PlC h p q) (h1 : k ≠ 28) (h2 : k ≠ 30) (h3 : k ≠ 31) : PlC (zset h k j v) p q := S.of (fun a b hw => by
  rw [zset_k (by rcases hw with rfl | rfl | rfl; exact fun z => h1 z.symm; exact fun z => h2 z.symm; exact fun z => h3 z.symm)])
/-- best and least as the loop holds them -/
def bst (p : Pb) (x : Int) : Int := if x < pDays p then x else -1
def lst (p : Pb) (q : Int → Int) (b x : Int) : Int := if x < pDays p then goesP p q b x else 2147483647

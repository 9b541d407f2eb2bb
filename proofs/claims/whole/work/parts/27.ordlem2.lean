/-! INSERTION, as the row shows it -/
def ordI (p : Pb) (e : Int) : List Int := ordN p e.toNat
theorem ordI_0 (p : Pb) : ordI p 0 = [] := rfl
theorem ordI_s {p : Pb} {e : Int} (h : 0 ≤ e) : ordI p (e + 1) = if pIn p e then insP p e (ordI p e) else ordI p e := by
  unfold ordI
  rw [show (e + 1).toNat = e.toNat + 1 by omega]
  show (if pIn p (e.toNat : Int) then insP p (e.toNat : Int) (ordN p e.toNat) else ordN p e.toNat) = _
  rw [Int.toNat_of_nonneg h]
theorem insP_len {p : Pb} {b : Int} : ∀ {l : List Int}, (insP p b l).length = l.length + 1
  | [] => rfl
  | a :: l => by
    unfold insP
    split
    · rfl
    · simp [insP_len (l := l)]
theorem ordN_len {p : Pb} : ∀ {n : Nat}, (ordN p n).length ≤ n
  | 0 => Nat.le_refl 0
  | n + 1 => by
    unfold ordN
    have := ordN_len (p := p) (n := n)
    split
    · rw [insP_len]; omega
    · omega
theorem ordI_len {p : Pb} {e : Int} (h : 0 ≤ e) : ((ordI p e).length : Int) ≤ e := by
  have := ordN_len (p := p) (n := e.toNat)
  unfold ordI
  omega
theorem ordI_mem {p : Pb} {e b : Int} (h : 0 ≤ e) : b ∈ ordI p e ↔ (0 ≤ b ∧ b < e ∧ pIn p b = true) := by
  unfold ordI
  rw [ordN_mem, Int.toNat_of_nonneg h]
theorem getD_mem {l : List Int} {i : Nat} (h : i < l.length) : l.getD i 0 ∈ l := by
  rw [List.getD_eq_getElem?_getD, List.getElem?_eq_getElem h]
  exact List.getElem_mem h
theorem ord_ins {h1 : zH} {p : Pb} {e : Int} {l : List Int} {t : Nat} (V : PV p) (hb : bl p e) (hs : l.Pairwise (ltP p)) (hl : ∀ a ∈ l, bl p a) (ht : t ≤ l.length)
    (i1 : ∀ i : Nat, i < t → h1 29 i = l.getD i 0) (i2 : ∀ i : Nat, t ≤ i → i < l.length → h1 29 ((i : Int) + 1) = l.getD i 0) (i3 : ∀ i : Nat, t ≤ i → i < l.length → ahP p e (l.getD i 0) = true) (i4 : t = 0 ∨ ahP p e (l.getD (t - 1) 0) = false) :
    OrdC (zset (zset h1 29 t e) 14 11 (l.length + 1)) (insP p e l) := by
  have hlt : ∀ i, i < t → ahP p e (l.getD i 0) = false := fun i hi => by
    cases c : ahP p e (l.getD i 0) with
    | false => rfl
    | true =>
      have := ah_mono V hb hs hl (show i ≤ t - 1 by omega) (show t - 1 < l.length by omega) c
      rcases i4 with z | z
      · omega
      · rw [this] at z; cases z
  have e1 := ins_take (p := p) (b := e) ht hlt (fun h => i3 t (Nat.le_refl t) h)
  refine ⟨?_, fun i hi => ?_⟩
  · rw [zset_s, insP_len]; omega
  · rw [insP_len] at hi
    rw [zset_k (by decide), e1, List.getD_eq_getElem?_getD]
    by_cases c1 : i < t
    · rw [zset_j (by omega), i1 i c1, List.getElem?_append_left (by rw [List.length_take]; omega), List.getElem?_take_of_lt c1, List.getD_eq_getElem?_getD]
    · rw [List.getElem?_append_right (by rw [List.length_take]; omega), List.length_take, Nat.min_eq_left ht]
      by_cases c2 : i = t
      · subst c2
        rw [zset_s, Nat.sub_self]
        rfl
      · rw [zset_j (by omega)]
        have := i2 (i - 1) (by omega) (by omega)
        rw [show ((i - 1 : Nat) : Int) + 1 = i by omega] at this
        rw [this, show i - t = (i - 1 - t) + 1 by omega, List.getElem?_cons_succ, List.getElem?_drop, show t + (i - 1 - t) = i - 1 by omega, List.getD_eq_getElem?_getD]

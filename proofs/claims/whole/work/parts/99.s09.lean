theorem zu1 {w : Cond} (i : Nat) (h : tables_1_1[i]? = some w) : w ∈ lw_tbl := List.mem_append_right _ (show w ∈ tables_1 from List.mem_append_left _ (List.mem_of_getElem? h))
theorem zu2 {w : Cond} (i : Nat) (h : tables_1_2[i]? = some w) : w ∈ lw_tbl := List.mem_append_right _ (show w ∈ tables_1 from List.mem_append_right _ (List.mem_append_left _ (List.mem_of_getElem? h)))
theorem zu3 {w : Cond} (i : Nat) (h : tables_1_3[i]? = some w) : w ∈ lw_tbl := List.mem_append_right _ (show w ∈ tables_1 from List.mem_append_right _ (List.mem_append_right _ (List.mem_append_left _ (List.mem_of_getElem? h))))
theorem zu4 {w : Cond} (i : Nat) (h : tables_1_4[i]? = some w) : w ∈ lw_tbl := List.mem_append_right _ (show w ∈ tables_1 from List.mem_append_right _ (List.mem_append_right _ (List.mem_append_right _ (List.mem_append_left _ (List.mem_of_getElem? h)))))
theorem zu5 {w : Cond} (i : Nat) (h : tables_1_5[i]? = some w) : w ∈ lw_tbl := List.mem_append_right _ (show w ∈ tables_1 from List.mem_append_right _ (List.mem_append_right _ (List.mem_append_right _ (List.mem_append_right _ (List.mem_append_left _ (List.mem_of_getElem? h))))))
theorem zu6 {w : Cond} (i : Nat) (h : tables_1_6[i]? = some w) : w ∈ lw_tbl := List.mem_append_right _ (show w ∈ tables_1 from List.mem_append_right _ (List.mem_append_right _ (List.mem_append_right _ (List.mem_append_right _ (List.mem_append_right _ (List.mem_append_left _ (List.mem_of_getElem? h)))))))
theorem zu7 {w : Cond} (i : Nat) (h : tables_1_7[i]? = some w) : w ∈ lw_tbl := List.mem_append_right _ (show w ∈ tables_1 from List.mem_append_right _ (List.mem_append_right _ (List.mem_append_right _ (List.mem_append_right _ (List.mem_append_right _ (List.mem_append_right _ (List.mem_append_left _ (List.mem_of_getElem? h))))))))
theorem zu8 {w : Cond} (i : Nat) (h : tables_1_8[i]? = some w) : w ∈ lw_tbl := List.mem_append_right _ (show w ∈ tables_1 from List.mem_append_right _ (List.mem_append_right _ (List.mem_append_right _ (List.mem_append_right _ (List.mem_append_right _ (List.mem_append_right _ (List.mem_append_right _ (List.mem_append_left _ (List.mem_of_getElem? h)))))))))
theorem zu9 {w : Cond} (i : Nat) (h : tables_1_9[i]? = some w) : w ∈ lw_tbl := List.mem_append_right _ (show w ∈ tables_1 from List.mem_append_right _ (List.mem_append_right _ (List.mem_append_right _ (List.mem_append_right _ (List.mem_append_right _ (List.mem_append_right _ (List.mem_append_right _ (List.mem_append_right _ (List.mem_of_getElem? h)))))))))
theorem zand {a b : Cond} {A : Array Value} {s : State} (h : (Cond.and a b).before A s = true) : a.before A s = true ∧ b.before A s = true := by
  rw [Cond.before_and, Bool.and_eq_true] at h
  exact h
def ztm (i : Nat) : Term := .string "PaymentRuns$Tape" ([76, 82, 90, 94, 64, 100, 104, 50, 115, 59, 123, 125, 127, 129, 131, 133, 135, 150].getD i 0)
theorem sv_ex {A : Array Value} {s : State} (hN : narrow_1.before A s = true) : ∀ i : Nat, i < 18 → (Cond.exactly (ztm i) "java/lang/String").before A s = true := fun i hi => match i, hi with
  | 0, _ => (zand (zand (zand (zand (zand (zand (zand (zand hN).1).1).1).1).2).2).2).1
  | 1, _ => (zand (zand (zand (zand (zand (zand (zand (zand hN).1).1).1).2).1).2).1).2
  | 2, _ => (zand (zand (zand (zand (zand (zand (zand (zand hN).1).1).1).2).2).2).1).1
  | 3, _ => (zand (zand (zand (zand (zand (zand (zand (zand hN).1).1).2).1).1).2).1).1
  | 4, _ => (zand (zand (zand (zand (zand (zand (zand (zand hN).1).1).2).1).2).2).1).2
  | 5, _ => (zand (zand (zand (zand (zand (zand (zand (zand (zand hN).1).1).2).2).1).2).2).2).1
  | 6, _ => (zand (zand (zand (zand (zand (zand (zand (zand hN).1).2).1).1).1).1).2).1
  | 7, _ => (zand (zand (zand (zand (zand (zand (zand (zand hN).1).2).1).1).2).2).1).2
  | 8, _ => (zand (zand (zand (zand (zand (zand (zand (zand hN).1).2).1).2).2).2).1).2
  | 9, _ => (zand (zand (zand (zand (zand (zand (zand (zand (zand hN).1).2).2).1).2).1).2).2).1
  | 10, _ => (zand (zand (zand (zand (zand (zand (zand (zand hN).1).2).2).2).2).1).1).1
  | 11, _ => (zand (zand (zand (zand (zand (zand (zand (zand hN).2).1).1).1).1).2).2).1
  | 12, _ => (zand (zand (zand (zand (zand (zand (zand (zand hN).2).1).1).2).1).2).1).2
  | 13, _ => (zand (zand (zand (zand (zand (zand (zand (zand hN).2).1).2).1).1).2).1).2
  | 14, _ => (zand (zand (zand (zand (zand (zand (zand (zand hN).2).1).2).2).1).2).1).1
  | 15, _ => (zand (zand (zand (zand (zand (zand (zand (zand hN).2).2).1).1).1).2).2).1
  | 16, _ => (zand (zand (zand (zand (zand (zand (zand (zand hN).2).2).1).2).2).1).1).2
  | 17, _ => (zand (zand (zand (zand (zand (zand (zand (zand hN).2).2).2).1).2).2).1).2
  | i + 18, h => absurd h (by omega)
theorem sv_co {A : Array Value} {s : State} (hN : narrow_1.before A s = true) : ∀ i : Nat, i < 18 → (Cond.eq (.field (ztm i) "java/lang/String" "coder" "B") (.int 0)).before A s = true := fun i hi => match i, hi with
  | 0, _ => (zand (zand (zand (zand (zand (zand (zand (zand (zand hN).1).1).1).1).2).2).2).2).1
  | 1, _ => (zand (zand (zand (zand (zand (zand (zand (zand hN).1).1).1).2).1).2).2).1
  | 2, _ => (zand (zand (zand (zand (zand (zand (zand (zand hN).1).1).1).2).2).2).1).2
  | 3, _ => (zand (zand (zand (zand (zand (zand (zand (zand hN).1).1).2).1).1).2).1).2
  | 4, _ => (zand (zand (zand (zand (zand (zand (zand (zand hN).1).1).2).1).2).2).2).1
  | 5, _ => (zand (zand (zand (zand (zand (zand (zand (zand (zand hN).1).1).2).2).1).2).2).2).2
  | 6, _ => (zand (zand (zand (zand (zand (zand (zand (zand hN).1).2).1).1).1).1).2).2
  | 7, _ => (zand (zand (zand (zand (zand (zand (zand (zand hN).1).2).1).1).2).2).2).1
  | 8, _ => (zand (zand (zand (zand (zand (zand (zand (zand hN).1).2).1).2).2).2).2).1
  | 9, _ => (zand (zand (zand (zand (zand (zand (zand (zand (zand hN).1).2).2).1).2).1).2).2).2
  | 10, _ => (zand (zand (zand (zand (zand (zand (zand (zand hN).1).2).2).2).2).1).1).2
  | 11, _ => (zand (zand (zand (zand (zand (zand (zand (zand (zand hN).2).1).1).1).1).2).2).2).1
  | 12, _ => (zand (zand (zand (zand (zand (zand (zand (zand hN).2).1).1).2).1).2).2).1
  | 13, _ => (zand (zand (zand (zand (zand (zand (zand (zand hN).2).1).2).1).1).2).2).1
  | 14, _ => (zand (zand (zand (zand (zand (zand (zand (zand hN).2).1).2).2).1).2).1).2
  | 15, _ => (zand (zand (zand (zand (zand (zand (zand (zand (zand hN).2).2).1).1).1).2).2).2).1
  | 16, _ => (zand (zand (zand (zand (zand (zand (zand (zand hN).2).2).1).2).2).1).2).1
  | 17, _ => (zand (zand (zand (zand (zand (zand (zand (zand hN).2).2).2).1).2).2).2).1
  | i + 18, h => absurd h (by omega)
theorem sv_ar {A : Array Value} {s : State} (hN : narrow_1.before A s = true) : ∀ i : Nat, i < 18 → (Cond.arrayOf (.field (ztm i) "java/lang/String" "value" "[B") .byte).before A s = true := fun i hi => match i, hi with
  | 0, _ => (zand (zand (zand (zand (zand (zand (zand (zand (zand hN).1).1).1).1).2).2).2).2).2
  | 1, _ => (zand (zand (zand (zand (zand (zand (zand (zand (zand hN).1).1).1).2).1).2).2).2).1
  | 2, _ => (zand (zand (zand (zand (zand (zand (zand (zand hN).1).1).1).2).2).2).2).1
  | 3, _ => (zand (zand (zand (zand (zand (zand (zand (zand hN).1).1).2).1).1).2).2).1
  | 4, _ => (zand (zand (zand (zand (zand (zand (zand (zand (zand hN).1).1).2).1).2).2).2).2).1
  | 5, _ => (zand (zand (zand (zand (zand (zand (zand (zand hN).1).1).2).2).2).1).1).1
  | 6, _ => (zand (zand (zand (zand (zand (zand (zand (zand hN).1).2).1).1).1).2).1).1
  | 7, _ => (zand (zand (zand (zand (zand (zand (zand (zand (zand hN).1).2).1).1).2).2).2).2).1
  | 8, _ => (zand (zand (zand (zand (zand (zand (zand (zand (zand hN).1).2).1).2).2).2).2).2).1
  | 9, _ => (zand (zand (zand (zand (zand (zand (zand (zand hN).1).2).2).1).2).2).1).1
  | 10, _ => (zand (zand (zand (zand (zand (zand (zand (zand hN).1).2).2).2).2).1).2).1
  | 11, _ => (zand (zand (zand (zand (zand (zand (zand (zand (zand hN).2).1).1).1).1).2).2).2).2
  | 12, _ => (zand (zand (zand (zand (zand (zand (zand (zand (zand hN).2).1).1).2).1).2).2).2).1
  | 13, _ => (zand (zand (zand (zand (zand (zand (zand (zand (zand hN).2).1).2).1).1).2).2).2).1
  | 14, _ => (zand (zand (zand (zand (zand (zand (zand (zand hN).2).1).2).2).1).2).2).1
  | 15, _ => (zand (zand (zand (zand (zand (zand (zand (zand (zand hN).2).2).1).1).1).2).2).2).2
  | 16, _ => (zand (zand (zand (zand (zand (zand (zand (zand (zand hN).2).2).1).2).2).1).2).2).1
  | 17, _ => (zand (zand (zand (zand (zand (zand (zand (zand (zand hN).2).2).2).1).2).2).2).2).1
  | i + 18, h => absurd h (by omega)
theorem sv_le {A : Array Value} {s : State} (hN : narrow_1.before A s = true) : ∀ i : Nat, i < 18 → (Cond.eq (.length (.field (ztm i) "java/lang/String" "value" "[B")) (.int (Int32.ofNat (zln.getD i 0)))).before A s = true := fun i hi => match i, hi with
  | 0, _ => (zand (zand (zand (zand (zand (zand (zand (zand hN).1).1).1).2).1).1).1).1
  | 1, _ => (zand (zand (zand (zand (zand (zand (zand (zand (zand hN).1).1).1).2).1).2).2).2).2
  | 2, _ => (zand (zand (zand (zand (zand (zand (zand (zand (zand hN).1).1).1).2).2).2).2).2).1
  | 3, _ => (zand (zand (zand (zand (zand (zand (zand (zand (zand hN).1).1).2).1).1).2).2).2).1
  | 4, _ => (zand (zand (zand (zand (zand (zand (zand (zand (zand hN).1).1).2).1).2).2).2).2).2
  | 5, _ => (zand (zand (zand (zand (zand (zand (zand (zand hN).1).1).2).2).2).1).1).2
  | 6, _ => (zand (zand (zand (zand (zand (zand (zand (zand hN).1).2).1).1).1).2).1).2
  | 7, _ => (zand (zand (zand (zand (zand (zand (zand (zand (zand hN).1).2).1).1).2).2).2).2).2
  | 8, _ => (zand (zand (zand (zand (zand (zand (zand (zand (zand hN).1).2).1).2).2).2).2).2).2
  | 9, _ => (zand (zand (zand (zand (zand (zand (zand (zand hN).1).2).2).1).2).2).1).2
  | 10, _ => (zand (zand (zand (zand (zand (zand (zand (zand (zand hN).1).2).2).2).2).1).2).2).1
  | 11, _ => (zand (zand (zand (zand (zand (zand (zand (zand hN).2).1).1).1).2).1).1).1
  | 12, _ => (zand (zand (zand (zand (zand (zand (zand (zand (zand hN).2).1).1).2).1).2).2).2).2
  | 13, _ => (zand (zand (zand (zand (zand (zand (zand (zand (zand hN).2).1).2).1).1).2).2).2).2
  | 14, _ => (zand (zand (zand (zand (zand (zand (zand (zand (zand hN).2).1).2).2).1).2).2).2).1
  | 15, _ => (zand (zand (zand (zand (zand (zand (zand (zand hN).2).2).1).1).2).1).1).1
  | 16, _ => (zand (zand (zand (zand (zand (zand (zand (zand (zand hN).2).2).1).2).2).1).2).2).2
  | 17, _ => (zand (zand (zand (zand (zand (zand (zand (zand (zand hN).2).2).2).1).2).2).2).2).2
  | i + 18, h => absurd h (by omega)
theorem sv_el0 {A : Array Value} {s : State} (hN : narrow_1.before A s = true) : ∀ j : Nat, j < 4 → (Cond.eq (.elem (.field (ztm 0) "java/lang/String" "value" "[B") (.int (Int32.ofNat j))) (.int ((zby.getD 0 []).getD j 0))).before A s = true := fun j hj => match j, hj with
  | 0, _ => (zand (zand (zand (zand (zand (zand (zand (zand hN).1).1).1).2).1).1).1).2
  | 1, _ => (zand (zand (zand (zand (zand (zand (zand (zand hN).1).1).1).2).1).1).2).1
  | 2, _ => (zand (zand (zand (zand (zand (zand (zand (zand hN).1).1).1).2).1).1).2).2
  | 3, _ => (zand (zand (zand (zand (zand (zand (zand (zand hN).1).1).1).2).1).2).1).1
  | j + 4, h => absurd h (by omega)
theorem sv_el1 {A : Array Value} {s : State} (hN : narrow_1.before A s = true) : ∀ j : Nat, j < 4 → (Cond.eq (.elem (.field (ztm 1) "java/lang/String" "value" "[B") (.int (Int32.ofNat j))) (.int ((zby.getD 1 []).getD j 0))).before A s = true := fun j hj => match j, hj with
  | 0, _ => (zand (zand (zand (zand (zand (zand (zand (zand hN).1).1).1).2).2).1).1).1
  | 1, _ => (zand (zand (zand (zand (zand (zand (zand (zand hN).1).1).1).2).2).1).1).2
  | 2, _ => (zand (zand (zand (zand (zand (zand (zand (zand hN).1).1).1).2).2).1).2).1
  | 3, _ => (zand (zand (zand (zand (zand (zand (zand (zand (zand hN).1).1).1).2).2).1).2).2).1
  | j + 4, h => absurd h (by omega)
theorem sv_el2 {A : Array Value} {s : State} (hN : narrow_1.before A s = true) : ∀ j : Nat, j < 3 → (Cond.eq (.elem (.field (ztm 2) "java/lang/String" "value" "[B") (.int (Int32.ofNat j))) (.int ((zby.getD 2 []).getD j 0))).before A s = true := fun j hj => match j, hj with
  | 0, _ => (zand (zand (zand (zand (zand (zand (zand (zand (zand hN).1).1).1).2).2).2).2).2).2
  | 1, _ => (zand (zand (zand (zand (zand (zand (zand (zand hN).1).1).2).1).1).1).1).1
  | 2, _ => (zand (zand (zand (zand (zand (zand (zand (zand hN).1).1).2).1).1).1).1).2
  | j + 3, h => absurd h (by omega)
theorem sv_el3 {A : Array Value} {s : State} (hN : narrow_1.before A s = true) : ∀ j : Nat, j < 4 → (Cond.eq (.elem (.field (ztm 3) "java/lang/String" "value" "[B") (.int (Int32.ofNat j))) (.int ((zby.getD 3 []).getD j 0))).before A s = true := fun j hj => match j, hj with
  | 0, _ => (zand (zand (zand (zand (zand (zand (zand (zand (zand hN).1).1).2).1).1).2).2).2).2
  | 1, _ => (zand (zand (zand (zand (zand (zand (zand (zand hN).1).1).2).1).2).1).1).1
  | 2, _ => (zand (zand (zand (zand (zand (zand (zand (zand hN).1).1).2).1).2).1).1).2
  | 3, _ => (zand (zand (zand (zand (zand (zand (zand (zand hN).1).1).2).1).2).1).2).1
  | j + 4, h => absurd h (by omega)
theorem sv_el4 {A : Array Value} {s : State} (hN : narrow_1.before A s = true) : ∀ j : Nat, j < 4 → (Cond.eq (.elem (.field (ztm 4) "java/lang/String" "value" "[B") (.int (Int32.ofNat j))) (.int ((zby.getD 4 []).getD j 0))).before A s = true := fun j hj => match j, hj with
  | 0, _ => (zand (zand (zand (zand (zand (zand (zand (zand hN).1).1).2).2).1).1).1).1
  | 1, _ => (zand (zand (zand (zand (zand (zand (zand (zand hN).1).1).2).2).1).1).1).2
  | 2, _ => (zand (zand (zand (zand (zand (zand (zand (zand hN).1).1).2).2).1).1).2).1
  | 3, _ => (zand (zand (zand (zand (zand (zand (zand (zand (zand hN).1).1).2).2).1).1).2).2).1
  | j + 4, h => absurd h (by omega)
theorem sv_el5 {A : Array Value} {s : State} (hN : narrow_1.before A s = true) : ∀ j : Nat, j < 5 → (Cond.eq (.elem (.field (ztm 5) "java/lang/String" "value" "[B") (.int (Int32.ofNat j))) (.int ((zby.getD 5 []).getD j 0))).before A s = true := fun j hj => match j, hj with
  | 0, _ => (zand (zand (zand (zand (zand (zand (zand (zand hN).1).1).2).2).2).1).2).1
  | 1, _ => (zand (zand (zand (zand (zand (zand (zand (zand (zand hN).1).1).2).2).2).1).2).2).1
  | 2, _ => (zand (zand (zand (zand (zand (zand (zand (zand (zand hN).1).1).2).2).2).1).2).2).2
  | 3, _ => (zand (zand (zand (zand (zand (zand (zand (zand hN).1).1).2).2).2).2).1).1
  | 4, _ => (zand (zand (zand (zand (zand (zand (zand (zand hN).1).1).2).2).2).2).1).2
  | j + 5, h => absurd h (by omega)
theorem sv_el6 {A : Array Value} {s : State} (hN : narrow_1.before A s = true) : ∀ j : Nat, j < 3 → (Cond.eq (.elem (.field (ztm 6) "java/lang/String" "value" "[B") (.int (Int32.ofNat j))) (.int ((zby.getD 6 []).getD j 0))).before A s = true := fun j hj => match j, hj with
  | 0, _ => (zand (zand (zand (zand (zand (zand (zand (zand hN).1).2).1).1).1).2).2).1
  | 1, _ => (zand (zand (zand (zand (zand (zand (zand (zand (zand hN).1).2).1).1).1).2).2).2).1
  | 2, _ => (zand (zand (zand (zand (zand (zand (zand (zand (zand hN).1).2).1).1).1).2).2).2).2
  | j + 3, h => absurd h (by omega)
theorem sv_el7 {A : Array Value} {s : State} (hN : narrow_1.before A s = true) : ∀ j : Nat, j < 8 → (Cond.eq (.elem (.field (ztm 7) "java/lang/String" "value" "[B") (.int (Int32.ofNat j))) (.int ((zby.getD 7 []).getD j 0))).before A s = true := fun j hj => match j, hj with
  | 0, _ => (zand (zand (zand (zand (zand (zand (zand (zand hN).1).2).1).2).1).1).1).1
  | 1, _ => (zand (zand (zand (zand (zand (zand (zand (zand hN).1).2).1).2).1).1).1).2
  | 2, _ => (zand (zand (zand (zand (zand (zand (zand (zand hN).1).2).1).2).1).1).2).1
  | 3, _ => (zand (zand (zand (zand (zand (zand (zand (zand hN).1).2).1).2).1).1).2).2
  | 4, _ => (zand (zand (zand (zand (zand (zand (zand (zand hN).1).2).1).2).1).2).1).1
  | 5, _ => (zand (zand (zand (zand (zand (zand (zand (zand hN).1).2).1).2).1).2).1).2
  | 6, _ => (zand (zand (zand (zand (zand (zand (zand (zand hN).1).2).1).2).1).2).2).1
  | 7, _ => (zand (zand (zand (zand (zand (zand (zand (zand (zand hN).1).2).1).2).1).2).2).2).1
  | j + 8, h => absurd h (by omega)
theorem sv_el8 {A : Array Value} {s : State} (hN : narrow_1.before A s = true) : ∀ j : Nat, j < 4 → (Cond.eq (.elem (.field (ztm 8) "java/lang/String" "value" "[B") (.int (Int32.ofNat j))) (.int ((zby.getD 8 []).getD j 0))).before A s = true := fun j hj => match j, hj with
  | 0, _ => (zand (zand (zand (zand (zand (zand (zand (zand hN).1).2).2).1).1).1).1).1
  | 1, _ => (zand (zand (zand (zand (zand (zand (zand (zand hN).1).2).2).1).1).1).1).2
  | 2, _ => (zand (zand (zand (zand (zand (zand (zand (zand hN).1).2).2).1).1).1).2).1
  | 3, _ => (zand (zand (zand (zand (zand (zand (zand (zand hN).1).2).2).1).1).1).2).2
  | j + 4, h => absurd h (by omega)
theorem sv_el9 {A : Array Value} {s : State} (hN : narrow_1.before A s = true) : ∀ j : Nat, j < 4 → (Cond.eq (.elem (.field (ztm 9) "java/lang/String" "value" "[B") (.int (Int32.ofNat j))) (.int ((zby.getD 9 []).getD j 0))).before A s = true := fun j hj => match j, hj with
  | 0, _ => (zand (zand (zand (zand (zand (zand (zand (zand hN).1).2).2).1).2).2).2).1
  | 1, _ => (zand (zand (zand (zand (zand (zand (zand (zand (zand hN).1).2).2).1).2).2).2).2).1
  | 2, _ => (zand (zand (zand (zand (zand (zand (zand (zand (zand hN).1).2).2).1).2).2).2).2).2
  | 3, _ => (zand (zand (zand (zand (zand (zand (zand (zand hN).1).2).2).2).1).1).1).1
  | j + 4, h => absurd h (by omega)
theorem sv_el10 {A : Array Value} {s : State} (hN : narrow_1.before A s = true) : ∀ j : Nat, j < 2 → (Cond.eq (.elem (.field (ztm 10) "java/lang/String" "value" "[B") (.int (Int32.ofNat j))) (.int ((zby.getD 10 []).getD j 0))).before A s = true := fun j hj => match j, hj with
  | 0, _ => (zand (zand (zand (zand (zand (zand (zand (zand (zand hN).1).2).2).2).2).1).2).2).2
  | 1, _ => (zand (zand (zand (zand (zand (zand (zand (zand hN).1).2).2).2).2).2).1).1
  | j + 2, h => absurd h (by omega)
theorem sv_el11 {A : Array Value} {s : State} (hN : narrow_1.before A s = true) : ∀ j : Nat, j < 3 → (Cond.eq (.elem (.field (ztm 11) "java/lang/String" "value" "[B") (.int (Int32.ofNat j))) (.int ((zby.getD 11 []).getD j 0))).before A s = true := fun j hj => match j, hj with
  | 0, _ => (zand (zand (zand (zand (zand (zand (zand (zand hN).2).1).1).1).2).1).1).2
  | 1, _ => (zand (zand (zand (zand (zand (zand (zand (zand hN).2).1).1).1).2).1).2).1
  | 2, _ => (zand (zand (zand (zand (zand (zand (zand (zand (zand hN).2).1).1).1).2).1).2).2).1
  | j + 3, h => absurd h (by omega)
theorem sv_el12 {A : Array Value} {s : State} (hN : narrow_1.before A s = true) : ∀ j : Nat, j < 3 → (Cond.eq (.elem (.field (ztm 12) "java/lang/String" "value" "[B") (.int (Int32.ofNat j))) (.int ((zby.getD 12 []).getD j 0))).before A s = true := fun j hj => match j, hj with
  | 0, _ => (zand (zand (zand (zand (zand (zand (zand (zand hN).2).1).1).2).2).1).1).1
  | 1, _ => (zand (zand (zand (zand (zand (zand (zand (zand hN).2).1).1).2).2).1).1).2
  | 2, _ => (zand (zand (zand (zand (zand (zand (zand (zand hN).2).1).1).2).2).1).2).1
  | j + 3, h => absurd h (by omega)
theorem sv_el13 {A : Array Value} {s : State} (hN : narrow_1.before A s = true) : ∀ j : Nat, j < 2 → (Cond.eq (.elem (.field (ztm 13) "java/lang/String" "value" "[B") (.int (Int32.ofNat j))) (.int ((zby.getD 13 []).getD j 0))).before A s = true := fun j hj => match j, hj with
  | 0, _ => (zand (zand (zand (zand (zand (zand (zand (zand hN).2).1).2).1).2).1).1).1
  | 1, _ => (zand (zand (zand (zand (zand (zand (zand (zand hN).2).1).2).1).2).1).1).2
  | j + 2, h => absurd h (by omega)
theorem sv_el14 {A : Array Value} {s : State} (hN : narrow_1.before A s = true) : ∀ j : Nat, j < 3 → (Cond.eq (.elem (.field (ztm 14) "java/lang/String" "value" "[B") (.int (Int32.ofNat j))) (.int ((zby.getD 14 []).getD j 0))).before A s = true := fun j hj => match j, hj with
  | 0, _ => (zand (zand (zand (zand (zand (zand (zand (zand (zand hN).2).1).2).2).1).2).2).2).2
  | 1, _ => (zand (zand (zand (zand (zand (zand (zand (zand hN).2).1).2).2).2).1).1).1
  | 2, _ => (zand (zand (zand (zand (zand (zand (zand (zand hN).2).1).2).2).2).1).1).2
  | j + 3, h => absurd h (by omega)
theorem sv_el15 {A : Array Value} {s : State} (hN : narrow_1.before A s = true) : ∀ j : Nat, j < 4 → (Cond.eq (.elem (.field (ztm 15) "java/lang/String" "value" "[B") (.int (Int32.ofNat j))) (.int ((zby.getD 15 []).getD j 0))).before A s = true := fun j hj => match j, hj with
  | 0, _ => (zand (zand (zand (zand (zand (zand (zand (zand hN).2).2).1).1).2).1).1).2
  | 1, _ => (zand (zand (zand (zand (zand (zand (zand (zand hN).2).2).1).1).2).1).2).1
  | 2, _ => (zand (zand (zand (zand (zand (zand (zand (zand (zand hN).2).2).1).1).2).1).2).2).1
  | 3, _ => (zand (zand (zand (zand (zand (zand (zand (zand (zand hN).2).2).1).1).2).1).2).2).2
  | j + 4, h => absurd h (by omega)
theorem sv_el16 {A : Array Value} {s : State} (hN : narrow_1.before A s = true) : ∀ j : Nat, j < 4 → (Cond.eq (.elem (.field (ztm 16) "java/lang/String" "value" "[B") (.int (Int32.ofNat j))) (.int ((zby.getD 16 []).getD j 0))).before A s = true := fun j hj => match j, hj with
  | 0, _ => (zand (zand (zand (zand (zand (zand (zand (zand hN).2).2).1).2).2).2).1).1
  | 1, _ => (zand (zand (zand (zand (zand (zand (zand (zand hN).2).2).1).2).2).2).1).2
  | 2, _ => (zand (zand (zand (zand (zand (zand (zand (zand hN).2).2).1).2).2).2).2).1
  | 3, _ => (zand (zand (zand (zand (zand (zand (zand (zand (zand hN).2).2).1).2).2).2).2).2).1
  | j + 4, h => absurd h (by omega)
theorem sv_el17 {A : Array Value} {s : State} (hN : narrow_1.before A s = true) : ∀ j : Nat, j < 2 → (Cond.eq (.elem (.field (ztm 17) "java/lang/String" "value" "[B") (.int (Int32.ofNat j))) (.int ((zby.getD 17 []).getD j 0))).before A s = true := fun j hj => match j, hj with
  | 0, _ => (zand (zand (zand (zand (zand (zand (zand (zand hN).2).2).2).2).1).1).1).1
  | 1, _ => (zand (zand (zand (zand (zand (zand (zand (zand hN).2).2).2).2).1).1).1).2
  | j + 2, h => absurd h (by omega)
theorem sv_el {A : Array Value} {s : State} (hN : narrow_1.before A s = true) : ∀ i : Nat, i < 18 → ∀ j : Nat, j < zln.getD i 0 → (Cond.eq (.elem (.field (ztm i) "java/lang/String" "value" "[B") (.int (Int32.ofNat j))) (.int ((zby.getD i []).getD j 0))).before A s = true := fun i hi => match i, hi with
  | 0, _ => sv_el0 hN
  | 1, _ => sv_el1 hN
  | 2, _ => sv_el2 hN
  | 3, _ => sv_el3 hN
  | 4, _ => sv_el4 hN
  | 5, _ => sv_el5 hN
  | 6, _ => sv_el6 hN
  | 7, _ => sv_el7 hN
  | 8, _ => sv_el8 hN
  | 9, _ => sv_el9 hN
  | 10, _ => sv_el10 hN
  | 11, _ => sv_el11 hN
  | 12, _ => sv_el12 hN
  | 13, _ => sv_el13 hN
  | 14, _ => sv_el14 hN
  | 15, _ => sv_el15 hN
  | 16, _ => sv_el16 hN
  | 17, _ => sv_el17 hN
  | i + 18, h => absurd h (by omega)
theorem sv_ne1 {A : Array Value} {s : State} (hN : narrow_1.before A s = true) : ∀ i : Nat, i < 1 → (Cond.not (Cond.eq (ztm i) (ztm 1))).before A s = true := fun i hi => match i, hi with
  | 0, _ => (zand (zand (zand (zand (zand (zand (zand (zand (zand hN).1).1).1).2).2).1).2).2).2
  | i + 1, h => absurd h (by omega)
theorem sv_ne2 {A : Array Value} {s : State} (hN : narrow_1.before A s = true) : ∀ i : Nat, i < 2 → (Cond.not (Cond.eq (ztm i) (ztm 2))).before A s = true := fun i hi => match i, hi with
  | 0, _ => (zand (zand (zand (zand (zand (zand (zand (zand hN).1).1).2).1).1).1).2).1
  | 1, _ => (zand (zand (zand (zand (zand (zand (zand (zand hN).1).1).2).1).1).1).2).2
  | i + 2, h => absurd h (by omega)
theorem sv_ne3 {A : Array Value} {s : State} (hN : narrow_1.before A s = true) : ∀ i : Nat, i < 3 → (Cond.not (Cond.eq (ztm i) (ztm 3))).before A s = true := fun i hi => match i, hi with
  | 0, _ => (zand (zand (zand (zand (zand (zand (zand (zand (zand hN).1).1).2).1).2).1).2).2).1
  | 1, _ => (zand (zand (zand (zand (zand (zand (zand (zand (zand hN).1).1).2).1).2).1).2).2).2
  | 2, _ => (zand (zand (zand (zand (zand (zand (zand (zand hN).1).1).2).1).2).2).1).1
  | i + 3, h => absurd h (by omega)
theorem sv_ne4 {A : Array Value} {s : State} (hN : narrow_1.before A s = true) : ∀ i : Nat, i < 4 → (Cond.not (Cond.eq (ztm i) (ztm 4))).before A s = true := fun i hi => match i, hi with
  | 0, _ => (zand (zand (zand (zand (zand (zand (zand (zand (zand hN).1).1).2).2).1).1).2).2).2
  | 1, _ => (zand (zand (zand (zand (zand (zand (zand (zand hN).1).1).2).2).1).2).1).1
  | 2, _ => (zand (zand (zand (zand (zand (zand (zand (zand hN).1).1).2).2).1).2).1).2
  | 3, _ => (zand (zand (zand (zand (zand (zand (zand (zand hN).1).1).2).2).1).2).2).1
  | i + 4, h => absurd h (by omega)
theorem sv_ne5 {A : Array Value} {s : State} (hN : narrow_1.before A s = true) : ∀ i : Nat, i < 5 → (Cond.not (Cond.eq (ztm i) (ztm 5))).before A s = true := fun i hi => match i, hi with
  | 0, _ => (zand (zand (zand (zand (zand (zand (zand (zand hN).1).1).2).2).2).2).2).1
  | 1, _ => (zand (zand (zand (zand (zand (zand (zand (zand (zand hN).1).1).2).2).2).2).2).2).1
  | 2, _ => (zand (zand (zand (zand (zand (zand (zand (zand (zand hN).1).1).2).2).2).2).2).2).2
  | 3, _ => (zand (zand (zand (zand (zand (zand (zand (zand hN).1).2).1).1).1).1).1).1
  | 4, _ => (zand (zand (zand (zand (zand (zand (zand (zand hN).1).2).1).1).1).1).1).2
  | i + 5, h => absurd h (by omega)
theorem sv_ne6 {A : Array Value} {s : State} (hN : narrow_1.before A s = true) : ∀ i : Nat, i < 6 → (Cond.not (Cond.eq (ztm i) (ztm 6))).before A s = true := fun i hi => match i, hi with
  | 0, _ => (zand (zand (zand (zand (zand (zand (zand (zand hN).1).2).1).1).2).1).1).1
  | 1, _ => (zand (zand (zand (zand (zand (zand (zand (zand hN).1).2).1).1).2).1).1).2
  | 2, _ => (zand (zand (zand (zand (zand (zand (zand (zand hN).1).2).1).1).2).1).2).1
  | 3, _ => (zand (zand (zand (zand (zand (zand (zand (zand (zand hN).1).2).1).1).2).1).2).2).1
  | 4, _ => (zand (zand (zand (zand (zand (zand (zand (zand (zand hN).1).2).1).1).2).1).2).2).2
  | 5, _ => (zand (zand (zand (zand (zand (zand (zand (zand hN).1).2).1).1).2).2).1).1
  | i + 6, h => absurd h (by omega)
theorem sv_ne7 {A : Array Value} {s : State} (hN : narrow_1.before A s = true) : ∀ i : Nat, i < 7 → (Cond.not (Cond.eq (ztm i) (ztm 7))).before A s = true := fun i hi => match i, hi with
  | 0, _ => (zand (zand (zand (zand (zand (zand (zand (zand (zand hN).1).2).1).2).1).2).2).2).2
  | 1, _ => (zand (zand (zand (zand (zand (zand (zand (zand hN).1).2).1).2).2).1).1).1
  | 2, _ => (zand (zand (zand (zand (zand (zand (zand (zand hN).1).2).1).2).2).1).1).2
  | 3, _ => (zand (zand (zand (zand (zand (zand (zand (zand hN).1).2).1).2).2).1).2).1
  | 4, _ => (zand (zand (zand (zand (zand (zand (zand (zand (zand hN).1).2).1).2).2).1).2).2).1
  | 5, _ => (zand (zand (zand (zand (zand (zand (zand (zand (zand hN).1).2).1).2).2).1).2).2).2
  | 6, _ => (zand (zand (zand (zand (zand (zand (zand (zand hN).1).2).1).2).2).2).1).1
  | i + 7, h => absurd h (by omega)
theorem sv_ne8 {A : Array Value} {s : State} (hN : narrow_1.before A s = true) : ∀ i : Nat, i < 8 → (Cond.not (Cond.eq (ztm i) (ztm 8))).before A s = true := fun i hi => match i, hi with
  | 0, _ => (zand (zand (zand (zand (zand (zand (zand (zand hN).1).2).2).1).1).2).1).1
  | 1, _ => (zand (zand (zand (zand (zand (zand (zand (zand hN).1).2).2).1).1).2).1).2
  | 2, _ => (zand (zand (zand (zand (zand (zand (zand (zand hN).1).2).2).1).1).2).2).1
  | 3, _ => (zand (zand (zand (zand (zand (zand (zand (zand (zand hN).1).2).2).1).1).2).2).2).1
  | 4, _ => (zand (zand (zand (zand (zand (zand (zand (zand (zand hN).1).2).2).1).1).2).2).2).2
  | 5, _ => (zand (zand (zand (zand (zand (zand (zand (zand hN).1).2).2).1).2).1).1).1
  | 6, _ => (zand (zand (zand (zand (zand (zand (zand (zand hN).1).2).2).1).2).1).1).2
  | 7, _ => (zand (zand (zand (zand (zand (zand (zand (zand hN).1).2).2).1).2).1).2).1
  | i + 8, h => absurd h (by omega)
theorem sv_ne9 {A : Array Value} {s : State} (hN : narrow_1.before A s = true) : ∀ i : Nat, i < 9 → (Cond.not (Cond.eq (ztm i) (ztm 9))).before A s = true := fun i hi => match i, hi with
  | 0, _ => (zand (zand (zand (zand (zand (zand (zand (zand hN).1).2).2).2).1).1).1).2
  | 1, _ => (zand (zand (zand (zand (zand (zand (zand (zand hN).1).2).2).2).1).1).2).1
  | 2, _ => (zand (zand (zand (zand (zand (zand (zand (zand (zand hN).1).2).2).2).1).1).2).2).1
  | 3, _ => (zand (zand (zand (zand (zand (zand (zand (zand (zand hN).1).2).2).2).1).1).2).2).2
  | 4, _ => (zand (zand (zand (zand (zand (zand (zand (zand hN).1).2).2).2).1).2).1).1
  | 5, _ => (zand (zand (zand (zand (zand (zand (zand (zand hN).1).2).2).2).1).2).1).2
  | 6, _ => (zand (zand (zand (zand (zand (zand (zand (zand hN).1).2).2).2).1).2).2).1
  | 7, _ => (zand (zand (zand (zand (zand (zand (zand (zand (zand hN).1).2).2).2).1).2).2).2).1
  | 8, _ => (zand (zand (zand (zand (zand (zand (zand (zand (zand hN).1).2).2).2).1).2).2).2).2
  | i + 9, h => absurd h (by omega)
theorem sv_ne10 {A : Array Value} {s : State} (hN : narrow_1.before A s = true) : ∀ i : Nat, i < 10 → (Cond.not (Cond.eq (ztm i) (ztm 10))).before A s = true := fun i hi => match i, hi with
  | 0, _ => (zand (zand (zand (zand (zand (zand (zand (zand hN).1).2).2).2).2).2).1).2
  | 1, _ => (zand (zand (zand (zand (zand (zand (zand (zand hN).1).2).2).2).2).2).2).1
  | 2, _ => (zand (zand (zand (zand (zand (zand (zand (zand (zand hN).1).2).2).2).2).2).2).2).1
  | 3, _ => (zand (zand (zand (zand (zand (zand (zand (zand (zand hN).1).2).2).2).2).2).2).2).2
  | 4, _ => (zand (zand (zand (zand (zand (zand (zand (zand hN).2).1).1).1).1).1).1).1
  | 5, _ => (zand (zand (zand (zand (zand (zand (zand (zand hN).2).1).1).1).1).1).1).2
  | 6, _ => (zand (zand (zand (zand (zand (zand (zand (zand hN).2).1).1).1).1).1).2).1
  | 7, _ => (zand (zand (zand (zand (zand (zand (zand (zand hN).2).1).1).1).1).1).2).2
  | 8, _ => (zand (zand (zand (zand (zand (zand (zand (zand hN).2).1).1).1).1).2).1).1
  | 9, _ => (zand (zand (zand (zand (zand (zand (zand (zand hN).2).1).1).1).1).2).1).2
  | i + 10, h => absurd h (by omega)
theorem sv_ne11 {A : Array Value} {s : State} (hN : narrow_1.before A s = true) : ∀ i : Nat, i < 11 → (Cond.not (Cond.eq (ztm i) (ztm 11))).before A s = true := fun i hi => match i, hi with
  | 0, _ => (zand (zand (zand (zand (zand (zand (zand (zand (zand hN).2).1).1).1).2).1).2).2).2
  | 1, _ => (zand (zand (zand (zand (zand (zand (zand (zand hN).2).1).1).1).2).2).1).1
  | 2, _ => (zand (zand (zand (zand (zand (zand (zand (zand hN).2).1).1).1).2).2).1).2
  | 3, _ => (zand (zand (zand (zand (zand (zand (zand (zand hN).2).1).1).1).2).2).2).1
  | 4, _ => (zand (zand (zand (zand (zand (zand (zand (zand (zand hN).2).1).1).1).2).2).2).2).1
  | 5, _ => (zand (zand (zand (zand (zand (zand (zand (zand (zand hN).2).1).1).1).2).2).2).2).2
  | 6, _ => (zand (zand (zand (zand (zand (zand (zand (zand hN).2).1).1).2).1).1).1).1
  | 7, _ => (zand (zand (zand (zand (zand (zand (zand (zand hN).2).1).1).2).1).1).1).2
  | 8, _ => (zand (zand (zand (zand (zand (zand (zand (zand hN).2).1).1).2).1).1).2).1
  | 9, _ => (zand (zand (zand (zand (zand (zand (zand (zand hN).2).1).1).2).1).1).2).2
  | 10, _ => (zand (zand (zand (zand (zand (zand (zand (zand hN).2).1).1).2).1).2).1).1
  | i + 11, h => absurd h (by omega)
theorem sv_ne12 {A : Array Value} {s : State} (hN : narrow_1.before A s = true) : ∀ i : Nat, i < 12 → (Cond.not (Cond.eq (ztm i) (ztm 12))).before A s = true := fun i hi => match i, hi with
  | 0, _ => (zand (zand (zand (zand (zand (zand (zand (zand (zand hN).2).1).1).2).2).1).2).2).1
  | 1, _ => (zand (zand (zand (zand (zand (zand (zand (zand (zand hN).2).1).1).2).2).1).2).2).2
  | 2, _ => (zand (zand (zand (zand (zand (zand (zand (zand hN).2).1).1).2).2).2).1).1
  | 3, _ => (zand (zand (zand (zand (zand (zand (zand (zand hN).2).1).1).2).2).2).1).2
  | 4, _ => (zand (zand (zand (zand (zand (zand (zand (zand hN).2).1).1).2).2).2).2).1
  | 5, _ => (zand (zand (zand (zand (zand (zand (zand (zand (zand hN).2).1).1).2).2).2).2).2).1
  | 6, _ => (zand (zand (zand (zand (zand (zand (zand (zand (zand hN).2).1).1).2).2).2).2).2).2
  | 7, _ => (zand (zand (zand (zand (zand (zand (zand (zand hN).2).1).2).1).1).1).1).1
  | 8, _ => (zand (zand (zand (zand (zand (zand (zand (zand hN).2).1).2).1).1).1).1).2
  | 9, _ => (zand (zand (zand (zand (zand (zand (zand (zand hN).2).1).2).1).1).1).2).1
  | 10, _ => (zand (zand (zand (zand (zand (zand (zand (zand hN).2).1).2).1).1).1).2).2
  | 11, _ => (zand (zand (zand (zand (zand (zand (zand (zand hN).2).1).2).1).1).2).1).1
  | i + 12, h => absurd h (by omega)
theorem sv_ne13 {A : Array Value} {s : State} (hN : narrow_1.before A s = true) : ∀ i : Nat, i < 13 → (Cond.not (Cond.eq (ztm i) (ztm 13))).before A s = true := fun i hi => match i, hi with
  | 0, _ => (zand (zand (zand (zand (zand (zand (zand (zand hN).2).1).2).1).2).1).2).1
  | 1, _ => (zand (zand (zand (zand (zand (zand (zand (zand (zand hN).2).1).2).1).2).1).2).2).1
  | 2, _ => (zand (zand (zand (zand (zand (zand (zand (zand (zand hN).2).1).2).1).2).1).2).2).2
  | 3, _ => (zand (zand (zand (zand (zand (zand (zand (zand hN).2).1).2).1).2).2).1).1
  | 4, _ => (zand (zand (zand (zand (zand (zand (zand (zand hN).2).1).2).1).2).2).1).2
  | 5, _ => (zand (zand (zand (zand (zand (zand (zand (zand hN).2).1).2).1).2).2).2).1
  | 6, _ => (zand (zand (zand (zand (zand (zand (zand (zand (zand hN).2).1).2).1).2).2).2).2).1
  | 7, _ => (zand (zand (zand (zand (zand (zand (zand (zand (zand hN).2).1).2).1).2).2).2).2).2
  | 8, _ => (zand (zand (zand (zand (zand (zand (zand (zand hN).2).1).2).2).1).1).1).1
  | 9, _ => (zand (zand (zand (zand (zand (zand (zand (zand hN).2).1).2).2).1).1).1).2
  | 10, _ => (zand (zand (zand (zand (zand (zand (zand (zand hN).2).1).2).2).1).1).2).1
  | 11, _ => (zand (zand (zand (zand (zand (zand (zand (zand (zand hN).2).1).2).2).1).1).2).2).1
  | 12, _ => (zand (zand (zand (zand (zand (zand (zand (zand (zand hN).2).1).2).2).1).1).2).2).2
  | i + 13, h => absurd h (by omega)
theorem sv_ne14 {A : Array Value} {s : State} (hN : narrow_1.before A s = true) : ∀ i : Nat, i < 14 → (Cond.not (Cond.eq (ztm i) (ztm 14))).before A s = true := fun i hi => match i, hi with
  | 0, _ => (zand (zand (zand (zand (zand (zand (zand (zand hN).2).1).2).2).2).1).2).1
  | 1, _ => (zand (zand (zand (zand (zand (zand (zand (zand (zand hN).2).1).2).2).2).1).2).2).1
  | 2, _ => (zand (zand (zand (zand (zand (zand (zand (zand (zand hN).2).1).2).2).2).1).2).2).2
  | 3, _ => (zand (zand (zand (zand (zand (zand (zand (zand hN).2).1).2).2).2).2).1).1
  | 4, _ => (zand (zand (zand (zand (zand (zand (zand (zand hN).2).1).2).2).2).2).1).2
  | 5, _ => (zand (zand (zand (zand (zand (zand (zand (zand hN).2).1).2).2).2).2).2).1
  | 6, _ => (zand (zand (zand (zand (zand (zand (zand (zand (zand hN).2).1).2).2).2).2).2).2).1
  | 7, _ => (zand (zand (zand (zand (zand (zand (zand (zand (zand hN).2).1).2).2).2).2).2).2).2
  | 8, _ => (zand (zand (zand (zand (zand (zand (zand (zand hN).2).2).1).1).1).1).1).1
  | 9, _ => (zand (zand (zand (zand (zand (zand (zand (zand hN).2).2).1).1).1).1).1).2
  | 10, _ => (zand (zand (zand (zand (zand (zand (zand (zand hN).2).2).1).1).1).1).2).1
  | 11, _ => (zand (zand (zand (zand (zand (zand (zand (zand hN).2).2).1).1).1).1).2).2
  | 12, _ => (zand (zand (zand (zand (zand (zand (zand (zand hN).2).2).1).1).1).2).1).1
  | 13, _ => (zand (zand (zand (zand (zand (zand (zand (zand hN).2).2).1).1).1).2).1).2
  | i + 14, h => absurd h (by omega)
theorem sv_ne15 {A : Array Value} {s : State} (hN : narrow_1.before A s = true) : ∀ i : Nat, i < 15 → (Cond.not (Cond.eq (ztm i) (ztm 15))).before A s = true := fun i hi => match i, hi with
  | 0, _ => (zand (zand (zand (zand (zand (zand (zand (zand hN).2).2).1).1).2).2).1).1
  | 1, _ => (zand (zand (zand (zand (zand (zand (zand (zand hN).2).2).1).1).2).2).1).2
  | 2, _ => (zand (zand (zand (zand (zand (zand (zand (zand hN).2).2).1).1).2).2).2).1
  | 3, _ => (zand (zand (zand (zand (zand (zand (zand (zand (zand hN).2).2).1).1).2).2).2).2).1
  | 4, _ => (zand (zand (zand (zand (zand (zand (zand (zand (zand hN).2).2).1).1).2).2).2).2).2
  | 5, _ => (zand (zand (zand (zand (zand (zand (zand (zand hN).2).2).1).2).1).1).1).1
  | 6, _ => (zand (zand (zand (zand (zand (zand (zand (zand hN).2).2).1).2).1).1).1).2
  | 7, _ => (zand (zand (zand (zand (zand (zand (zand (zand hN).2).2).1).2).1).1).2).1
  | 8, _ => (zand (zand (zand (zand (zand (zand (zand (zand hN).2).2).1).2).1).1).2).2
  | 9, _ => (zand (zand (zand (zand (zand (zand (zand (zand hN).2).2).1).2).1).2).1).1
  | 10, _ => (zand (zand (zand (zand (zand (zand (zand (zand hN).2).2).1).2).1).2).1).2
  | 11, _ => (zand (zand (zand (zand (zand (zand (zand (zand hN).2).2).1).2).1).2).2).1
  | 12, _ => (zand (zand (zand (zand (zand (zand (zand (zand (zand hN).2).2).1).2).1).2).2).2).1
  | 13, _ => (zand (zand (zand (zand (zand (zand (zand (zand (zand hN).2).2).1).2).1).2).2).2).2
  | 14, _ => (zand (zand (zand (zand (zand (zand (zand (zand hN).2).2).1).2).2).1).1).1
  | i + 15, h => absurd h (by omega)
theorem sv_ne16 {A : Array Value} {s : State} (hN : narrow_1.before A s = true) : ∀ i : Nat, i < 16 → (Cond.not (Cond.eq (ztm i) (ztm 16))).before A s = true := fun i hi => match i, hi with
  | 0, _ => (zand (zand (zand (zand (zand (zand (zand (zand (zand hN).2).2).1).2).2).2).2).2).2
  | 1, _ => (zand (zand (zand (zand (zand (zand (zand (zand hN).2).2).2).1).1).1).1).1
  | 2, _ => (zand (zand (zand (zand (zand (zand (zand (zand hN).2).2).2).1).1).1).1).2
  | 3, _ => (zand (zand (zand (zand (zand (zand (zand (zand hN).2).2).2).1).1).1).2).1
  | 4, _ => (zand (zand (zand (zand (zand (zand (zand (zand hN).2).2).2).1).1).1).2).2
  | 5, _ => (zand (zand (zand (zand (zand (zand (zand (zand hN).2).2).2).1).1).2).1).1
  | 6, _ => (zand (zand (zand (zand (zand (zand (zand (zand hN).2).2).2).1).1).2).1).2
  | 7, _ => (zand (zand (zand (zand (zand (zand (zand (zand hN).2).2).2).1).1).2).2).1
  | 8, _ => (zand (zand (zand (zand (zand (zand (zand (zand (zand hN).2).2).2).1).1).2).2).2).1
  | 9, _ => (zand (zand (zand (zand (zand (zand (zand (zand (zand hN).2).2).2).1).1).2).2).2).2
  | 10, _ => (zand (zand (zand (zand (zand (zand (zand (zand hN).2).2).2).1).2).1).1).1
  | 11, _ => (zand (zand (zand (zand (zand (zand (zand (zand hN).2).2).2).1).2).1).1).2
  | 12, _ => (zand (zand (zand (zand (zand (zand (zand (zand hN).2).2).2).1).2).1).2).1
  | 13, _ => (zand (zand (zand (zand (zand (zand (zand (zand (zand hN).2).2).2).1).2).1).2).2).1
  | 14, _ => (zand (zand (zand (zand (zand (zand (zand (zand (zand hN).2).2).2).1).2).1).2).2).2
  | 15, _ => (zand (zand (zand (zand (zand (zand (zand (zand hN).2).2).2).1).2).2).1).1
  | i + 16, h => absurd h (by omega)
theorem sv_ne17 {A : Array Value} {s : State} (hN : narrow_1.before A s = true) : ∀ i : Nat, i < 17 → (Cond.not (Cond.eq (ztm i) (ztm 17))).before A s = true := fun i hi => match i, hi with
  | 0, _ => (zand (zand (zand (zand (zand (zand (zand (zand hN).2).2).2).2).1).1).2).1
  | 1, _ => (zand (zand (zand (zand (zand (zand (zand (zand (zand hN).2).2).2).2).1).1).2).2).1
  | 2, _ => (zand (zand (zand (zand (zand (zand (zand (zand (zand hN).2).2).2).2).1).1).2).2).2
  | 3, _ => (zand (zand (zand (zand (zand (zand (zand (zand hN).2).2).2).2).1).2).1).1
  | 4, _ => (zand (zand (zand (zand (zand (zand (zand (zand hN).2).2).2).2).1).2).1).2
  | 5, _ => (zand (zand (zand (zand (zand (zand (zand (zand hN).2).2).2).2).1).2).2).1
  | 6, _ => (zand (zand (zand (zand (zand (zand (zand (zand (zand hN).2).2).2).2).1).2).2).2).1
  | 7, _ => (zand (zand (zand (zand (zand (zand (zand (zand (zand hN).2).2).2).2).1).2).2).2).2
  | 8, _ => (zand (zand (zand (zand (zand (zand (zand (zand hN).2).2).2).2).2).1).1).1
  | 9, _ => (zand (zand (zand (zand (zand (zand (zand (zand hN).2).2).2).2).2).1).1).2
  | 10, _ => (zand (zand (zand (zand (zand (zand (zand (zand hN).2).2).2).2).2).1).2).1
  | 11, _ => (zand (zand (zand (zand (zand (zand (zand (zand (zand hN).2).2).2).2).2).1).2).2).1
  | 12, _ => (zand (zand (zand (zand (zand (zand (zand (zand (zand hN).2).2).2).2).2).1).2).2).2
  | 13, _ => (zand (zand (zand (zand (zand (zand (zand (zand hN).2).2).2).2).2).2).1).1
  | 14, _ => (zand (zand (zand (zand (zand (zand (zand (zand hN).2).2).2).2).2).2).1).2
  | 15, _ => (zand (zand (zand (zand (zand (zand (zand (zand hN).2).2).2).2).2).2).2).1
  | 16, _ => (zand (zand (zand (zand (zand (zand (zand (zand (zand hN).2).2).2).2).2).2).2).2).1
  | i + 17, h => absurd h (by omega)
theorem sv_nl {A : Array Value} {s : State} (hN : narrow_1.before A s = true) : ∀ j : Nat, j < 18 → ∀ i : Nat, i < j → (Cond.not (Cond.eq (ztm i) (ztm j))).before A s = true := fun j hj => match j, hj with
  | 0, _ => fun i h => absurd h (by omega)
  | 1, _ => sv_ne1 hN
  | 2, _ => sv_ne2 hN
  | 3, _ => sv_ne3 hN
  | 4, _ => sv_ne4 hN
  | 5, _ => sv_ne5 hN
  | 6, _ => sv_ne6 hN
  | 7, _ => sv_ne7 hN
  | 8, _ => sv_ne8 hN
  | 9, _ => sv_ne9 hN
  | 10, _ => sv_ne10 hN
  | 11, _ => sv_ne11 hN
  | 12, _ => sv_ne12 hN
  | 13, _ => sv_ne13 hN
  | 14, _ => sv_ne14 hN
  | 15, _ => sv_ne15 hN
  | 16, _ => sv_ne16 hN
  | 17, _ => sv_ne17 hN
  | j + 18, h => absurd h (by omega)
theorem sv_ne {A : Array Value} {s : State} (hN : narrow_1.before A s = true) : ∀ i j : Nat, i < 18 → j < 18 → i ≠ j → (Cond.not (Cond.eq (ztm i) (ztm j))).before A s = true ∨ (Cond.not (Cond.eq (ztm j) (ztm i))).before A s = true := fun i j hi hj h => by
  rcases Nat.lt_or_ge i j with c | c
  · exact Or.inl (sv_nl hN j hj i c)
  · exact Or.inr (sv_nl hN i hi j (by omega))
theorem sv_fa {A : Array Value} {s : State} (hN : narrow_1.before A s = true) : ∀ j : Nat, j < 6 → (Cond.eq (.elem (.static "PaymentRuns$Shares" "FACTORIAL" "[I") (.int (Int32.ofNat j))) (.int (Int32.ofInt (zfaL.getD j 0)))).before A s = true := fun j hj => match j, hj with
  | 0, _ => (zand (zand (zand (zand (zand (zand (zand (zand hN).1).1).1).1).2).1).1).2
  | 1, _ => (zand (zand (zand (zand (zand (zand (zand (zand hN).1).1).1).1).2).1).2).1
  | 2, _ => (zand (zand (zand (zand (zand (zand (zand (zand (zand hN).1).1).1).1).2).1).2).2).1
  | 3, _ => (zand (zand (zand (zand (zand (zand (zand (zand (zand hN).1).1).1).1).2).1).2).2).2
  | 4, _ => (zand (zand (zand (zand (zand (zand (zand (zand hN).1).1).1).1).2).2).1).1
  | 5, _ => (zand (zand (zand (zand (zand (zand (zand (zand hN).1).1).1).1).2).2).1).2
  | j + 6, h => absurd h (by omega)
theorem sv_sr {A : Array Value} {s : State} (hts : ∀ w ∈ lw_tbl, w.before A s = true) : ∀ (i : Nat) (q : String × Nat × String), zSl[i]? = some q → (Cond.stringRef q.1 q.2.1 q.2.2).before A s = true ∧ .string q.1 q.2.1 = ztm i := fun i q hq => match i, hq with
  | 0, hq => by cases hq; exact ⟨hts _ (zu2 194 rfl), rfl⟩
  | 1, hq => by cases hq; exact ⟨hts _ (zu3 15 rfl), rfl⟩
  | 2, hq => by cases hq; exact ⟨hts _ (zu3 24 rfl), rfl⟩
  | 3, hq => by cases hq; exact ⟨hts _ (zu3 25 rfl), rfl⟩
  | 4, hq => by cases hq; exact ⟨hts _ (zu3 26 rfl), rfl⟩
  | 5, hq => by cases hq; exact ⟨hts _ (zu3 27 rfl), rfl⟩
  | 6, hq => by cases hq; exact ⟨hts _ (zu3 28 rfl), rfl⟩
  | 7, hq => by cases hq; exact ⟨hts _ (zu3 29 rfl), rfl⟩
  | 8, hq => by cases hq; exact ⟨hts _ (zu3 34 rfl), rfl⟩
  | 9, hq => by cases hq; exact ⟨hts _ (zu3 35 rfl), rfl⟩
  | 10, hq => by cases hq; exact ⟨hts _ (zu3 40 rfl), rfl⟩
  | 11, hq => by cases hq; exact ⟨hts _ (zu3 41 rfl), rfl⟩
  | 12, hq => by cases hq; exact ⟨hts _ (zu3 42 rfl), rfl⟩
  | 13, hq => by cases hq; exact ⟨hts _ (zu3 43 rfl), rfl⟩
  | 14, hq => by cases hq; exact ⟨hts _ (zu3 44 rfl), rfl⟩
  | 15, hq => by cases hq; exact ⟨hts _ (zu3 45 rfl), rfl⟩
  | 16, hq => by cases hq; exact ⟨hts _ (zu3 46 rfl), rfl⟩
  | 17, hq => by cases hq; exact ⟨hts _ (zu3 51 rfl), rfl⟩
  | i + 18, hq => by cases hq
theorem sv_K {s : State} {b L : Nat} {xs : Nat → Int32} (hts : ∀ w ∈ lw_tbl, w.before #[Value.ref b] s = true) (hX : va_X b L xs s s.heap) (hbl : b < s.heap.size) (hN : narrow_1.before #[Value.ref b] s = true) : ∃ G : zG, zK G s s.heap ∧ gB G = s.heap.size ∧ gSc G = b ∧ gL G = L ∧ gXs G = xs := by
  have hg : ∀ w ∈ lwg, w.before #[Value.ref b] s = true := fun w hw => hts w (List.mem_filter.mp hw).1
  obtain ⟨c0, i0, K0⟩ := u_known (C := RX0) (T := TX0) (N := 16) (n := 16) hg kW_0 (hg _ kQ_0)
  obtain ⟨c1, i1, K1⟩ := u_known (C := RX1) (T := TX1) (N := 2) (n := 2) hg kW_1 (hg _ kQ_1)
  obtain ⟨c2, i2, K2⟩ := u_known (C := RX2) (T := TX2) (N := 2) (n := 2) hg kW_2 (hg _ kQ_2)
  obtain ⟨c3, i3, K3⟩ := u_known (C := RX3) (T := TX3) (N := 3) (n := 3) hg kW_3 (hg _ kQ_3)
  obtain ⟨c4, i4, K4⟩ := u_known (C := RX4) (T := TX4) (N := 6) (n := 6) hg kW_4 (hg _ kQ_4)
  obtain ⟨c5, i5, K5⟩ := u_known (C := RX5) (T := TX5) (N := 3) (n := 3) hg kW_5 (hg _ kQ_5)
  obtain ⟨c6, i6, K6⟩ := u_known (C := RX6) (T := TX6) (N := 2) (n := 2) hg kW_6 (hg _ kQ_6)
  obtain ⟨c7, i7, K7⟩ := u_known (C := RX7) (T := TX7) (N := 9) (n := 9) hg kW_7 (hg _ kQ_7)
  obtain ⟨c8, i8, K8⟩ := u_known (C := RX8) (T := TX8) (N := 15) (n := 15) hg kW_8 (hg _ kQ_8)
  obtain ⟨c9, i9, K9⟩ := u_known (C := RX9) (T := TX9) (N := 11) (n := 11) hg kW_9 (hg _ kQ_9)
  obtain ⟨c10, i10, K10⟩ := u_known (C := RX10) (T := TX10) (N := 43) (n := 43) hg kW_10 (hg _ kQ_10)
  obtain ⟨a20, kA20, cc20, f20, g20, e20⟩ := Cond.arrayClass_spec (hg _ kA_byte)
  obtain ⟨a21, kA21, cc21, f21, g21, e21⟩ := Cond.arrayClass_spec (hg _ kA_int)
  obtain ⟨a22, kA22, cc22, f22, g22, e22⟩ := Cond.arrayClass_spec (hg _ kA_long)
  obtain ⟨a23, kA23, cc23, f23, g23, e23⟩ := Cond.arrayClass_spec (hg _ kA_boolean)
  have oD : (Cond.arrayOver (.object "PaymentRuns$Desk")).before #[Value.ref b] s = true := hts _ (zu2 5 rfl)
  have oI : (Cond.arrayOver (.array .int)).before #[Value.ref b] s = true := hts _ (zu1 40 rfl)
  have oL : (Cond.arrayOver (.array .long)).before #[Value.ref b] s = true := hts _ (zu2 14 rfl)
  obtain ⟨m24, a24, kA24, p24, x24, g24, e24, f24⟩ := Cond.arrayOver_spec oD
  obtain ⟨m25, a25, kA25, p25, x25, g25, e25, f25⟩ := arrayOverA_spec oI
  obtain ⟨m26, a26, kA26, p26, x26, g26, e26, f26⟩ := arrayOverA_spec oL
  have hA : ∀ a : Nat, a < s.heap.size → ¬ s.heap.size ≤ a := fun a h => Nat.not_le.mpr h
  obtain ⟨adK, adV, hS, hEv⟩ := vk_Sof (args := #[Value.ref b]) (s := s) (N := 18) (tm := ztm) (len := zln) (byt := zby) (A := fun q => s.heap.size ≤ q) (fun i hi => Nat.lt_trans (zln_lt i hi) (by decide)) (sv_ex hN) (sv_co hN) (sv_ar hN) (sv_le hN) (sv_el hN) (sv_ne hN) hA
  have hFar : (Cond.arrayOf (.static "PaymentRuns$Shares" "FACTORIAL" "[I") .int).before #[Value.ref b] s = true := (zand (zand (zand (zand (zand (zand (zand (zand (zand hN).1).1).1).1).1).2).2).2).2
  have hFle : (Cond.eq (.length (.static "PaymentRuns$Shares" "FACTORIAL" "[I")) (.int (Int32.ofNat 6))).before #[Value.ref b] s = true := (zand (zand (zand (zand (zand (zand (zand (zand hN).1).1).1).1).2).1).1).1
  obtain ⟨fa, hfe, hfT⟩ := va_Tof (f := fun j => .int (Int32.ofInt (zfaL.getD j 0))) (A := fun q => s.heap.size ≤ q) (N := 6) (by decide) hFar (va_eqt hFle) (fun j hj => va_eqt (sv_fa hN j hj)) hA
  have hfZ := va_Zref (A := fun q => s.heap.size ≤ q) (hts _ (zu5 102 rfl)) (hg _ kI_X6) hfe hA
  have hcq : (Cond.eq (.static "java/lang/String" "COMPACT_STRINGS" "Z") (.int 1)).before #[Value.ref b] s = true := (zand (zand (zand (zand (zand (zand (zand (zand hN).1).1).1).1).1).1).2).1
  have hcZ := va_Zof (A := fun q => s.heap.size ≤ q) (hts _ (zu2 212 rfl)) (hts _ (zu1 13 rfl)) (va_eqi hcq) hA
  have hsq : (Cond.isRef (.static "jdk/internal/util/Preconditions" "SIOOBE_FORMATTER" "Ljava/util/function/BiFunction;")).before #[Value.ref b] s = true := (zand (zand (zand (zand (zand (zand (zand (zand hN).1).1).1).1).1).1).2).2
  have hsZ := va_Zqof (A := fun q => s.heap.size ≤ q) (hts _ (zu2 228 rfl)) (hts _ (zu1 15 rfl)) hsq hA
  obtain ⟨fo, hfo⟩ : ∃ fo : Option Nat, va_Z "jdk/internal/util/Preconditions" "SIOOBE_FORMATTER" "Ljava/util/function/BiFunction;" (va_rf fo) (fun q => s.heap.size ≤ q) s s.heap := by
    rcases hsZ with z | ⟨t, z⟩
    · exact ⟨none, z⟩
    · exact ⟨some t, z⟩
  let dC : Nat → ClassId := fun k => match k with | 0 => c0 | 1 => c1 | 2 => c2 | 3 => c3 | 4 => c4 | 5 => c5 | 6 => c6 | 7 => c7 | 8 => c8 | 9 => c9 | _ => c10
  let dI : Nat → Nat → Nat := fun k => match k with | 0 => i0 | 1 => i1 | 2 => i2 | 3 => i3 | 4 => i4 | 5 => i5 | 6 => i6 | 7 => i7 | 8 => i8 | 9 => i9 | _ => i10
  let dY : Nat → ClassId := fun k => match k with | 20 => a20 | 21 => a21 | 22 => a22 | 23 => a23 | 24 => a24 | 25 => a25 | _ => a26
  refine ⟨((dC, dI, dY, s.heap.size, (adK, adV, fa, fo), (b, L, xs)), fun _ => 0), ⟨⟨fun k q hq => ?_, fun k q hq => ?_⟩, ⟨hX, hbl, Nat.le_refl _⟩, ⟨fun i q hq => ?_, hS, hfZ, hfT, hcZ, hfo, va_AO.of oD, over_moved (Vm.Alike.refl _) oI, over_moved (Vm.Alike.refl _) oL, va_Nw.of rfl (hts _ (zu2 77 rfl)), va_Nw.of rfl (hts _ (zu2 105 rfl))⟩⟩, rfl, rfl, rfl, rfl⟩
  · match k, hq with
    | 0, hq => cases hq; exact K0
    | 1, hq => cases hq; exact K1
    | 2, hq => cases hq; exact K2
    | 3, hq => cases hq; exact K3
    | 4, hq => cases hq; exact K4
    | 5, hq => cases hq; exact K5
    | 6, hq => cases hq; exact K6
    | 7, hq => cases hq; exact K7
    | 8, hq => cases hq; exact K8
    | 9, hq => cases hq; exact K9
    | 10, hq => cases hq; exact K10
    | k + 11, hq => cases hq
  · match k, hq with
    | 0, hq => cases hq; exact ⟨fun n z => ⟨fun k h => (by cases h), kA20, g20, cc20, e20⟩, f20⟩
    | 1, hq => cases hq; exact ⟨fun n z => ⟨fun k h => (by cases h), kA21, g21, cc21, e21⟩, f21⟩
    | 2, hq => cases hq; exact ⟨fun n z => ⟨fun k h => (by cases h), kA22, g22, cc22, e22⟩, f22⟩
    | 3, hq => cases hq; exact ⟨fun n z => ⟨fun k h => (by cases h), kA23, g23, cc23, e23⟩, f23⟩
    | 4, hq => cases hq; exact ⟨fun n z => ⟨fun k h => (by cases h), kA24, g24, m24, e24⟩, kA24, m24, g24, e24, p24, f24⟩
    | 5, hq => cases hq; exact ⟨fun n z => ⟨fun k h => (by cases h), kA25, g25, m25, e25⟩, f25⟩
    | 6, hq => cases hq; exact ⟨fun n z => ⟨fun k h => (by cases h), kA26, g26, m26, e26⟩, f26⟩
    | k + 7, hq => cases hq
  · have hi : i < 18 := (List.getElem?_eq_some_iff.mp hq).1
    obtain ⟨w1, w2⟩ := sv_sr hts i q hq
    exact vk_R.of w1 (by rw [w2]; exact hEv i hi)

theorem kO_i : Cond.instanceMethod Lib.objectInit ∈ lwg := (zt1 25 rfl rfl)
theorem kO_c : Cond.code Lib.objectInit ⟨#[0xb1]⟩ 1 none ∈ lwg := (zt1 26 rfl rfl)
theorem kA_byte : Cond.arrayClass .byte ∈ lwg := (zt1 133 rfl rfl)
theorem kA_int : Cond.arrayClass .int ∈ lwg := (zt1 134 rfl rfl)
theorem kA_long : Cond.arrayClass .long ∈ lwg := (zt2 31 rfl rfl)
theorem kA_boolean : Cond.arrayClass .boolean ∈ lwg := (zt2 30 rfl rfl)
theorem kz_0 : ∀ j, j < 16 → zF 0 j < 3 ∧ zdq (zF 0 j) = defaultValue (tyX0 j) := fun j hj => match j, hj with
  | 0, _ => ⟨by decide, rfl⟩
  | 1, _ => ⟨by decide, rfl⟩
  | 2, _ => ⟨by decide, rfl⟩
  | 3, _ => ⟨by decide, rfl⟩
  | 4, _ => ⟨by decide, rfl⟩
  | 5, _ => ⟨by decide, rfl⟩
  | 6, _ => ⟨by decide, rfl⟩
  | 7, _ => ⟨by decide, rfl⟩
  | 8, _ => ⟨by decide, rfl⟩
  | 9, _ => ⟨by decide, rfl⟩
  | 10, _ => ⟨by decide, rfl⟩
  | 11, _ => ⟨by decide, rfl⟩
  | 12, _ => ⟨by decide, rfl⟩
  | 13, _ => ⟨by decide, rfl⟩
  | 14, _ => ⟨by decide, rfl⟩
  | 15, _ => ⟨by decide, rfl⟩
  | j + 16, h => absurd h (by omega)
theorem kQ_0 : Cond.instantiable RX0 16 ∈ lwg := (zt1 34 rfl rfl)
theorem kz_1 : ∀ j, j < 2 → zF 1 j < 3 ∧ zdq (zF 1 j) = defaultValue (tyX1 j) := fun j hj => match j, hj with
  | 0, _ => ⟨by decide, rfl⟩
  | 1, _ => ⟨by decide, rfl⟩
  | j + 2, h => absurd h (by omega)
theorem kQ_1 : Cond.instantiable RX1 2 ∈ lwg := (zt2 91 rfl rfl)
theorem kz_2 : ∀ j, j < 2 → zF 2 j < 3 ∧ zdq (zF 2 j) = defaultValue (tyX2 j) := fun j hj => match j, hj with
  | 0, _ => ⟨by decide, rfl⟩
  | 1, _ => ⟨by decide, rfl⟩
  | j + 2, h => absurd h (by omega)
theorem kQ_2 : Cond.instantiable RX2 2 ∈ lwg := (zt2 104 rfl rfl)
theorem kz_3 : ∀ j, j < 3 → zF 3 j < 3 ∧ zdq (zF 3 j) = defaultValue (tyX3 j) := fun j hj => match j, hj with
  | 0, _ => ⟨by decide, rfl⟩
  | 1, _ => ⟨by decide, rfl⟩
  | 2, _ => ⟨by decide, rfl⟩
  | j + 3, h => absurd h (by omega)
theorem kQ_3 : Cond.instantiable RX3 3 ∈ lwg := (zt2 8 rfl rfl)
theorem kz_4 : ∀ j, j < 6 → zF 4 j < 3 ∧ zdq (zF 4 j) = defaultValue (tyX4 j) := fun j hj => match j, hj with
  | 0, _ => ⟨by decide, rfl⟩
  | 1, _ => ⟨by decide, rfl⟩
  | 2, _ => ⟨by decide, rfl⟩
  | 3, _ => ⟨by decide, rfl⟩
  | 4, _ => ⟨by decide, rfl⟩
  | 5, _ => ⟨by decide, rfl⟩
  | j + 6, h => absurd h (by omega)
theorem kQ_4 : Cond.instantiable RX4 6 ∈ lwg := (zt2 33 rfl rfl)
theorem kz_5 : ∀ j, j < 3 → zF 5 j < 3 ∧ zdq (zF 5 j) = defaultValue (tyX5 j) := fun j hj => match j, hj with
  | 0, _ => ⟨by decide, rfl⟩
  | 1, _ => ⟨by decide, rfl⟩
  | 2, _ => ⟨by decide, rfl⟩
  | j + 3, h => absurd h (by omega)
theorem kQ_5 : Cond.instantiable RX5 3 ∈ lwg := (zt2 59 rfl rfl)
theorem kz_6 : ∀ j, j < 2 → zF 6 j < 3 ∧ zdq (zF 6 j) = defaultValue (tyX6 j) := fun j hj => match j, hj with
  | 0, _ => ⟨by decide, rfl⟩
  | 1, _ => ⟨by decide, rfl⟩
  | j + 2, h => absurd h (by omega)
theorem kQ_6 : Cond.instantiable RX6 2 ∈ lwg := (zt2 76 rfl rfl)
theorem kz_7 : ∀ j, j < 9 → zF 7 j < 3 ∧ zdq (zF 7 j) = defaultValue (tyX7 j) := fun j hj => match j, hj with
  | 0, _ => ⟨by decide, rfl⟩
  | 1, _ => ⟨by decide, rfl⟩
  | 2, _ => ⟨by decide, rfl⟩
  | 3, _ => ⟨by decide, rfl⟩
  | 4, _ => ⟨by decide, rfl⟩
  | 5, _ => ⟨by decide, rfl⟩
  | 6, _ => ⟨by decide, rfl⟩
  | 7, _ => ⟨by decide, rfl⟩
  | 8, _ => ⟨by decide, rfl⟩
  | j + 9, h => absurd h (by omega)
theorem kQ_7 : Cond.instantiable RX7 9 ∈ lwg := (zt1 28 rfl rfl)
theorem kz_8 : ∀ j, j < 15 → zF 8 j < 3 ∧ zdq (zF 8 j) = defaultValue (tyX8 j) := fun j hj => match j, hj with
  | 0, _ => ⟨by decide, rfl⟩
  | 1, _ => ⟨by decide, rfl⟩
  | 2, _ => ⟨by decide, rfl⟩
  | 3, _ => ⟨by decide, rfl⟩
  | 4, _ => ⟨by decide, rfl⟩
  | 5, _ => ⟨by decide, rfl⟩
  | 6, _ => ⟨by decide, rfl⟩
  | 7, _ => ⟨by decide, rfl⟩
  | 8, _ => ⟨by decide, rfl⟩
  | 9, _ => ⟨by decide, rfl⟩
  | 10, _ => ⟨by decide, rfl⟩
  | 11, _ => ⟨by decide, rfl⟩
  | 12, _ => ⟨by decide, rfl⟩
  | 13, _ => ⟨by decide, rfl⟩
  | 14, _ => ⟨by decide, rfl⟩
  | j + 15, h => absurd h (by omega)
theorem kQ_8 : Cond.instantiable RX8 15 ∈ lwg := (zt1 168 rfl rfl)
theorem kz_9 : ∀ j, j < 11 → zF 9 j < 3 ∧ zdq (zF 9 j) = defaultValue (tyX9 j) := fun j hj => match j, hj with
  | 0, _ => ⟨by decide, rfl⟩
  | 1, _ => ⟨by decide, rfl⟩
  | 2, _ => ⟨by decide, rfl⟩
  | 3, _ => ⟨by decide, rfl⟩
  | 4, _ => ⟨by decide, rfl⟩
  | 5, _ => ⟨by decide, rfl⟩
  | 6, _ => ⟨by decide, rfl⟩
  | 7, _ => ⟨by decide, rfl⟩
  | 8, _ => ⟨by decide, rfl⟩
  | 9, _ => ⟨by decide, rfl⟩
  | 10, _ => ⟨by decide, rfl⟩
  | j + 11, h => absurd h (by omega)
theorem kQ_9 : Cond.instantiable RX9 11 ∈ lwg := (zt1 20 rfl rfl)
theorem kz_10 : ∀ j, j < 43 → zF 10 j < 3 ∧ zdq (zF 10 j) = defaultValue (tyX10 j) := fun j hj => match j, hj with
  | 0, _ => ⟨by decide, rfl⟩
  | 1, _ => ⟨by decide, rfl⟩
  | 2, _ => ⟨by decide, rfl⟩
  | 3, _ => ⟨by decide, rfl⟩
  | 4, _ => ⟨by decide, rfl⟩
  | 5, _ => ⟨by decide, rfl⟩
  | 6, _ => ⟨by decide, rfl⟩
  | 7, _ => ⟨by decide, rfl⟩
  | 8, _ => ⟨by decide, rfl⟩
  | 9, _ => ⟨by decide, rfl⟩
  | 10, _ => ⟨by decide, rfl⟩
  | 11, _ => ⟨by decide, rfl⟩
  | 12, _ => ⟨by decide, rfl⟩
  | 13, _ => ⟨by decide, rfl⟩
  | 14, _ => ⟨by decide, rfl⟩
  | 15, _ => ⟨by decide, rfl⟩
  | 16, _ => ⟨by decide, rfl⟩
  | 17, _ => ⟨by decide, rfl⟩
  | 18, _ => ⟨by decide, rfl⟩
  | 19, _ => ⟨by decide, rfl⟩
  | 20, _ => ⟨by decide, rfl⟩
  | 21, _ => ⟨by decide, rfl⟩
  | 22, _ => ⟨by decide, rfl⟩
  | 23, _ => ⟨by decide, rfl⟩
  | 24, _ => ⟨by decide, rfl⟩
  | 25, _ => ⟨by decide, rfl⟩
  | 26, _ => ⟨by decide, rfl⟩
  | 27, _ => ⟨by decide, rfl⟩
  | 28, _ => ⟨by decide, rfl⟩
  | 29, _ => ⟨by decide, rfl⟩
  | 30, _ => ⟨by decide, rfl⟩
  | 31, _ => ⟨by decide, rfl⟩
  | 32, _ => ⟨by decide, rfl⟩
  | 33, _ => ⟨by decide, rfl⟩
  | 34, _ => ⟨by decide, rfl⟩
  | 35, _ => ⟨by decide, rfl⟩
  | 36, _ => ⟨by decide, rfl⟩
  | 37, _ => ⟨by decide, rfl⟩
  | 38, _ => ⟨by decide, rfl⟩
  | 39, _ => ⟨by decide, rfl⟩
  | 40, _ => ⟨by decide, rfl⟩
  | 41, _ => ⟨by decide, rfl⟩
  | 42, _ => ⟨by decide, rfl⟩
  | j + 43, h => absurd h (by omega)
theorem kQ_10 : Cond.instantiable RX10 43 ∈ lwg := (zt6 22 rfl rfl)
def iH_X0_init_3 (h : zH) : zH := (zset (zrow (zset (zrow (zset (zrow (zset (zmul (zset (zrow h 4 (fun _ => 0)) 3 11 4) 5 5) 3 12 5) 11 (fun _ => 0)) 3 13 11) 12 (fun _ => 0)) 3 14 12) 13 (fun _ => 0)) 3 15 13)
theorem i_X0_init_3 {d : Nat} {h : zH} (hd : 2 ≤ d) : zMet d 10 76 mX0_init [zA 3] (TTl.take 4, false) h (fun rv T' h' => rv = none ∧ T' = (TTl.take 14, false) ∧ h' = iH_X0_init_3 h) := by
  refine zMet.of rfl rfl (Nat.le_of_ble_eq_true rfl) ?_
  refine zS_aload_n (zdec eX0_init 0 rfl) rfl rfl ?_
  refine zS_objInit (zdec eX0_init 1 rfl) (zt1 38 rfl rfl) kO_i kO_c (by decide) rfl (by show 1 ≤ d; omega) ?_
  refine zS_aload_n (zdec eX0_init 2 rfl) rfl rfl ?_
  refine zS_iconst (zdec eX0_init 3 rfl) rfl ?_
  refine zS_newarray (t := 21) (n := 4) (kk := 4) (T' := (TTl.take 5, false)) (rn := (d, 1, 4, 10, 76)) (zdec eX0_init 4 rfl) (Or.inr (Or.inl ⟨rfl, rfl⟩)) kA_int rfl rfl rfl rfl rfl rfl ?_
  refine zS_putfield (x := 11) (zdec eX0_init 5 rfl) kF_X0_9 (Or.inr ⟨kf0_11, rfl, fun q z => by cases z; rfl⟩) ⟨by decide, rfl⟩ rfl rfl rfl (Or.inr rfl) ?_
  refine zS_aload_n (zdec eX0_init 6 rfl) rfl rfl ?_
  refine zS_iconst (zdec eX0_init 7 rfl) rfl ?_
  refine zS_bipush (zdec eX0_init 8 rfl) rfl rfl ?_
  refine zS_multi (ty := .int) (t := 25) (t1 := 21) (n := 5) (w := 7) (kk := 5) (T' := (TTl.take 11, false)) (rn := (d, 7, 44, 10, 76)) (zdec eX0_init 9 rfl) (Or.inl ⟨rfl, rfl, rfl⟩) (zt1 39 rfl rfl) kA_int rfl rfl rfl rfl rfl rfl rfl ?_
  refine zS_putfield (x := 12) (zdec eX0_init 10 rfl) kF_X0_17 (Or.inr ⟨kf0_12, rfl, fun q z => by cases z; rfl⟩) ⟨by decide, rfl⟩ rfl rfl rfl (Or.inr rfl) ?_
  refine zS_aload_n (zdec eX0_init 11 rfl) rfl rfl ?_
  refine zS_bipush (zdec eX0_init 12 rfl) rfl rfl ?_
  refine zS_newarray (t := 21) (n := 6) (kk := 11) (T' := (TTl.take 12, false)) (rn := (d, 8, 50, 10, 76)) (zdec eX0_init 13 rfl) (Or.inr (Or.inl ⟨rfl, rfl⟩)) kA_int rfl rfl rfl rfl rfl rfl ?_
  refine zS_putfield (x := 13) (zdec eX0_init 14 rfl) kF_X0_20 (Or.inr ⟨kf0_13, rfl, fun q z => by cases z; rfl⟩) ⟨by decide, rfl⟩ rfl rfl rfl (Or.inr rfl) ?_
  refine zS_aload_n (zdec eX0_init 15 rfl) rfl rfl ?_
  refine zS_bipush (zdec eX0_init 16 rfl) rfl rfl ?_
  refine zS_newarray (t := 21) (n := 6) (kk := 12) (T' := (TTl.take 13, false)) (rn := (d, 9, 56, 10, 76)) (zdec eX0_init 17 rfl) (Or.inr (Or.inl ⟨rfl, rfl⟩)) kA_int rfl rfl rfl rfl rfl rfl ?_
  refine zS_putfield (x := 14) (zdec eX0_init 18 rfl) kF_X0_23 (Or.inr ⟨kf0_14, rfl, fun q z => by cases z; rfl⟩) ⟨by decide, rfl⟩ rfl rfl rfl (Or.inr rfl) ?_
  refine zS_aload_n (zdec eX0_init 19 rfl) rfl rfl ?_
  refine zS_bipush (zdec eX0_init 20 rfl) rfl rfl ?_
  refine zS_newarray (t := 21) (n := 20) (kk := 13) (T' := (TTl.take 14, false)) (rn := (d, 10, 76, 10, 76)) (zdec eX0_init 21 rfl) (Or.inr (Or.inl ⟨rfl, rfl⟩)) kA_int rfl rfl rfl rfl rfl rfl ?_
  refine zS_putfield (x := 15) (zdec eX0_init 22 rfl) kF_X0_26 (Or.inr ⟨kf0_15, rfl, fun q z => by cases z; rfl⟩) ⟨by decide, rfl⟩ rfl rfl rfl (Or.inr rfl) ?_
  exact zS_return (zdec eX0_init 23 rfl) rfl ⟨Nat.le_of_ble_eq_true rfl, Nat.le_of_ble_eq_true rfl⟩ ⟨rfl, rfl, rfl⟩
def iH_X0_init_15 (h : zH) : zH := (zset (zrow (zset (zrow (zset (zrow (zset (zmul (zset (zrow h 16 (fun _ => 0)) 15 11 16) 17 5) 15 12 17) 23 (fun _ => 0)) 15 13 23) 24 (fun _ => 0)) 15 14 24) 25 (fun _ => 0)) 15 15 25)
theorem i_X0_init_15 {d : Nat} {h : zH} (hd : 2 ≤ d) : zMet d 10 76 mX0_init [zA 15] (TTl.take 16, false) h (fun rv T' h' => rv = none ∧ T' = (TTl.take 26, false) ∧ h' = iH_X0_init_15 h) := by
  refine zMet.of rfl rfl (Nat.le_of_ble_eq_true rfl) ?_
  refine zS_aload_n (zdec eX0_init 0 rfl) rfl rfl ?_
  refine zS_objInit (zdec eX0_init 1 rfl) (zt1 38 rfl rfl) kO_i kO_c (by decide) rfl (by show 1 ≤ d; omega) ?_
  refine zS_aload_n (zdec eX0_init 2 rfl) rfl rfl ?_
  refine zS_iconst (zdec eX0_init 3 rfl) rfl ?_
  refine zS_newarray (t := 21) (n := 4) (kk := 16) (T' := (TTl.take 17, false)) (rn := (d, 1, 4, 10, 76)) (zdec eX0_init 4 rfl) (Or.inr (Or.inl ⟨rfl, rfl⟩)) kA_int rfl rfl rfl rfl rfl rfl ?_
  refine zS_putfield (x := 11) (zdec eX0_init 5 rfl) kF_X0_9 (Or.inr ⟨kf0_11, rfl, fun q z => by cases z; rfl⟩) ⟨by decide, rfl⟩ rfl rfl rfl (Or.inr rfl) ?_
  refine zS_aload_n (zdec eX0_init 6 rfl) rfl rfl ?_
  refine zS_iconst (zdec eX0_init 7 rfl) rfl ?_
  refine zS_bipush (zdec eX0_init 8 rfl) rfl rfl ?_
  refine zS_multi (ty := .int) (t := 25) (t1 := 21) (n := 5) (w := 7) (kk := 17) (T' := (TTl.take 23, false)) (rn := (d, 7, 44, 10, 76)) (zdec eX0_init 9 rfl) (Or.inl ⟨rfl, rfl, rfl⟩) (zt1 39 rfl rfl) kA_int rfl rfl rfl rfl rfl rfl rfl ?_
  refine zS_putfield (x := 12) (zdec eX0_init 10 rfl) kF_X0_17 (Or.inr ⟨kf0_12, rfl, fun q z => by cases z; rfl⟩) ⟨by decide, rfl⟩ rfl rfl rfl (Or.inr rfl) ?_
  refine zS_aload_n (zdec eX0_init 11 rfl) rfl rfl ?_
  refine zS_bipush (zdec eX0_init 12 rfl) rfl rfl ?_
  refine zS_newarray (t := 21) (n := 6) (kk := 23) (T' := (TTl.take 24, false)) (rn := (d, 8, 50, 10, 76)) (zdec eX0_init 13 rfl) (Or.inr (Or.inl ⟨rfl, rfl⟩)) kA_int rfl rfl rfl rfl rfl rfl ?_
  refine zS_putfield (x := 13) (zdec eX0_init 14 rfl) kF_X0_20 (Or.inr ⟨kf0_13, rfl, fun q z => by cases z; rfl⟩) ⟨by decide, rfl⟩ rfl rfl rfl (Or.inr rfl) ?_
  refine zS_aload_n (zdec eX0_init 15 rfl) rfl rfl ?_
  refine zS_bipush (zdec eX0_init 16 rfl) rfl rfl ?_
  refine zS_newarray (t := 21) (n := 6) (kk := 24) (T' := (TTl.take 25, false)) (rn := (d, 9, 56, 10, 76)) (zdec eX0_init 17 rfl) (Or.inr (Or.inl ⟨rfl, rfl⟩)) kA_int rfl rfl rfl rfl rfl rfl ?_
  refine zS_putfield (x := 14) (zdec eX0_init 18 rfl) kF_X0_23 (Or.inr ⟨kf0_14, rfl, fun q z => by cases z; rfl⟩) ⟨by decide, rfl⟩ rfl rfl rfl (Or.inr rfl) ?_
  refine zS_aload_n (zdec eX0_init 19 rfl) rfl rfl ?_
  refine zS_bipush (zdec eX0_init 20 rfl) rfl rfl ?_
  refine zS_newarray (t := 21) (n := 20) (kk := 25) (T' := (TTl.take 26, false)) (rn := (d, 10, 76, 10, 76)) (zdec eX0_init 21 rfl) (Or.inr (Or.inl ⟨rfl, rfl⟩)) kA_int rfl rfl rfl rfl rfl rfl ?_
  refine zS_putfield (x := 15) (zdec eX0_init 22 rfl) kF_X0_26 (Or.inr ⟨kf0_15, rfl, fun q z => by cases z; rfl⟩) ⟨by decide, rfl⟩ rfl rfl rfl (Or.inr rfl) ?_
  exact zS_return (zdec eX0_init 23 rfl) rfl ⟨Nat.le_of_ble_eq_true rfl, Nat.le_of_ble_eq_true rfl⟩ ⟨rfl, rfl, rfl⟩
def iH_X0_init_33 (h : zH) : zH := (zset (zrow (zset (zrow (zset (zrow (zset (zmul (zset (zrow h 34 (fun _ => 0)) 33 11 34) 35 5) 33 12 35) 41 (fun _ => 0)) 33 13 41) 42 (fun _ => 0)) 33 14 42) 43 (fun _ => 0)) 33 15 43)
theorem i_X0_init_33 {d : Nat} {h : zH} (hd : 2 ≤ d) : zMet d 10 76 mX0_init [zA 33] (TTl.take 34, false) h (fun rv T' h' => rv = none ∧ T' = (TTl.take 44, false) ∧ h' = iH_X0_init_33 h) := by
  refine zMet.of rfl rfl (Nat.le_of_ble_eq_true rfl) ?_
  refine zS_aload_n (zdec eX0_init 0 rfl) rfl rfl ?_
  refine zS_objInit (zdec eX0_init 1 rfl) (zt1 38 rfl rfl) kO_i kO_c (by decide) rfl (by show 1 ≤ d; omega) ?_
  refine zS_aload_n (zdec eX0_init 2 rfl) rfl rfl ?_
  refine zS_iconst (zdec eX0_init 3 rfl) rfl ?_
  refine zS_newarray (t := 21) (n := 4) (kk := 34) (T' := (TTl.take 35, false)) (rn := (d, 1, 4, 10, 76)) (zdec eX0_init 4 rfl) (Or.inr (Or.inl ⟨rfl, rfl⟩)) kA_int rfl rfl rfl rfl rfl rfl ?_
  refine zS_putfield (x := 11) (zdec eX0_init 5 rfl) kF_X0_9 (Or.inr ⟨kf0_11, rfl, fun q z => by cases z; rfl⟩) ⟨by decide, rfl⟩ rfl rfl rfl (Or.inr rfl) ?_
  refine zS_aload_n (zdec eX0_init 6 rfl) rfl rfl ?_
  refine zS_iconst (zdec eX0_init 7 rfl) rfl ?_
  refine zS_bipush (zdec eX0_init 8 rfl) rfl rfl ?_
  refine zS_multi (ty := .int) (t := 25) (t1 := 21) (n := 5) (w := 7) (kk := 35) (T' := (TTl.take 41, false)) (rn := (d, 7, 44, 10, 76)) (zdec eX0_init 9 rfl) (Or.inl ⟨rfl, rfl, rfl⟩) (zt1 39 rfl rfl) kA_int rfl rfl rfl rfl rfl rfl rfl ?_
  refine zS_putfield (x := 12) (zdec eX0_init 10 rfl) kF_X0_17 (Or.inr ⟨kf0_12, rfl, fun q z => by cases z; rfl⟩) ⟨by decide, rfl⟩ rfl rfl rfl (Or.inr rfl) ?_
  refine zS_aload_n (zdec eX0_init 11 rfl) rfl rfl ?_
  refine zS_bipush (zdec eX0_init 12 rfl) rfl rfl ?_
  refine zS_newarray (t := 21) (n := 6) (kk := 41) (T' := (TTl.take 42, false)) (rn := (d, 8, 50, 10, 76)) (zdec eX0_init 13 rfl) (Or.inr (Or.inl ⟨rfl, rfl⟩)) kA_int rfl rfl rfl rfl rfl rfl ?_
  refine zS_putfield (x := 13) (zdec eX0_init 14 rfl) kF_X0_20 (Or.inr ⟨kf0_13, rfl, fun q z => by cases z; rfl⟩) ⟨by decide, rfl⟩ rfl rfl rfl (Or.inr rfl) ?_
  refine zS_aload_n (zdec eX0_init 15 rfl) rfl rfl ?_
  refine zS_bipush (zdec eX0_init 16 rfl) rfl rfl ?_
  refine zS_newarray (t := 21) (n := 6) (kk := 42) (T' := (TTl.take 43, false)) (rn := (d, 9, 56, 10, 76)) (zdec eX0_init 17 rfl) (Or.inr (Or.inl ⟨rfl, rfl⟩)) kA_int rfl rfl rfl rfl rfl rfl ?_
  refine zS_putfield (x := 14) (zdec eX0_init 18 rfl) kF_X0_23 (Or.inr ⟨kf0_14, rfl, fun q z => by cases z; rfl⟩) ⟨by decide, rfl⟩ rfl rfl rfl (Or.inr rfl) ?_
  refine zS_aload_n (zdec eX0_init 19 rfl) rfl rfl ?_
  refine zS_bipush (zdec eX0_init 20 rfl) rfl rfl ?_
  refine zS_newarray (t := 21) (n := 20) (kk := 43) (T' := (TTl.take 44, false)) (rn := (d, 10, 76, 10, 76)) (zdec eX0_init 21 rfl) (Or.inr (Or.inl ⟨rfl, rfl⟩)) kA_int rfl rfl rfl rfl rfl rfl ?_
  refine zS_putfield (x := 15) (zdec eX0_init 22 rfl) kF_X0_26 (Or.inr ⟨kf0_15, rfl, fun q z => by cases z; rfl⟩) ⟨by decide, rfl⟩ rfl rfl rfl (Or.inr rfl) ?_
  exact zS_return (zdec eX0_init 23 rfl) rfl ⟨Nat.le_of_ble_eq_true rfl, Nat.le_of_ble_eq_true rfl⟩ ⟨rfl, rfl, rfl⟩
def iH_X0_init_44 (h : zH) : zH := (zset (zrow (zset (zrow (zset (zrow (zset (zmul (zset (zrow h 45 (fun _ => 0)) 44 11 45) 46 5) 44 12 46) 52 (fun _ => 0)) 44 13 52) 53 (fun _ => 0)) 44 14 53) 54 (fun _ => 0)) 44 15 54)
theorem i_X0_init_44 {d : Nat} {h : zH} (hd : 2 ≤ d) : zMet d 10 76 mX0_init [zA 44] (TTl.take 45, false) h (fun rv T' h' => rv = none ∧ T' = (TTl.take 55, false) ∧ h' = iH_X0_init_44 h) := by
  refine zMet.of rfl rfl (Nat.le_of_ble_eq_true rfl) ?_
  refine zS_aload_n (zdec eX0_init 0 rfl) rfl rfl ?_
  refine zS_objInit (zdec eX0_init 1 rfl) (zt1 38 rfl rfl) kO_i kO_c (by decide) rfl (by show 1 ≤ d; omega) ?_
  refine zS_aload_n (zdec eX0_init 2 rfl) rfl rfl ?_
  refine zS_iconst (zdec eX0_init 3 rfl) rfl ?_
  refine zS_newarray (t := 21) (n := 4) (kk := 45) (T' := (TTl.take 46, false)) (rn := (d, 1, 4, 10, 76)) (zdec eX0_init 4 rfl) (Or.inr (Or.inl ⟨rfl, rfl⟩)) kA_int rfl rfl rfl rfl rfl rfl ?_
  refine zS_putfield (x := 11) (zdec eX0_init 5 rfl) kF_X0_9 (Or.inr ⟨kf0_11, rfl, fun q z => by cases z; rfl⟩) ⟨by decide, rfl⟩ rfl rfl rfl (Or.inr rfl) ?_
  refine zS_aload_n (zdec eX0_init 6 rfl) rfl rfl ?_
  refine zS_iconst (zdec eX0_init 7 rfl) rfl ?_
  refine zS_bipush (zdec eX0_init 8 rfl) rfl rfl ?_
  refine zS_multi (ty := .int) (t := 25) (t1 := 21) (n := 5) (w := 7) (kk := 46) (T' := (TTl.take 52, false)) (rn := (d, 7, 44, 10, 76)) (zdec eX0_init 9 rfl) (Or.inl ⟨rfl, rfl, rfl⟩) (zt1 39 rfl rfl) kA_int rfl rfl rfl rfl rfl rfl rfl ?_
  refine zS_putfield (x := 12) (zdec eX0_init 10 rfl) kF_X0_17 (Or.inr ⟨kf0_12, rfl, fun q z => by cases z; rfl⟩) ⟨by decide, rfl⟩ rfl rfl rfl (Or.inr rfl) ?_
  refine zS_aload_n (zdec eX0_init 11 rfl) rfl rfl ?_
  refine zS_bipush (zdec eX0_init 12 rfl) rfl rfl ?_
  refine zS_newarray (t := 21) (n := 6) (kk := 52) (T' := (TTl.take 53, false)) (rn := (d, 8, 50, 10, 76)) (zdec eX0_init 13 rfl) (Or.inr (Or.inl ⟨rfl, rfl⟩)) kA_int rfl rfl rfl rfl rfl rfl ?_
  refine zS_putfield (x := 13) (zdec eX0_init 14 rfl) kF_X0_20 (Or.inr ⟨kf0_13, rfl, fun q z => by cases z; rfl⟩) ⟨by decide, rfl⟩ rfl rfl rfl (Or.inr rfl) ?_
  refine zS_aload_n (zdec eX0_init 15 rfl) rfl rfl ?_
  refine zS_bipush (zdec eX0_init 16 rfl) rfl rfl ?_
  refine zS_newarray (t := 21) (n := 6) (kk := 53) (T' := (TTl.take 54, false)) (rn := (d, 9, 56, 10, 76)) (zdec eX0_init 17 rfl) (Or.inr (Or.inl ⟨rfl, rfl⟩)) kA_int rfl rfl rfl rfl rfl rfl ?_
  refine zS_putfield (x := 14) (zdec eX0_init 18 rfl) kF_X0_23 (Or.inr ⟨kf0_14, rfl, fun q z => by cases z; rfl⟩) ⟨by decide, rfl⟩ rfl rfl rfl (Or.inr rfl) ?_
  refine zS_aload_n (zdec eX0_init 19 rfl) rfl rfl ?_
  refine zS_bipush (zdec eX0_init 20 rfl) rfl rfl ?_
  refine zS_newarray (t := 21) (n := 20) (kk := 54) (T' := (TTl.take 55, false)) (rn := (d, 10, 76, 10, 76)) (zdec eX0_init 21 rfl) (Or.inr (Or.inl ⟨rfl, rfl⟩)) kA_int rfl rfl rfl rfl rfl rfl ?_
  refine zS_putfield (x := 15) (zdec eX0_init 22 rfl) kF_X0_26 (Or.inr ⟨kf0_15, rfl, fun q z => by cases z; rfl⟩) ⟨by decide, rfl⟩ rfl rfl rfl (Or.inr rfl) ?_
  exact zS_return (zdec eX0_init 23 rfl) rfl ⟨Nat.le_of_ble_eq_true rfl, Nat.le_of_ble_eq_true rfl⟩ ⟨rfl, rfl, rfl⟩
def iH_X0_init_55 (h : zH) : zH := (zset (zrow (zset (zrow (zset (zrow (zset (zmul (zset (zrow h 56 (fun _ => 0)) 55 11 56) 57 5) 55 12 57) 63 (fun _ => 0)) 55 13 63) 64 (fun _ => 0)) 55 14 64) 65 (fun _ => 0)) 55 15 65)
theorem i_X0_init_55 {d : Nat} {h : zH} (hd : 2 ≤ d) : zMet d 10 76 mX0_init [zA 55] (TTl.take 56, false) h (fun rv T' h' => rv = none ∧ T' = (TTl.take 66, false) ∧ h' = iH_X0_init_55 h) := by
  refine zMet.of rfl rfl (Nat.le_of_ble_eq_true rfl) ?_
  refine zS_aload_n (zdec eX0_init 0 rfl) rfl rfl ?_
  refine zS_objInit (zdec eX0_init 1 rfl) (zt1 38 rfl rfl) kO_i kO_c (by decide) rfl (by show 1 ≤ d; omega) ?_
  refine zS_aload_n (zdec eX0_init 2 rfl) rfl rfl ?_
  refine zS_iconst (zdec eX0_init 3 rfl) rfl ?_
  refine zS_newarray (t := 21) (n := 4) (kk := 56) (T' := (TTl.take 57, false)) (rn := (d, 1, 4, 10, 76)) (zdec eX0_init 4 rfl) (Or.inr (Or.inl ⟨rfl, rfl⟩)) kA_int rfl rfl rfl rfl rfl rfl ?_
  refine zS_putfield (x := 11) (zdec eX0_init 5 rfl) kF_X0_9 (Or.inr ⟨kf0_11, rfl, fun q z => by cases z; rfl⟩) ⟨by decide, rfl⟩ rfl rfl rfl (Or.inr rfl) ?_
  refine zS_aload_n (zdec eX0_init 6 rfl) rfl rfl ?_
  refine zS_iconst (zdec eX0_init 7 rfl) rfl ?_
  refine zS_bipush (zdec eX0_init 8 rfl) rfl rfl ?_
  refine zS_multi (ty := .int) (t := 25) (t1 := 21) (n := 5) (w := 7) (kk := 57) (T' := (TTl.take 63, false)) (rn := (d, 7, 44, 10, 76)) (zdec eX0_init 9 rfl) (Or.inl ⟨rfl, rfl, rfl⟩) (zt1 39 rfl rfl) kA_int rfl rfl rfl rfl rfl rfl rfl ?_
  refine zS_putfield (x := 12) (zdec eX0_init 10 rfl) kF_X0_17 (Or.inr ⟨kf0_12, rfl, fun q z => by cases z; rfl⟩) ⟨by decide, rfl⟩ rfl rfl rfl (Or.inr rfl) ?_
  refine zS_aload_n (zdec eX0_init 11 rfl) rfl rfl ?_
  refine zS_bipush (zdec eX0_init 12 rfl) rfl rfl ?_
  refine zS_newarray (t := 21) (n := 6) (kk := 63) (T' := (TTl.take 64, false)) (rn := (d, 8, 50, 10, 76)) (zdec eX0_init 13 rfl) (Or.inr (Or.inl ⟨rfl, rfl⟩)) kA_int rfl rfl rfl rfl rfl rfl ?_
  refine zS_putfield (x := 13) (zdec eX0_init 14 rfl) kF_X0_20 (Or.inr ⟨kf0_13, rfl, fun q z => by cases z; rfl⟩) ⟨by decide, rfl⟩ rfl rfl rfl (Or.inr rfl) ?_
  refine zS_aload_n (zdec eX0_init 15 rfl) rfl rfl ?_
  refine zS_bipush (zdec eX0_init 16 rfl) rfl rfl ?_
  refine zS_newarray (t := 21) (n := 6) (kk := 64) (T' := (TTl.take 65, false)) (rn := (d, 9, 56, 10, 76)) (zdec eX0_init 17 rfl) (Or.inr (Or.inl ⟨rfl, rfl⟩)) kA_int rfl rfl rfl rfl rfl rfl ?_
  refine zS_putfield (x := 14) (zdec eX0_init 18 rfl) kF_X0_23 (Or.inr ⟨kf0_14, rfl, fun q z => by cases z; rfl⟩) ⟨by decide, rfl⟩ rfl rfl rfl (Or.inr rfl) ?_
  refine zS_aload_n (zdec eX0_init 19 rfl) rfl rfl ?_
  refine zS_bipush (zdec eX0_init 20 rfl) rfl rfl ?_
  refine zS_newarray (t := 21) (n := 20) (kk := 65) (T' := (TTl.take 66, false)) (rn := (d, 10, 76, 10, 76)) (zdec eX0_init 21 rfl) (Or.inr (Or.inl ⟨rfl, rfl⟩)) kA_int rfl rfl rfl rfl rfl rfl ?_
  refine zS_putfield (x := 15) (zdec eX0_init 22 rfl) kF_X0_26 (Or.inr ⟨kf0_15, rfl, fun q z => by cases z; rfl⟩) ⟨by decide, rfl⟩ rfl rfl rfl (Or.inr rfl) ?_
  exact zS_return (zdec eX0_init 23 rfl) rfl ⟨Nat.le_of_ble_eq_true rfl, Nat.le_of_ble_eq_true rfl⟩ ⟨rfl, rfl, rfl⟩
def iH_X7_init_1 (h : zH) : zH := (zset (zset (iH_X0_init_3 (zrow (zset (zrow h 2 (fun _ => 0)) 1 0 2) 3 (zdf 0))) 1 1 3) 1 4 (-1))
set_option maxRecDepth 20000 in
theorem i_X7_init_1 {d : Nat} {h : zH} (hd : 4 ≤ d) : zMet d 12 792 mX7_init [zA 1] (TTl.take 2, false) h (fun rv T' h' => rv = none ∧ T' = (TTl.take 14, false) ∧ h' = iH_X7_init_1 h) := by
  refine zMet.of rfl rfl (Nat.le_of_ble_eq_true rfl) ?_
  refine zS_aload_n (zdec eX7_init 0 rfl) rfl rfl ?_
  refine zS_objInit (zdec eX7_init 1 rfl) (zt1 32 rfl rfl) kO_i kO_c (by decide) rfl (by show 1 ≤ d; omega) ?_
  refine zS_aload_n (zdec eX7_init 2 rfl) rfl rfl ?_
  refine zS_sipush (zdec eX7_init 3 rfl) rfl rfl ?_
  refine zS_newarray (t := 20) (n := 700) (kk := 2) (T' := (TTl.take 3, false)) (rn := (d, 1, 700, 12, 792)) (zdec eX7_init 4 rfl) (Or.inl ⟨rfl, rfl⟩) kA_byte rfl rfl rfl rfl rfl rfl ?_
  refine zS_putfield (x := 0) (zdec eX7_init 5 rfl) kF_X7_9 (Or.inr ⟨kf7_0, rfl, fun q z => by cases z; rfl⟩) ⟨by decide, rfl⟩ rfl rfl rfl (Or.inr rfl) ?_
  refine zS_aload_n (zdec eX7_init 6 rfl) rfl rfl ?_
  refine zS_new (n := 16) (kk := 3) (T' := (TTl.take 4, false)) (rn := (d, 2, 716, 12, 792)) (zdec eX7_init 7 rfl) kC_0 (zt1 33 rfl rfl) kQ_0 kI_X0 rfl kz_0 rfl rfl rfl rfl rfl ?_
  refine zS_dup (zdec eX7_init 8 rfl) (fun q => by cases q) ?_
  refine zS_ctorV (M' := mX0_init) (T1 := (TTl.take 14, false)) (h1 := iH_X0_init_3 (zrow (zset (zrow h 2 (fun _ => 0)) 1 0 2) 3 (zdf 0))) (rn := (d, 12, 792, 12, 792)) (zdec eX7_init 9 rfl) kM_X7_17 kN_X0_init rfl rfl (by show d - 1 + 1 ≤ d; omega) (i_X0_init_3 (by omega)) rfl rfl ?_
  refine zS_putfield (x := 1) (zdec eX7_init 10 rfl) kF_X7_18 (Or.inr ⟨kf7_1, rfl, fun q z => by cases z; rfl⟩) ⟨by decide, rfl⟩ rfl rfl rfl (Or.inr rfl) ?_
  refine zS_aload_n (zdec eX7_init 11 rfl) rfl rfl ?_
  refine zS_iconst (zdec eX7_init 12 rfl) rfl ?_
  refine zS_putfield (x := 4) (zdec eX7_init 13 rfl) kF_X7_22 (Or.inl kf7_4) ⟨by decide, rfl⟩ rfl rfl rfl (Or.inr rfl) ?_
  exact zS_return (zdec eX7_init 14 rfl) rfl ⟨Nat.le_of_ble_eq_true rfl, Nat.le_of_ble_eq_true rfl⟩ ⟨rfl, rfl, rfl⟩
def iH_X8_init_14 (h : zH) : zH := (zset (zrow (zset (zrow (zset (zrow (zset (zrow (zset (zrow (zset (zrow (zset (iH_X0_init_15 (zrow h 15 (zdf 0))) 14 0 15) 26 (fun _ => 0)) 14 7 26) 27 (fun _ => 0)) 14 8 27) 28 (fun _ => 0)) 14 9 28) 29 (fun _ => 0)) 14 10 29) 30 (fun _ => 0)) 14 12 30) 31 (fun _ => 0)) 14 13 31)
theorem i_X8_init_14 {d : Nat} {h : zH} (hd : 4 ≤ d) : zMet d 17 126 mX8_init [zA 14] (TTl.take 15, false) h (fun rv T' h' => rv = none ∧ T' = (TTl.take 32, false) ∧ h' = iH_X8_init_14 h) := by
  refine zMet.of rfl rfl (Nat.le_of_ble_eq_true rfl) ?_
  refine zS_aload_n (zdec eX8_init 0 rfl) rfl rfl ?_
  refine zS_objInit (zdec eX8_init 1 rfl) (zt1 172 rfl rfl) kO_i kO_c (by decide) rfl (by show 1 ≤ d; omega) ?_
  refine zS_aload_n (zdec eX8_init 2 rfl) rfl rfl ?_
  refine zS_new (n := 16) (kk := 15) (T' := (TTl.take 16, false)) (rn := (d, 1, 16, 17, 126)) (zdec eX8_init 3 rfl) kC_0 (zt1 173 rfl rfl) kQ_0 kI_X0 rfl kz_0 rfl rfl rfl rfl rfl ?_
  refine zS_dup (zdec eX8_init 4 rfl) (fun q => by cases q) ?_
  refine zS_ctorV (M' := mX0_init) (T1 := (TTl.take 26, false)) (h1 := iH_X0_init_15 (zrow h 15 (zdf 0))) (rn := (d, 11, 92, 17, 126)) (zdec eX8_init 5 rfl) kM_X8_11 kN_X0_init rfl rfl (by show d - 1 + 1 ≤ d; omega) (i_X0_init_15 (by omega)) rfl rfl ?_
  refine zS_putfield (x := 0) (zdec eX8_init 6 rfl) kF_X8_12 (Or.inr ⟨kf8_0, rfl, fun q z => by cases z; rfl⟩) ⟨by decide, rfl⟩ rfl rfl rfl (Or.inr rfl) ?_
  refine zS_aload_n (zdec eX8_init 7 rfl) rfl rfl ?_
  refine zS_iconst (zdec eX8_init 8 rfl) rfl ?_
  refine zS_newarray (t := 21) (n := 5) (kk := 26) (T' := (TTl.take 27, false)) (rn := (d, 12, 97, 17, 126)) (zdec eX8_init 9 rfl) (Or.inr (Or.inl ⟨rfl, rfl⟩)) kA_int rfl rfl rfl rfl rfl rfl ?_
  refine zS_putfield (x := 7) (zdec eX8_init 10 rfl) kF_X8_18 (Or.inr ⟨kf8_7, rfl, fun q z => by cases z; rfl⟩) ⟨by decide, rfl⟩ rfl rfl rfl (Or.inr rfl) ?_
  refine zS_aload_n (zdec eX8_init 11 rfl) rfl rfl ?_
  refine zS_iconst (zdec eX8_init 12 rfl) rfl ?_
  refine zS_newarray (t := 21) (n := 5) (kk := 27) (T' := (TTl.take 28, false)) (rn := (d, 13, 102, 17, 126)) (zdec eX8_init 13 rfl) (Or.inr (Or.inl ⟨rfl, rfl⟩)) kA_int rfl rfl rfl rfl rfl rfl ?_
  refine zS_putfield (x := 8) (zdec eX8_init 14 rfl) kF_X8_22 (Or.inr ⟨kf8_8, rfl, fun q z => by cases z; rfl⟩) ⟨by decide, rfl⟩ rfl rfl rfl (Or.inr rfl) ?_
  refine zS_aload_n (zdec eX8_init 15 rfl) rfl rfl ?_
  refine zS_iconst (zdec eX8_init 16 rfl) rfl ?_
  refine zS_newarray (t := 21) (n := 5) (kk := 28) (T' := (TTl.take 29, false)) (rn := (d, 14, 107, 17, 126)) (zdec eX8_init 17 rfl) (Or.inr (Or.inl ⟨rfl, rfl⟩)) kA_int rfl rfl rfl rfl rfl rfl ?_
  refine zS_putfield (x := 9) (zdec eX8_init 18 rfl) kF_X8_25 (Or.inr ⟨kf8_9, rfl, fun q z => by cases z; rfl⟩) ⟨by decide, rfl⟩ rfl rfl rfl (Or.inr rfl) ?_
  refine zS_aload_n (zdec eX8_init 19 rfl) rfl rfl ?_
  refine zS_iconst (zdec eX8_init 20 rfl) rfl ?_
  refine zS_newarray (t := 21) (n := 5) (kk := 29) (T' := (TTl.take 30, false)) (rn := (d, 15, 112, 17, 126)) (zdec eX8_init 21 rfl) (Or.inr (Or.inl ⟨rfl, rfl⟩)) kA_int rfl rfl rfl rfl rfl rfl ?_
  refine zS_putfield (x := 10) (zdec eX8_init 22 rfl) kF_X8_28 (Or.inr ⟨kf8_10, rfl, fun q z => by cases z; rfl⟩) ⟨by decide, rfl⟩ rfl rfl rfl (Or.inr rfl) ?_
  refine zS_aload_n (zdec eX8_init 23 rfl) rfl rfl ?_
  refine zS_bipush (zdec eX8_init 24 rfl) rfl rfl ?_
  refine zS_newarray (t := 21) (n := 7) (kk := 30) (T' := (TTl.take 31, false)) (rn := (d, 16, 119, 17, 126)) (zdec eX8_init 25 rfl) (Or.inr (Or.inl ⟨rfl, rfl⟩)) kA_int rfl rfl rfl rfl rfl rfl ?_
  refine zS_putfield (x := 12) (zdec eX8_init 26 rfl) kF_X8_31 (Or.inr ⟨kf8_12, rfl, fun q z => by cases z; rfl⟩) ⟨by decide, rfl⟩ rfl rfl rfl (Or.inr rfl) ?_
  refine zS_aload_n (zdec eX8_init 27 rfl) rfl rfl ?_
  refine zS_bipush (zdec eX8_init 28 rfl) rfl rfl ?_
  refine zS_newarray (t := 21) (n := 7) (kk := 31) (T' := (TTl.take 32, false)) (rn := (d, 17, 126, 17, 126)) (zdec eX8_init 29 rfl) (Or.inr (Or.inl ⟨rfl, rfl⟩)) kA_int rfl rfl rfl rfl rfl rfl ?_
  refine zS_putfield (x := 13) (zdec eX8_init 30 rfl) kF_X8_34 (Or.inr ⟨kf8_13, rfl, fun q z => by cases z; rfl⟩) ⟨by decide, rfl⟩ rfl rfl rfl (Or.inr rfl) ?_
  exact zS_return (zdec eX8_init 31 rfl) rfl ⟨Nat.le_of_ble_eq_true rfl, Nat.le_of_ble_eq_true rfl⟩ ⟨rfl, rfl, rfl⟩
def iH_X3_init_67 (h : zH) : zH := (zset (zset (zset (zset (zset (zrow (zset (zrow (zset (zmul h 68 4) 67 0 68) 73 (fun _ => 0)) 67 1 73) 74 (fun _ => 0)) 67 2 74) 73 0 (-1)) 73 1 (-1)) 73 2 (-1)) 73 3 (-1))
theorem i_X3_init_67 {d : Nat} {h : zH} (hd : 2 ≤ d) : zMet d 7 252 mX3_init [zA 67] (TTl.take 68, false) h (fun rv T' h' => rv = none ∧ T' = (TTl.take 75, false) ∧ h' = iH_X3_init_67 h) := by
  refine zMet.of rfl rfl (Nat.le_of_ble_eq_true rfl) ?_
  refine zS_aload_n (zdec eX3_init 0 rfl) rfl rfl ?_
  refine zS_objInit (zdec eX3_init 1 rfl) (zt2 12 rfl rfl) kO_i kO_c (by decide) rfl (by show 1 ≤ d; omega) ?_
  refine zS_aload_n (zdec eX3_init 2 rfl) rfl rfl ?_
  refine zS_iconst (zdec eX3_init 3 rfl) rfl ?_
  refine zS_bipush (zdec eX3_init 4 rfl) rfl rfl ?_
  refine zS_multi (ty := .long) (t := 26) (t1 := 22) (n := 4) (w := 60) (kk := 68) (T' := (TTl.take 73, false)) (rn := (d, 5, 244, 7, 252)) (zdec eX3_init 5 rfl) (Or.inr ⟨rfl, rfl, rfl⟩) (zt2 13 rfl rfl) kA_long rfl rfl rfl rfl rfl rfl rfl ?_
  refine zS_putfield (x := 0) (zdec eX3_init 6 rfl) kF_X3_11 (Or.inr ⟨kf3_0, rfl, fun q z => by cases z; rfl⟩) ⟨by decide, rfl⟩ rfl rfl rfl (Or.inr rfl) ?_
  refine zS_aload_n (zdec eX3_init 7 rfl) rfl rfl ?_
  refine zS_iconst (zdec eX3_init 8 rfl) rfl ?_
  refine zS_newarray (t := 21) (n := 4) (kk := 73) (T' := (TTl.take 74, false)) (rn := (d, 6, 248, 7, 252)) (zdec eX3_init 9 rfl) (Or.inr (Or.inl ⟨rfl, rfl⟩)) kA_int rfl rfl rfl rfl rfl rfl ?_
  refine zS_putfield (x := 1) (zdec eX3_init 10 rfl) kF_X3_16 (Or.inr ⟨kf3_1, rfl, fun q z => by cases z; rfl⟩) ⟨by decide, rfl⟩ rfl rfl rfl (Or.inr rfl) ?_
  refine zS_aload_n (zdec eX3_init 11 rfl) rfl rfl ?_
  refine zS_iconst (zdec eX3_init 12 rfl) rfl ?_
  refine zS_newarray (t := 21) (n := 4) (kk := 74) (T' := (TTl.take 75, false)) (rn := (d, 7, 252, 7, 252)) (zdec eX3_init 13 rfl) (Or.inr (Or.inl ⟨rfl, rfl⟩)) kA_int rfl rfl rfl rfl rfl rfl ?_
  refine zS_putfield (x := 2) (zdec eX3_init 14 rfl) kF_X3_20 (Or.inr ⟨kf3_2, rfl, fun q z => by cases z; rfl⟩) ⟨by decide, rfl⟩ rfl rfl rfl (Or.inr rfl) ?_
  refine zS_iconst (zdec eX3_init 15 rfl) rfl ?_
  refine zS_istore_n (zdec eX3_init 16 rfl) rfl ?_
  refine zS_iload_n (zdec eX3_init 17 rfl) rfl ?_
  refine zS_iconst (zdec eX3_init 18 rfl) rfl ?_
  refine zS_icmp_ge (tgt := 49) (zdec eX3_init 19 rfl) rfl (fun c => absurd c (by decide)) (fun _ => ?_)
  refine zS_aload_n (zdec eX3_init 20 rfl) rfl rfl ?_
  refine zS_getfieldE (x := 1) (v := 73) (t := 2) (zdec eX3_init 21 rfl) kF_X3_16 ⟨by decide, rfl⟩ rfl rfl rfl rfl ?_
  refine zS_iload_n (zdec eX3_init 22 rfl) rfl ?_
  refine zS_iconst (zdec eX3_init 23 rfl) rfl ?_
  refine zS_iastore (zdec eX3_init 24 rfl) ⟨by decide, rfl⟩ (by decide) (by decide) ?_
  refine zS_iinc (zdec eX3_init 25 rfl) rfl rfl (zR_of rfl) ?_
  refine zS_goto (tgt := 31) (zdec eX3_init 26 rfl) rfl ?_
  refine zS_iload_n (zdec eX3_init 17 rfl) rfl ?_
  refine zS_iconst (zdec eX3_init 18 rfl) rfl ?_
  refine zS_icmp_ge (tgt := 49) (zdec eX3_init 19 rfl) rfl (fun c => absurd c (by decide)) (fun _ => ?_)
  refine zS_aload_n (zdec eX3_init 20 rfl) rfl rfl ?_
  refine zS_getfieldE (x := 1) (v := 73) (t := 2) (zdec eX3_init 21 rfl) kF_X3_16 ⟨by decide, rfl⟩ rfl rfl rfl rfl ?_
  refine zS_iload_n (zdec eX3_init 22 rfl) rfl ?_
  refine zS_iconst (zdec eX3_init 23 rfl) rfl ?_
  refine zS_iastore (zdec eX3_init 24 rfl) ⟨by decide, rfl⟩ (by decide) (by decide) ?_
  refine zS_iinc (zdec eX3_init 25 rfl) rfl rfl (zR_of rfl) ?_
  refine zS_goto (tgt := 31) (zdec eX3_init 26 rfl) rfl ?_
  refine zS_iload_n (zdec eX3_init 17 rfl) rfl ?_
  refine zS_iconst (zdec eX3_init 18 rfl) rfl ?_
  refine zS_icmp_ge (tgt := 49) (zdec eX3_init 19 rfl) rfl (fun c => absurd c (by decide)) (fun _ => ?_)
  refine zS_aload_n (zdec eX3_init 20 rfl) rfl rfl ?_
  refine zS_getfieldE (x := 1) (v := 73) (t := 2) (zdec eX3_init 21 rfl) kF_X3_16 ⟨by decide, rfl⟩ rfl rfl rfl rfl ?_
  refine zS_iload_n (zdec eX3_init 22 rfl) rfl ?_
  refine zS_iconst (zdec eX3_init 23 rfl) rfl ?_
  refine zS_iastore (zdec eX3_init 24 rfl) ⟨by decide, rfl⟩ (by decide) (by decide) ?_
  refine zS_iinc (zdec eX3_init 25 rfl) rfl rfl (zR_of rfl) ?_
  refine zS_goto (tgt := 31) (zdec eX3_init 26 rfl) rfl ?_
  refine zS_iload_n (zdec eX3_init 17 rfl) rfl ?_
  refine zS_iconst (zdec eX3_init 18 rfl) rfl ?_
  refine zS_icmp_ge (tgt := 49) (zdec eX3_init 19 rfl) rfl (fun c => absurd c (by decide)) (fun _ => ?_)
  refine zS_aload_n (zdec eX3_init 20 rfl) rfl rfl ?_
  refine zS_getfieldE (x := 1) (v := 73) (t := 2) (zdec eX3_init 21 rfl) kF_X3_16 ⟨by decide, rfl⟩ rfl rfl rfl rfl ?_
  refine zS_iload_n (zdec eX3_init 22 rfl) rfl ?_
  refine zS_iconst (zdec eX3_init 23 rfl) rfl ?_
  refine zS_iastore (zdec eX3_init 24 rfl) ⟨by decide, rfl⟩ (by decide) (by decide) ?_
  refine zS_iinc (zdec eX3_init 25 rfl) rfl rfl (zR_of rfl) ?_
  refine zS_goto (tgt := 31) (zdec eX3_init 26 rfl) rfl ?_
  refine zS_iload_n (zdec eX3_init 17 rfl) rfl ?_
  refine zS_iconst (zdec eX3_init 18 rfl) rfl ?_
  refine zS_icmp_ge (tgt := 49) (zdec eX3_init 19 rfl) rfl (fun _ => ?_) (fun c => absurd (by decide) c)
  exact zS_return (zdec eX3_init 27 rfl) rfl ⟨Nat.le_of_ble_eq_true rfl, Nat.le_of_ble_eq_true rfl⟩ ⟨rfl, rfl, rfl⟩
def iH_X4_init_75 (h : zH) : zH := (zset (zrow (zset (zrow (zset (zrow h 76 (fun _ => 0)) 75 0 76) 77 (fun _ => 0)) 75 1 77) 78 (fun _ => 0)) 75 2 78)
theorem i_X4_init_75 {d : Nat} {h : zH} (hd : 2 ≤ d) : zMet d 3 16 mX4_init [zA 75] (TTl.take 76, false) h (fun rv T' h' => rv = none ∧ T' = (TTl.take 79, false) ∧ h' = iH_X4_init_75 h) := by
  refine zMet.of rfl rfl (Nat.le_of_ble_eq_true rfl) ?_
  refine zS_aload_n (zdec eX4_init 0 rfl) rfl rfl ?_
  refine zS_objInit (zdec eX4_init 1 rfl) (zt2 37 rfl rfl) kO_i kO_c (by decide) rfl (by show 1 ≤ d; omega) ?_
  refine zS_aload_n (zdec eX4_init 2 rfl) rfl rfl ?_
  refine zS_iconst (zdec eX4_init 3 rfl) rfl ?_
  refine zS_newarray (t := 21) (n := 5) (kk := 76) (T' := (TTl.take 77, false)) (rn := (d, 1, 5, 3, 16)) (zdec eX4_init 4 rfl) (Or.inr (Or.inl ⟨rfl, rfl⟩)) kA_int rfl rfl rfl rfl rfl rfl ?_
  refine zS_putfield (x := 0) (zdec eX4_init 5 rfl) kF_X4_9 (Or.inr ⟨kf4_0, rfl, fun q z => by cases z; rfl⟩) ⟨by decide, rfl⟩ rfl rfl rfl (Or.inr rfl) ?_
  refine zS_aload_n (zdec eX4_init 6 rfl) rfl rfl ?_
  refine zS_iconst (zdec eX4_init 7 rfl) rfl ?_
  refine zS_newarray (t := 21) (n := 5) (kk := 77) (T' := (TTl.take 78, false)) (rn := (d, 2, 10, 3, 16)) (zdec eX4_init 8 rfl) (Or.inr (Or.inl ⟨rfl, rfl⟩)) kA_int rfl rfl rfl rfl rfl rfl ?_
  refine zS_putfield (x := 1) (zdec eX4_init 9 rfl) kF_X4_15 (Or.inr ⟨kf4_1, rfl, fun q z => by cases z; rfl⟩) ⟨by decide, rfl⟩ rfl rfl rfl (Or.inr rfl) ?_
  refine zS_aload_n (zdec eX4_init 10 rfl) rfl rfl ?_
  refine zS_bipush (zdec eX4_init 11 rfl) rfl rfl ?_
  refine zS_newarray (t := 21) (n := 6) (kk := 78) (T' := (TTl.take 79, false)) (rn := (d, 3, 16, 3, 16)) (zdec eX4_init 12 rfl) (Or.inr (Or.inl ⟨rfl, rfl⟩)) kA_int rfl rfl rfl rfl rfl rfl ?_
  refine zS_putfield (x := 2) (zdec eX4_init 13 rfl) kF_X4_18 (Or.inr ⟨kf4_2, rfl, fun q z => by cases z; rfl⟩) ⟨by decide, rfl⟩ rfl rfl rfl (Or.inr rfl) ?_
  exact zS_return (zdec eX4_init 14 rfl) rfl ⟨Nat.le_of_ble_eq_true rfl, Nat.le_of_ble_eq_true rfl⟩ ⟨rfl, rfl, rfl⟩
def iH_X5_init_79 (h : zH) : zH := (zset (zmul (zset (zrow h 80 (fun _ => 0)) 79 0 80) 81 21) 79 1 81)
theorem i_X5_init_79 {d : Nat} {h : zH} (hd : 2 ≤ d) : zMet d 23 147 mX5_init [zA 79] (TTl.take 80, false) h (fun rv T' h' => rv = none ∧ T' = (TTl.take 103, false) ∧ h' = iH_X5_init_79 h) := by
  refine zMet.of rfl rfl (Nat.le_of_ble_eq_true rfl) ?_
  refine zS_aload_n (zdec eX5_init 0 rfl) rfl rfl ?_
  refine zS_objInit (zdec eX5_init 1 rfl) (zt2 63 rfl rfl) kO_i kO_c (by decide) rfl (by show 1 ≤ d; omega) ?_
  refine zS_aload_n (zdec eX5_init 2 rfl) rfl rfl ?_
  refine zS_bipush (zdec eX5_init 3 rfl) rfl rfl ?_
  refine zS_newarray (t := 23) (n := 21) (kk := 80) (T' := (TTl.take 81, false)) (rn := (d, 1, 21, 23, 147)) (zdec eX5_init 4 rfl) (Or.inr (Or.inr (Or.inr ⟨rfl, rfl⟩))) kA_boolean rfl rfl rfl rfl rfl rfl ?_
  refine zS_putfield (x := 0) (zdec eX5_init 5 rfl) kF_X5_9 (Or.inr ⟨kf5_0, rfl, fun q z => by cases z; rfl⟩) ⟨by decide, rfl⟩ rfl rfl rfl (Or.inr rfl) ?_
  refine zS_aload_n (zdec eX5_init 6 rfl) rfl rfl ?_
  refine zS_bipush (zdec eX5_init 7 rfl) rfl rfl ?_
  refine zS_iconst (zdec eX5_init 8 rfl) rfl ?_
  refine zS_multi (ty := .int) (t := 25) (t1 := 21) (n := 21) (w := 5) (kk := 81) (T' := (TTl.take 103, false)) (rn := (d, 23, 147, 23, 147)) (zdec eX5_init 9 rfl) (Or.inl ⟨rfl, rfl, rfl⟩) (zt2 64 rfl rfl) kA_int rfl rfl rfl rfl rfl rfl rfl ?_
  refine zS_putfield (x := 1) (zdec eX5_init 10 rfl) kF_X5_17 (Or.inr ⟨kf5_1, rfl, fun q z => by cases z; rfl⟩) ⟨by decide, rfl⟩ rfl rfl rfl (Or.inr rfl) ?_
  exact zS_return (zdec eX5_init 11 rfl) rfl ⟨Nat.le_of_ble_eq_true rfl, Nat.le_of_ble_eq_true rfl⟩ ⟨rfl, rfl, rfl⟩
def iH_X6_init_103 (h : zH) : zH := h
theorem i_X6_init_103 {d : Nat} {h : zH} (hd : 2 ≤ d) : zMet d 0 0 mX6_init [zA 103] (TTl.take 104, false) h (fun rv T' h' => rv = none ∧ T' = (TTl.take 104, false) ∧ h' = iH_X6_init_103 h) := by
  refine zMet.of rfl rfl (Nat.le_of_ble_eq_true rfl) ?_
  refine zS_aload_n (zdec eX6_init 0 rfl) rfl rfl ?_
  refine zS_objInit (zdec eX6_init 1 rfl) (zt2 80 rfl rfl) kO_i kO_c (by decide) rfl (by show 1 ≤ d; omega) ?_
  exact zS_return (zdec eX6_init 2 rfl) rfl ⟨Nat.le_of_ble_eq_true rfl, Nat.le_of_ble_eq_true rfl⟩ ⟨rfl, rfl, rfl⟩
def iH_X1_init_104 (h : zH) : zH := (zset (zrow (zset (zrow h 105 (fun _ => 0)) 104 0 105) 106 (fun _ => 0)) 104 1 106)
theorem i_X1_init_104 {d : Nat} {h : zH} (hd : 2 ≤ d) : zMet d 2 8 mX1_init [zA 104] (TTl.take 105, false) h (fun rv T' h' => rv = none ∧ T' = (TTl.take 107, false) ∧ h' = iH_X1_init_104 h) := by
  refine zMet.of rfl rfl (Nat.le_of_ble_eq_true rfl) ?_
  refine zS_aload_n (zdec eX1_init 0 rfl) rfl rfl ?_
  refine zS_objInit (zdec eX1_init 1 rfl) (zt2 95 rfl rfl) kO_i kO_c (by decide) rfl (by show 1 ≤ d; omega) ?_
  refine zS_aload_n (zdec eX1_init 2 rfl) rfl rfl ?_
  refine zS_iconst (zdec eX1_init 3 rfl) rfl ?_
  refine zS_newarray (t := 21) (n := 4) (kk := 105) (T' := (TTl.take 106, false)) (rn := (d, 1, 4, 2, 8)) (zdec eX1_init 4 rfl) (Or.inr (Or.inl ⟨rfl, rfl⟩)) kA_int rfl rfl rfl rfl rfl rfl ?_
  refine zS_putfield (x := 0) (zdec eX1_init 5 rfl) kF_X1_11 (Or.inr ⟨kf1_0, rfl, fun q z => by cases z; rfl⟩) ⟨by decide, rfl⟩ rfl rfl rfl (Or.inr rfl) ?_
  refine zS_aload_n (zdec eX1_init 6 rfl) rfl rfl ?_
  refine zS_iconst (zdec eX1_init 7 rfl) rfl ?_
  refine zS_newarray (t := 21) (n := 4) (kk := 106) (T' := (TTl.take 107, false)) (rn := (d, 2, 8, 2, 8)) (zdec eX1_init 8 rfl) (Or.inr (Or.inl ⟨rfl, rfl⟩)) kA_int rfl rfl rfl rfl rfl rfl ?_
  refine zS_putfield (x := 1) (zdec eX1_init 9 rfl) kF_X1_15 (Or.inr ⟨kf1_1, rfl, fun q z => by cases z; rfl⟩) ⟨by decide, rfl⟩ rfl rfl rfl (Or.inr rfl) ?_
  exact zS_return (zdec eX1_init 10 rfl) rfl ⟨Nat.le_of_ble_eq_true rfl, Nat.le_of_ble_eq_true rfl⟩ ⟨rfl, rfl, rfl⟩
def iH_X2_init_107 (h : zH) : zH := h
theorem i_X2_init_107 {d : Nat} {h : zH} (hd : 2 ≤ d) : zMet d 0 0 mX2_init [zA 107] (TTl.take 108, false) h (fun rv T' h' => rv = none ∧ T' = (TTl.take 108, false) ∧ h' = iH_X2_init_107 h) := by
  refine zMet.of rfl rfl (Nat.le_of_ble_eq_true rfl) ?_
  refine zS_aload_n (zdec eX2_init 0 rfl) rfl rfl ?_
  refine zS_objInit (zdec eX2_init 1 rfl) (zt2 108 rfl rfl) kO_i kO_c (by decide) rfl (by show 1 ≤ d; omega) ?_
  exact zS_return (zdec eX2_init 2 rfl) rfl ⟨Nat.le_of_ble_eq_true rfl, Nat.le_of_ble_eq_true rfl⟩ ⟨rfl, rfl, rfl⟩
def iH_X9_init_0 (h : zH) : zH := (zset (iH_X2_init_107 (zrow (zset (iH_X1_init_104 (zrow (zset (iH_X6_init_103 (zrow (zset (iH_X5_init_79 (zrow (zset (iH_X4_init_75 (zrow (zset (iH_X3_init_67 (zrow (zset (zrow (zset (iH_X0_init_55 (zrow (zset (iH_X0_init_44 (zrow (zset (iH_X0_init_33 (zrow (zset (zrow (zset (zset (iH_X8_init_14 (zrow (zset (iH_X7_init_1 (zrow h 1 (zdf 7))) 0 0 1) 14 (zdf 8))) 0 1 14) 0 2 15) 32 (fun _ => -1)) 0 3 32) 33 (zdf 0))) 32 0 33) 44 (zdf 0))) 32 1 44) 55 (zdf 0))) 32 2 55) 66 (fun _ => 0)) 0 4 66) 67 (zdf 3))) 0 5 67) 75 (zdf 4))) 0 6 75) 79 (zdf 5))) 0 7 79) 103 (zdf 6))) 0 8 103) 104 (zdf 1))) 0 9 104) 107 (zdf 2))) 0 10 107)
set_option maxRecDepth 20000 in
theorem i_X9_init_0 {d : Nat} {h : zH} (hd : 6 ≤ d) : zMet d 107 1665 mX9_init [zA 0] (TTl.take 1, false) h (fun rv T' h' => rv = none ∧ T' = (TTl.take 108, false) ∧ h' = iH_X9_init_0 h) := by
  refine zMet.of rfl rfl (Nat.le_of_ble_eq_true rfl) ?_
  refine zS_aload_n (zdec eX9_init 0 rfl) rfl rfl ?_
  refine zS_objInit (zdec eX9_init 1 rfl) (zt1 24 rfl rfl) kO_i kO_c (by decide) rfl (by show 1 ≤ d; omega) ?_
  refine zS_aload_n (zdec eX9_init 2 rfl) rfl rfl ?_
  refine zS_new (n := 9) (kk := 1) (T' := (TTl.take 2, false)) (rn := (d, 1, 9, 107, 1665)) (zdec eX9_init 3 rfl) kC_7 (zt1 27 rfl rfl) kQ_7 kI_X7 rfl kz_7 rfl rfl rfl rfl rfl ?_
  refine zS_dup (zdec eX9_init 4 rfl) (fun q => by cases q) ?_
  refine zS_ctorV (M' := mX7_init) (T1 := (TTl.take 14, false)) (h1 := iH_X7_init_1 (zrow h 1 (zdf 7))) (rn := (d, 13, 801, 107, 1665)) (zdec eX9_init 5 rfl) kM_X9_9 kN_X7_init rfl rfl (by show d - 1 + 1 ≤ d; omega) (i_X7_init_1 (by omega)) rfl rfl ?_
  refine zS_putfield (x := 0) (zdec eX9_init 6 rfl) kF_X9_10 (Or.inr ⟨kf9_0, rfl, fun q z => by cases z; rfl⟩) ⟨by decide, rfl⟩ rfl rfl rfl (Or.inr rfl) ?_
  refine zS_aload_n (zdec eX9_init 7 rfl) rfl rfl ?_
  refine zS_new (n := 15) (kk := 14) (T' := (TTl.take 15, false)) (rn := (d, 14, 816, 107, 1665)) (zdec eX9_init 8 rfl) kC_8 (zt1 167 rfl rfl) kQ_8 kI_X8 rfl kz_8 rfl rfl rfl rfl rfl ?_
  refine zS_dup (zdec eX9_init 9 rfl) (fun q => by cases q) ?_
  refine zS_ctorV (M' := mX8_init) (T1 := (TTl.take 32, false)) (h1 := iH_X8_init_14 (zrow (zset (iH_X7_init_1 (zrow h 1 (zdf 7))) 0 0 1) 14 (zdf 8))) (rn := (d, 31, 942, 107, 1665)) (zdec eX9_init 10 rfl) kM_X9_18 kN_X8_init rfl rfl (by show d - 1 + 1 ≤ d; omega) (i_X8_init_14 (by omega)) rfl rfl ?_
  refine zS_putfield (x := 1) (zdec eX9_init 11 rfl) kF_X9_19 (Or.inr ⟨kf9_1, rfl, fun q z => by cases z; rfl⟩) ⟨by decide, rfl⟩ rfl rfl rfl (Or.inr rfl) ?_
  refine zS_aload_n (zdec eX9_init 12 rfl) rfl rfl ?_
  refine zS_aload_n (zdec eX9_init 13 rfl) rfl rfl ?_
  refine zS_getfieldE (x := 1) (v := 14) (t := 2) (zdec eX9_init 14 rfl) kF_X9_19 ⟨by decide, rfl⟩ rfl rfl rfl rfl ?_
  refine zS_getfieldE (x := 0) (v := 15) (t := 2) (zdec eX9_init 15 rfl) kF_X9_23 ⟨by decide, rfl⟩ rfl rfl rfl rfl ?_
  refine zS_putfield (x := 2) (zdec eX9_init 16 rfl) kF_X9_27 (Or.inr ⟨kf9_2, rfl, fun q z => by cases z; rfl⟩) ⟨by decide, rfl⟩ rfl rfl rfl (Or.inr rfl) ?_
  refine zS_aload_n (zdec eX9_init 17 rfl) rfl rfl ?_
  refine zS_iconst (zdec eX9_init 18 rfl) rfl ?_
  refine zS_anewD (n := 3) (kk := 32) (T' := (TTl.take 33, false)) (rn := (d, 32, 945, 107, 1665)) (zdec eX9_init 19 rfl) (zt2 4 rfl rfl) rfl rfl rfl rfl rfl rfl ?_
  refine zS_putfield (x := 3) (zdec eX9_init 20 rfl) kF_X9_30 (Or.inr ⟨kf9_3, rfl, fun q z => by cases z; rfl⟩) ⟨by decide, rfl⟩ rfl rfl rfl (Or.inr rfl) ?_
  refine zS_iconst (zdec eX9_init 21 rfl) rfl ?_
  refine zS_istore_n (zdec eX9_init 22 rfl) rfl ?_
  refine zS_iload_n (zdec eX9_init 23 rfl) rfl ?_
  refine zS_iconst (zdec eX9_init 24 rfl) rfl ?_
  refine zS_icmp_ge (tgt := 71) (zdec eX9_init 25 rfl) rfl (fun c => absurd c (by decide)) (fun _ => ?_)
  refine zS_aload_n (zdec eX9_init 26 rfl) rfl rfl ?_
  refine zS_getfieldE (x := 3) (v := 32) (t := 2) (zdec eX9_init 27 rfl) kF_X9_30 ⟨by decide, rfl⟩ rfl rfl rfl rfl ?_
  refine zS_iload_n (zdec eX9_init 28 rfl) rfl ?_
  refine zS_new (n := 16) (kk := 33) (T' := (TTl.take 34, false)) (rn := (d, 33, 961, 107, 1665)) (zdec eX9_init 29 rfl) kC_0 (zt2 4 rfl rfl) kQ_0 kI_X0 rfl kz_0 rfl rfl rfl rfl rfl ?_
  refine zS_dup (zdec eX9_init 30 rfl) (fun q => by cases q) ?_
  refine zS_ctorV (M' := mX0_init) (T1 := (TTl.take 44, false)) (h1 := iH_X0_init_33 (zrow (zset (zrow (zset (zset (iH_X8_init_14 (zrow (zset (iH_X7_init_1 (zrow h 1 (zdf 7))) 0 0 1) 14 (zdf 8))) 0 1 14) 0 2 15) 32 (fun _ => -1)) 0 3 32) 33 (zdf 0))) (rn := (d, 43, 1037, 107, 1665)) (zdec eX9_init 31 rfl) kM_X9_34 kN_X0_init rfl rfl (by show d - 1 + 1 ≤ d; omega) (i_X0_init_33 (by omega)) rfl rfl ?_
  refine zS_aastoreD (zdec eX9_init 32 rfl) ⟨by decide, rfl⟩ ⟨by decide, rfl⟩ (by decide) (by decide) rfl ?_
  refine zS_iinc (zdec eX9_init 33 rfl) rfl rfl (zR_of rfl) ?_
  refine zS_goto (tgt := 47) (zdec eX9_init 34 rfl) rfl ?_
  refine zS_iload_n (zdec eX9_init 23 rfl) rfl ?_
  refine zS_iconst (zdec eX9_init 24 rfl) rfl ?_
  refine zS_icmp_ge (tgt := 71) (zdec eX9_init 25 rfl) rfl (fun c => absurd c (by decide)) (fun _ => ?_)
  refine zS_aload_n (zdec eX9_init 26 rfl) rfl rfl ?_
  refine zS_getfieldE (x := 3) (v := 32) (t := 2) (zdec eX9_init 27 rfl) kF_X9_30 ⟨by decide, rfl⟩ rfl rfl rfl rfl ?_
  refine zS_iload_n (zdec eX9_init 28 rfl) rfl ?_
  refine zS_new (n := 16) (kk := 44) (T' := (TTl.take 45, false)) (rn := (d, 44, 1053, 107, 1665)) (zdec eX9_init 29 rfl) kC_0 (zt2 4 rfl rfl) kQ_0 kI_X0 rfl kz_0 rfl rfl rfl rfl rfl ?_
  refine zS_dup (zdec eX9_init 30 rfl) (fun q => by cases q) ?_
  refine zS_ctorV (M' := mX0_init) (T1 := (TTl.take 55, false)) (h1 := iH_X0_init_44 (zrow (zset (iH_X0_init_33 (zrow (zset (zrow (zset (zset (iH_X8_init_14 (zrow (zset (iH_X7_init_1 (zrow h 1 (zdf 7))) 0 0 1) 14 (zdf 8))) 0 1 14) 0 2 15) 32 (fun _ => -1)) 0 3 32) 33 (zdf 0))) 32 0 33) 44 (zdf 0))) (rn := (d, 54, 1129, 107, 1665)) (zdec eX9_init 31 rfl) kM_X9_34 kN_X0_init rfl rfl (by show d - 1 + 1 ≤ d; omega) (i_X0_init_44 (by omega)) rfl rfl ?_
  refine zS_aastoreD (zdec eX9_init 32 rfl) ⟨by decide, rfl⟩ ⟨by decide, rfl⟩ (by decide) (by decide) rfl ?_
  refine zS_iinc (zdec eX9_init 33 rfl) rfl rfl (zR_of rfl) ?_
  refine zS_goto (tgt := 47) (zdec eX9_init 34 rfl) rfl ?_
  refine zS_iload_n (zdec eX9_init 23 rfl) rfl ?_
  refine zS_iconst (zdec eX9_init 24 rfl) rfl ?_
  refine zS_icmp_ge (tgt := 71) (zdec eX9_init 25 rfl) rfl (fun c => absurd c (by decide)) (fun _ => ?_)
  refine zS_aload_n (zdec eX9_init 26 rfl) rfl rfl ?_
  refine zS_getfieldE (x := 3) (v := 32) (t := 2) (zdec eX9_init 27 rfl) kF_X9_30 ⟨by decide, rfl⟩ rfl rfl rfl rfl ?_
  refine zS_iload_n (zdec eX9_init 28 rfl) rfl ?_
  refine zS_new (n := 16) (kk := 55) (T' := (TTl.take 56, false)) (rn := (d, 55, 1145, 107, 1665)) (zdec eX9_init 29 rfl) kC_0 (zt2 4 rfl rfl) kQ_0 kI_X0 rfl kz_0 rfl rfl rfl rfl rfl ?_
  refine zS_dup (zdec eX9_init 30 rfl) (fun q => by cases q) ?_
  refine zS_ctorV (M' := mX0_init) (T1 := (TTl.take 66, false)) (h1 := iH_X0_init_55 (zrow (zset (iH_X0_init_44 (zrow (zset (iH_X0_init_33 (zrow (zset (zrow (zset (zset (iH_X8_init_14 (zrow (zset (iH_X7_init_1 (zrow h 1 (zdf 7))) 0 0 1) 14 (zdf 8))) 0 1 14) 0 2 15) 32 (fun _ => -1)) 0 3 32) 33 (zdf 0))) 32 0 33) 44 (zdf 0))) 32 1 44) 55 (zdf 0))) (rn := (d, 65, 1221, 107, 1665)) (zdec eX9_init 31 rfl) kM_X9_34 kN_X0_init rfl rfl (by show d - 1 + 1 ≤ d; omega) (i_X0_init_55 (by omega)) rfl rfl ?_
  refine zS_aastoreD (zdec eX9_init 32 rfl) ⟨by decide, rfl⟩ ⟨by decide, rfl⟩ (by decide) (by decide) rfl ?_
  refine zS_iinc (zdec eX9_init 33 rfl) rfl rfl (zR_of rfl) ?_
  refine zS_goto (tgt := 47) (zdec eX9_init 34 rfl) rfl ?_
  refine zS_iload_n (zdec eX9_init 23 rfl) rfl ?_
  refine zS_iconst (zdec eX9_init 24 rfl) rfl ?_
  refine zS_icmp_ge (tgt := 71) (zdec eX9_init 25 rfl) rfl (fun _ => ?_) (fun c => absurd (by decide) c)
  refine zS_aload_n (zdec eX9_init 35 rfl) rfl rfl ?_
  refine zS_iconst (zdec eX9_init 36 rfl) rfl ?_
  refine zS_newarray (t := 23) (n := 3) (kk := 66) (T' := (TTl.take 67, false)) (rn := (d, 66, 1224, 107, 1665)) (zdec eX9_init 37 rfl) (Or.inr (Or.inr (Or.inr ⟨rfl, rfl⟩))) kA_boolean rfl rfl rfl rfl rfl rfl ?_
  refine zS_putfield (x := 4) (zdec eX9_init 38 rfl) kF_X9_35 (Or.inr ⟨kf9_4, rfl, fun q z => by cases z; rfl⟩) ⟨by decide, rfl⟩ rfl rfl rfl (Or.inr rfl) ?_
  refine zS_aload_n (zdec eX9_init 39 rfl) rfl rfl ?_
  refine zS_new (n := 3) (kk := 67) (T' := (TTl.take 68, false)) (rn := (d, 67, 1227, 107, 1665)) (zdec eX9_init 40 rfl) kC_3 (zt2 7 rfl rfl) kQ_3 kI_X3 rfl kz_3 rfl rfl rfl rfl rfl ?_
  refine zS_dup (zdec eX9_init 41 rfl) (fun q => by cases q) ?_
  refine zS_ctorV (M' := mX3_init) (T1 := (TTl.take 75, false)) (h1 := iH_X3_init_67 (zrow (zset (zrow (zset (iH_X0_init_55 (zrow (zset (iH_X0_init_44 (zrow (zset (iH_X0_init_33 (zrow (zset (zrow (zset (zset (iH_X8_init_14 (zrow (zset (iH_X7_init_1 (zrow h 1 (zdf 7))) 0 0 1) 14 (zdf 8))) 0 1 14) 0 2 15) 32 (fun _ => -1)) 0 3 32) 33 (zdf 0))) 32 0 33) 44 (zdf 0))) 32 1 44) 55 (zdf 0))) 32 2 55) 66 (fun _ => 0)) 0 4 66) 67 (zdf 3))) (rn := (d, 74, 1479, 107, 1665)) (zdec eX9_init 42 rfl) kM_X9_41 kN_X3_init rfl rfl (by show d - 1 + 1 ≤ d; omega) (i_X3_init_67 (by omega)) rfl rfl ?_
  refine zS_putfield (x := 5) (zdec eX9_init 43 rfl) kF_X9_42 (Or.inr ⟨kf9_5, rfl, fun q z => by cases z; rfl⟩) ⟨by decide, rfl⟩ rfl rfl rfl (Or.inr rfl) ?_
  refine zS_aload_n (zdec eX9_init 44 rfl) rfl rfl ?_
  refine zS_new (n := 6) (kk := 75) (T' := (TTl.take 76, false)) (rn := (d, 75, 1485, 107, 1665)) (zdec eX9_init 45 rfl) kC_4 (zt2 32 rfl rfl) kQ_4 kI_X4 rfl kz_4 rfl rfl rfl rfl rfl ?_
  refine zS_dup (zdec eX9_init 46 rfl) (fun q => by cases q) ?_
  refine zS_ctorV (M' := mX4_init) (T1 := (TTl.take 79, false)) (h1 := iH_X4_init_75 (zrow (zset (iH_X3_init_67 (zrow (zset (zrow (zset (iH_X0_init_55 (zrow (zset (iH_X0_init_44 (zrow (zset (iH_X0_init_33 (zrow (zset (zrow (zset (zset (iH_X8_init_14 (zrow (zset (iH_X7_init_1 (zrow h 1 (zdf 7))) 0 0 1) 14 (zdf 8))) 0 1 14) 0 2 15) 32 (fun _ => -1)) 0 3 32) 33 (zdf 0))) 32 0 33) 44 (zdf 0))) 32 1 44) 55 (zdf 0))) 32 2 55) 66 (fun _ => 0)) 0 4 66) 67 (zdf 3))) 0 5 67) 75 (zdf 4))) (rn := (d, 78, 1501, 107, 1665)) (zdec eX9_init 47 rfl) kM_X9_48 kN_X4_init rfl rfl (by show d - 1 + 1 ≤ d; omega) (i_X4_init_75 (by omega)) rfl rfl ?_
  refine zS_putfield (x := 6) (zdec eX9_init 48 rfl) kF_X9_49 (Or.inr ⟨kf9_6, rfl, fun q z => by cases z; rfl⟩) ⟨by decide, rfl⟩ rfl rfl rfl (Or.inr rfl) ?_
  refine zS_aload_n (zdec eX9_init 49 rfl) rfl rfl ?_
  refine zS_new (n := 3) (kk := 79) (T' := (TTl.take 80, false)) (rn := (d, 79, 1504, 107, 1665)) (zdec eX9_init 50 rfl) kC_5 (zt2 58 rfl rfl) kQ_5 kI_X5 rfl kz_5 rfl rfl rfl rfl rfl ?_
  refine zS_dup (zdec eX9_init 51 rfl) (fun q => by cases q) ?_
  refine zS_ctorV (M' := mX5_init) (T1 := (TTl.take 103, false)) (h1 := iH_X5_init_79 (zrow (zset (iH_X4_init_75 (zrow (zset (iH_X3_init_67 (zrow (zset (zrow (zset (iH_X0_init_55 (zrow (zset (iH_X0_init_44 (zrow (zset (iH_X0_init_33 (zrow (zset (zrow (zset (zset (iH_X8_init_14 (zrow (zset (iH_X7_init_1 (zrow h 1 (zdf 7))) 0 0 1) 14 (zdf 8))) 0 1 14) 0 2 15) 32 (fun _ => -1)) 0 3 32) 33 (zdf 0))) 32 0 33) 44 (zdf 0))) 32 1 44) 55 (zdf 0))) 32 2 55) 66 (fun _ => 0)) 0 4 66) 67 (zdf 3))) 0 5 67) 75 (zdf 4))) 0 6 75) 79 (zdf 5))) (rn := (d, 102, 1651, 107, 1665)) (zdec eX9_init 52 rfl) kM_X9_55 kN_X5_init rfl rfl (by show d - 1 + 1 ≤ d; omega) (i_X5_init_79 (by omega)) rfl rfl ?_
  refine zS_putfield (x := 7) (zdec eX9_init 53 rfl) kF_X9_56 (Or.inr ⟨kf9_7, rfl, fun q z => by cases z; rfl⟩) ⟨by decide, rfl⟩ rfl rfl rfl (Or.inr rfl) ?_
  refine zS_aload_n (zdec eX9_init 54 rfl) rfl rfl ?_
  refine zS_new (n := 2) (kk := 103) (T' := (TTl.take 104, false)) (rn := (d, 103, 1653, 107, 1665)) (zdec eX9_init 55 rfl) kC_6 (zt2 75 rfl rfl) kQ_6 kI_X6 rfl kz_6 rfl rfl rfl rfl rfl ?_
  refine zS_dup (zdec eX9_init 56 rfl) (fun q => by cases q) ?_
  refine zS_ctorNV (M' := mX6_init) (T1 := (TTl.take 104, false)) (h1 := iH_X6_init_103 (zrow (zset (iH_X5_init_79 (zrow (zset (iH_X4_init_75 (zrow (zset (iH_X3_init_67 (zrow (zset (zrow (zset (iH_X0_init_55 (zrow (zset (iH_X0_init_44 (zrow (zset (iH_X0_init_33 (zrow (zset (zrow (zset (zset (iH_X8_init_14 (zrow (zset (iH_X7_init_1 (zrow h 1 (zdf 7))) 0 0 1) 14 (zdf 8))) 0 1 14) 0 2 15) 32 (fun _ => -1)) 0 3 32) 33 (zdf 0))) 32 0 33) 44 (zdf 0))) 32 1 44) 55 (zdf 0))) 32 2 55) 66 (fun _ => 0)) 0 4 66) 67 (zdf 3))) 0 5 67) 75 (zdf 4))) 0 6 75) 79 (zdf 5))) 0 7 79) 103 (zdf 6))) (rn := (d, 103, 1653, 107, 1665)) (zdec eX9_init 57 rfl) rfl (Or.inl ⟨rfl, rfl⟩) kN_X6_init rfl rfl (by show d - 1 + 1 ≤ d; omega) (i_X6_init_103 (by omega)) rfl rfl ?_
  refine zS_putfield (x := 8) (zdec eX9_init 58 rfl) kF_X9_63 (Or.inr ⟨kf9_8, rfl, fun q z => by cases z; rfl⟩) ⟨by decide, rfl⟩ rfl rfl rfl (Or.inr rfl) ?_
  refine zS_aload_n (zdec eX9_init 59 rfl) rfl rfl ?_
  refine zS_new (n := 2) (kk := 104) (T' := (TTl.take 105, false)) (rn := (d, 104, 1655, 107, 1665)) (zdec eX9_init 60 rfl) kC_1 (zt2 90 rfl rfl) kQ_1 kI_X1 rfl kz_1 rfl rfl rfl rfl rfl ?_
  refine zS_dup (zdec eX9_init 61 rfl) (fun q => by cases q) ?_
  refine zS_ctorV (M' := mX1_init) (T1 := (TTl.take 107, false)) (h1 := iH_X1_init_104 (zrow (zset (iH_X6_init_103 (zrow (zset (iH_X5_init_79 (zrow (zset (iH_X4_init_75 (zrow (zset (iH_X3_init_67 (zrow (zset (zrow (zset (iH_X0_init_55 (zrow (zset (iH_X0_init_44 (zrow (zset (iH_X0_init_33 (zrow (zset (zrow (zset (zset (iH_X8_init_14 (zrow (zset (iH_X7_init_1 (zrow h 1 (zdf 7))) 0 0 1) 14 (zdf 8))) 0 1 14) 0 2 15) 32 (fun _ => -1)) 0 3 32) 33 (zdf 0))) 32 0 33) 44 (zdf 0))) 32 1 44) 55 (zdf 0))) 32 2 55) 66 (fun _ => 0)) 0 4 66) 67 (zdf 3))) 0 5 67) 75 (zdf 4))) 0 6 75) 79 (zdf 5))) 0 7 79) 103 (zdf 6))) 0 8 103) 104 (zdf 1))) (rn := (d, 106, 1663, 107, 1665)) (zdec eX9_init 62 rfl) kM_X9_69 kN_X1_init rfl rfl (by show d - 1 + 1 ≤ d; omega) (i_X1_init_104 (by omega)) rfl rfl ?_
  refine zS_putfield (x := 9) (zdec eX9_init 63 rfl) kF_X9_70 (Or.inr ⟨kf9_9, rfl, fun q z => by cases z; rfl⟩) ⟨by decide, rfl⟩ rfl rfl rfl (Or.inr rfl) ?_
  refine zS_aload_n (zdec eX9_init 64 rfl) rfl rfl ?_
  refine zS_new (n := 2) (kk := 107) (T' := (TTl.take 108, false)) (rn := (d, 107, 1665, 107, 1665)) (zdec eX9_init 65 rfl) kC_2 (zt2 103 rfl rfl) kQ_2 kI_X2 rfl kz_2 rfl rfl rfl rfl rfl ?_
  refine zS_dup (zdec eX9_init 66 rfl) (fun q => by cases q) ?_
  refine zS_ctorNV (M' := mX2_init) (T1 := (TTl.take 108, false)) (h1 := iH_X2_init_107 (zrow (zset (iH_X1_init_104 (zrow (zset (iH_X6_init_103 (zrow (zset (iH_X5_init_79 (zrow (zset (iH_X4_init_75 (zrow (zset (iH_X3_init_67 (zrow (zset (zrow (zset (iH_X0_init_55 (zrow (zset (iH_X0_init_44 (zrow (zset (iH_X0_init_33 (zrow (zset (zrow (zset (zset (iH_X8_init_14 (zrow (zset (iH_X7_init_1 (zrow h 1 (zdf 7))) 0 0 1) 14 (zdf 8))) 0 1 14) 0 2 15) 32 (fun _ => -1)) 0 3 32) 33 (zdf 0))) 32 0 33) 44 (zdf 0))) 32 1 44) 55 (zdf 0))) 32 2 55) 66 (fun _ => 0)) 0 4 66) 67 (zdf 3))) 0 5 67) 75 (zdf 4))) 0 6 75) 79 (zdf 5))) 0 7 79) 103 (zdf 6))) 0 8 103) 104 (zdf 1))) 0 9 104) 107 (zdf 2))) (rn := (d, 107, 1665, 107, 1665)) (zdec eX9_init 67 rfl) rfl (Or.inr ⟨rfl, rfl⟩) kN_X2_init rfl rfl (by show d - 1 + 1 ≤ d; omega) (i_X2_init_107 (by omega)) rfl rfl ?_
  refine zS_putfield (x := 10) (zdec eX9_init 68 rfl) kF_X9_77 (Or.inr ⟨kf9_10, rfl, fun q z => by cases z; rfl⟩) ⟨by decide, rfl⟩ rfl rfl rfl (Or.inr rfl) ?_
  exact zS_return (zdec eX9_init 69 rfl) rfl ⟨Nat.le_of_ble_eq_true rfl, Nat.le_of_ble_eq_true rfl⟩ ⟨rfl, rfl, rfl⟩
def iH_X10_init_108 (h : zH) : zH := (zset (zset (zset (zset (zset (zrow (zset (zrow (zset (zrow (zset (zrow (zset (zrow (zset (zrow (zset (zrow (zset (zrow (zset (zrow (zset (zrow (zset (zrow (zset (zrow (zset (zrow (zset (zset (zrow (zset (zrow (zset (zrow (zset (zrow (zset (zrow h 109 (fun _ => 0)) 108 1 109) 110 (fun _ => 0)) 108 2 110) 111 (fun _ => 0)) 108 3 111) 112 (fun _ => 0)) 108 4 112) 113 (fun _ => 0)) 108 5 113) 108 15 (-1)) 114 (fun _ => 0)) 108 16 114) 115 (fun _ => 0)) 108 17 115) 116 (fun _ => 0)) 108 18 116) 117 (fun _ => 0)) 108 19 117) 118 (fun _ => 0)) 108 20 118) 119 (fun _ => 0)) 108 21 119) 120 (fun _ => 0)) 108 22 120) 121 (fun _ => 0)) 108 29 121) 122 (fun _ => 0)) 108 30 122) 123 (fun _ => 0)) 108 31 123) 124 (fun _ => 0)) 108 32 124) 125 (fun _ => 0)) 108 33 125) 126 (fun _ => 0)) 108 42 126) 109 0 (-1)) 109 1 (-1)) 109 2 (-1)) 109 3 (-1))
set_option maxRecDepth 20000 in
theorem i_X10_init_108 {d : Nat} {h : zH} (hd : 2 ≤ d) : zMet d 18 1653 mX10_init [zA 108] (TTl.take 109, false) h (fun rv T' h' => rv = none ∧ T' = (TTl.take 127, false) ∧ h' = iH_X10_init_108 h) := by
  refine zMet.of rfl rfl (Nat.le_of_ble_eq_true rfl) ?_
  refine zS_aload_n (zdec eX10_init 0 rfl) rfl rfl ?_
  refine zS_objInit (zdec eX10_init 1 rfl) (zt6 26 rfl rfl) kO_i kO_c (by decide) rfl (by show 1 ≤ d; omega) ?_
  refine zS_aload_n (zdec eX10_init 2 rfl) rfl rfl ?_
  refine zS_iconst (zdec eX10_init 3 rfl) rfl ?_
  refine zS_newarray (t := 21) (n := 4) (kk := 109) (T' := (TTl.take 110, false)) (rn := (d, 1, 4, 18, 1653)) (zdec eX10_init 4 rfl) (Or.inr (Or.inl ⟨rfl, rfl⟩)) kA_int rfl rfl rfl rfl rfl rfl ?_
  refine zS_putfield (x := 1) (zdec eX10_init 5 rfl) kF_X10_7 (Or.inr ⟨kf10_1, rfl, fun q z => by cases z; rfl⟩) ⟨by decide, rfl⟩ rfl rfl rfl (Or.inr rfl) ?_
  refine zS_aload_n (zdec eX10_init 6 rfl) rfl rfl ?_
  refine zS_iconst (zdec eX10_init 7 rfl) rfl ?_
  refine zS_newarray (t := 21) (n := 4) (kk := 110) (T' := (TTl.take 111, false)) (rn := (d, 2, 8, 18, 1653)) (zdec eX10_init 8 rfl) (Or.inr (Or.inl ⟨rfl, rfl⟩)) kA_int rfl rfl rfl rfl rfl rfl ?_
  refine zS_putfield (x := 2) (zdec eX10_init 9 rfl) kF_X10_13 (Or.inr ⟨kf10_2, rfl, fun q z => by cases z; rfl⟩) ⟨by decide, rfl⟩ rfl rfl rfl (Or.inr rfl) ?_
  refine zS_aload_n (zdec eX10_init 10 rfl) rfl rfl ?_
  refine zS_sipush (zdec eX10_init 11 rfl) rfl rfl ?_
  refine zS_newarray (t := 22) (n := 240) (kk := 111) (T' := (TTl.take 112, false)) (rn := (d, 3, 248, 18, 1653)) (zdec eX10_init 12 rfl) (Or.inr (Or.inr (Or.inl ⟨rfl, rfl⟩))) kA_long rfl rfl rfl rfl rfl rfl ?_
  refine zS_putfield (x := 3) (zdec eX10_init 13 rfl) kF_X10_16 (Or.inr ⟨kf10_3, rfl, fun q z => by cases z; rfl⟩) ⟨by decide, rfl⟩ rfl rfl rfl (Or.inr rfl) ?_
  refine zS_aload_n (zdec eX10_init 14 rfl) rfl rfl ?_
  refine zS_bipush (zdec eX10_init 15 rfl) rfl rfl ?_
  refine zS_newarray (t := 22) (n := 60) (kk := 112) (T' := (TTl.take 113, false)) (rn := (d, 4, 308, 18, 1653)) (zdec eX10_init 16 rfl) (Or.inr (Or.inr (Or.inl ⟨rfl, rfl⟩))) kA_long rfl rfl rfl rfl rfl rfl ?_
  refine zS_putfield (x := 4) (zdec eX10_init 17 rfl) kF_X10_20 (Or.inr ⟨kf10_4, rfl, fun q z => by cases z; rfl⟩) ⟨by decide, rfl⟩ rfl rfl rfl (Or.inr rfl) ?_
  refine zS_aload_n (zdec eX10_init 18 rfl) rfl rfl ?_
  refine zS_sipush (zdec eX10_init 19 rfl) rfl rfl ?_
  refine zS_newarray (t := 20) (n := 700) (kk := 113) (T' := (TTl.take 114, false)) (rn := (d, 5, 1008, 18, 1653)) (zdec eX10_init 20 rfl) (Or.inl ⟨rfl, rfl⟩) kA_byte rfl rfl rfl rfl rfl rfl ?_
  refine zS_putfield (x := 5) (zdec eX10_init 21 rfl) kF_X10_23 (Or.inr ⟨kf10_5, rfl, fun q z => by cases z; rfl⟩) ⟨by decide, rfl⟩ rfl rfl rfl (Or.inr rfl) ?_
  refine zS_aload_n (zdec eX10_init 22 rfl) rfl rfl ?_
  refine zS_iconst (zdec eX10_init 23 rfl) rfl ?_
  refine zS_putfield (x := 15) (zdec eX10_init 24 rfl) kF_X10_27 (Or.inl kf10_15) ⟨by decide, rfl⟩ rfl rfl rfl (Or.inr rfl) ?_
  refine zS_aload_n (zdec eX10_init 25 rfl) rfl rfl ?_
  refine zS_iconst (zdec eX10_init 26 rfl) rfl ?_
  refine zS_newarray (t := 21) (n := 5) (kk := 114) (T' := (TTl.take 115, false)) (rn := (d, 6, 1013, 18, 1653)) (zdec eX10_init 27 rfl) (Or.inr (Or.inl ⟨rfl, rfl⟩)) kA_int rfl rfl rfl rfl rfl rfl ?_
  refine zS_putfield (x := 16) (zdec eX10_init 28 rfl) kF_X10_31 (Or.inr ⟨kf10_16, rfl, fun q z => by cases z; rfl⟩) ⟨by decide, rfl⟩ rfl rfl rfl (Or.inr rfl) ?_
  refine zS_aload_n (zdec eX10_init 29 rfl) rfl rfl ?_
  refine zS_bipush (zdec eX10_init 30 rfl) rfl rfl ?_
  refine zS_newarray (t := 21) (n := 50) (kk := 115) (T' := (TTl.take 116, false)) (rn := (d, 7, 1063, 18, 1653)) (zdec eX10_init 31 rfl) (Or.inr (Or.inl ⟨rfl, rfl⟩)) kA_int rfl rfl rfl rfl rfl rfl ?_
  refine zS_putfield (x := 17) (zdec eX10_init 32 rfl) kF_X10_34 (Or.inr ⟨kf10_17, rfl, fun q z => by cases z; rfl⟩) ⟨by decide, rfl⟩ rfl rfl rfl (Or.inr rfl) ?_
  refine zS_aload_n (zdec eX10_init 33 rfl) rfl rfl ?_
  refine zS_bipush (zdec eX10_init 34 rfl) rfl rfl ?_
  refine zS_newarray (t := 21) (n := 20) (kk := 116) (T' := (TTl.take 117, false)) (rn := (d, 8, 1083, 18, 1653)) (zdec eX10_init 35 rfl) (Or.inr (Or.inl ⟨rfl, rfl⟩)) kA_int rfl rfl rfl rfl rfl rfl ?_
  refine zS_putfield (x := 18) (zdec eX10_init 36 rfl) kF_X10_37 (Or.inr ⟨kf10_18, rfl, fun q z => by cases z; rfl⟩) ⟨by decide, rfl⟩ rfl rfl rfl (Or.inr rfl) ?_
  refine zS_aload_n (zdec eX10_init 37 rfl) rfl rfl ?_
  refine zS_sipush (zdec eX10_init 38 rfl) rfl rfl ?_
  refine zS_newarray (t := 21) (n := 175) (kk := 117) (T' := (TTl.take 118, false)) (rn := (d, 9, 1258, 18, 1653)) (zdec eX10_init 39 rfl) (Or.inr (Or.inl ⟨rfl, rfl⟩)) kA_int rfl rfl rfl rfl rfl rfl ?_
  refine zS_putfield (x := 19) (zdec eX10_init 40 rfl) kF_X10_40 (Or.inr ⟨kf10_19, rfl, fun q z => by cases z; rfl⟩) ⟨by decide, rfl⟩ rfl rfl rfl (Or.inr rfl) ?_
  refine zS_aload_n (zdec eX10_init 41 rfl) rfl rfl ?_
  refine zS_bipush (zdec eX10_init 42 rfl) rfl rfl ?_
  refine zS_newarray (t := 21) (n := 60) (kk := 118) (T' := (TTl.take 119, false)) (rn := (d, 10, 1318, 18, 1653)) (zdec eX10_init 43 rfl) (Or.inr (Or.inl ⟨rfl, rfl⟩)) kA_int rfl rfl rfl rfl rfl rfl ?_
  refine zS_putfield (x := 20) (zdec eX10_init 44 rfl) kF_X10_43 (Or.inr ⟨kf10_20, rfl, fun q z => by cases z; rfl⟩) ⟨by decide, rfl⟩ rfl rfl rfl (Or.inr rfl) ?_
  refine zS_aload_n (zdec eX10_init 45 rfl) rfl rfl ?_
  refine zS_sipush (zdec eX10_init 46 rfl) rfl rfl ?_
  refine zS_newarray (t := 21) (n := 200) (kk := 119) (T' := (TTl.take 120, false)) (rn := (d, 11, 1518, 18, 1653)) (zdec eX10_init 47 rfl) (Or.inr (Or.inl ⟨rfl, rfl⟩)) kA_int rfl rfl rfl rfl rfl rfl ?_
  refine zS_putfield (x := 21) (zdec eX10_init 48 rfl) kF_X10_46 (Or.inr ⟨kf10_21, rfl, fun q z => by cases z; rfl⟩) ⟨by decide, rfl⟩ rfl rfl rfl (Or.inr rfl) ?_
  refine zS_aload_n (zdec eX10_init 49 rfl) rfl rfl ?_
  refine zS_iconst (zdec eX10_init 50 rfl) rfl ?_
  refine zS_newarray (t := 23) (n := 3) (kk := 120) (T' := (TTl.take 121, false)) (rn := (d, 12, 1521, 18, 1653)) (zdec eX10_init 51 rfl) (Or.inr (Or.inr (Or.inr ⟨rfl, rfl⟩))) kA_boolean rfl rfl rfl rfl rfl rfl ?_
  refine zS_putfield (x := 22) (zdec eX10_init 52 rfl) kF_X10_49 (Or.inr ⟨kf10_22, rfl, fun q z => by cases z; rfl⟩) ⟨by decide, rfl⟩ rfl rfl rfl (Or.inr rfl) ?_
  refine zS_aload_n (zdec eX10_init 53 rfl) rfl rfl ?_
  refine zS_iconst (zdec eX10_init 54 rfl) rfl ?_
  refine zS_newarray (t := 21) (n := 5) (kk := 121) (T' := (TTl.take 122, false)) (rn := (d, 13, 1526, 18, 1653)) (zdec eX10_init 55 rfl) (Or.inr (Or.inl ⟨rfl, rfl⟩)) kA_int rfl rfl rfl rfl rfl rfl ?_
  refine zS_putfield (x := 29) (zdec eX10_init 56 rfl) kF_X10_53 (Or.inr ⟨kf10_29, rfl, fun q z => by cases z; rfl⟩) ⟨by decide, rfl⟩ rfl rfl rfl (Or.inr rfl) ?_
  refine zS_aload_n (zdec eX10_init 57 rfl) rfl rfl ?_
  refine zS_iconst (zdec eX10_init 58 rfl) rfl ?_
  refine zS_newarray (t := 21) (n := 5) (kk := 122) (T' := (TTl.take 123, false)) (rn := (d, 14, 1531, 18, 1653)) (zdec eX10_init 59 rfl) (Or.inr (Or.inl ⟨rfl, rfl⟩)) kA_int rfl rfl rfl rfl rfl rfl ?_
  refine zS_putfield (x := 30) (zdec eX10_init 60 rfl) kF_X10_56 (Or.inr ⟨kf10_30, rfl, fun q z => by cases z; rfl⟩) ⟨by decide, rfl⟩ rfl rfl rfl (Or.inr rfl) ?_
  refine zS_aload_n (zdec eX10_init 61 rfl) rfl rfl ?_
  refine zS_iconst (zdec eX10_init 62 rfl) rfl ?_
  refine zS_newarray (t := 21) (n := 5) (kk := 123) (T' := (TTl.take 124, false)) (rn := (d, 15, 1536, 18, 1653)) (zdec eX10_init 63 rfl) (Or.inr (Or.inl ⟨rfl, rfl⟩)) kA_int rfl rfl rfl rfl rfl rfl ?_
  refine zS_putfield (x := 31) (zdec eX10_init 64 rfl) kF_X10_59 (Or.inr ⟨kf10_31, rfl, fun q z => by cases z; rfl⟩) ⟨by decide, rfl⟩ rfl rfl rfl (Or.inr rfl) ?_
  refine zS_aload_n (zdec eX10_init 65 rfl) rfl rfl ?_
  refine zS_bipush (zdec eX10_init 66 rfl) rfl rfl ?_
  refine zS_newarray (t := 21) (n := 7) (kk := 124) (T' := (TTl.take 125, false)) (rn := (d, 16, 1543, 18, 1653)) (zdec eX10_init 67 rfl) (Or.inr (Or.inl ⟨rfl, rfl⟩)) kA_int rfl rfl rfl rfl rfl rfl ?_
  refine zS_putfield (x := 32) (zdec eX10_init 68 rfl) kF_X10_62 (Or.inr ⟨kf10_32, rfl, fun q z => by cases z; rfl⟩) ⟨by decide, rfl⟩ rfl rfl rfl (Or.inr rfl) ?_
  refine zS_aload_n (zdec eX10_init 69 rfl) rfl rfl ?_
  refine zS_iconst (zdec eX10_init 70 rfl) rfl ?_
  refine zS_newarray (t := 21) (n := 5) (kk := 125) (T' := (TTl.take 126, false)) (rn := (d, 17, 1548, 18, 1653)) (zdec eX10_init 71 rfl) (Or.inr (Or.inl ⟨rfl, rfl⟩)) kA_int rfl rfl rfl rfl rfl rfl ?_
  refine zS_putfield (x := 33) (zdec eX10_init 72 rfl) kF_X10_65 (Or.inr ⟨kf10_33, rfl, fun q z => by cases z; rfl⟩) ⟨by decide, rfl⟩ rfl rfl rfl (Or.inr rfl) ?_
  refine zS_aload_n (zdec eX10_init 73 rfl) rfl rfl ?_
  refine zS_bipush (zdec eX10_init 74 rfl) rfl rfl ?_
  refine zS_newarray (t := 21) (n := 105) (kk := 126) (T' := (TTl.take 127, false)) (rn := (d, 18, 1653, 18, 1653)) (zdec eX10_init 75 rfl) (Or.inr (Or.inl ⟨rfl, rfl⟩)) kA_int rfl rfl rfl rfl rfl rfl ?_
  refine zS_putfield (x := 42) (zdec eX10_init 76 rfl) kF_X10_68 (Or.inr ⟨kf10_42, rfl, fun q z => by cases z; rfl⟩) ⟨by decide, rfl⟩ rfl rfl rfl (Or.inr rfl) ?_
  refine zS_iconst (zdec eX10_init 77 rfl) rfl ?_
  refine zS_istore_n (zdec eX10_init 78 rfl) rfl ?_
  refine zS_iload_n (zdec eX10_init 79 rfl) rfl ?_
  refine zS_iconst (zdec eX10_init 80 rfl) rfl ?_
  refine zS_icmp_ge (tgt := 169) (zdec eX10_init 81 rfl) rfl (fun c => absurd c (by decide)) (fun _ => ?_)
  refine zS_aload_n (zdec eX10_init 82 rfl) rfl rfl ?_
  refine zS_getfieldE (x := 1) (v := 109) (t := 2) (zdec eX10_init 83 rfl) kF_X10_7 ⟨by decide, rfl⟩ rfl rfl rfl rfl ?_
  refine zS_iload_n (zdec eX10_init 84 rfl) rfl ?_
  refine zS_iconst (zdec eX10_init 85 rfl) rfl ?_
  refine zS_iastore (zdec eX10_init 86 rfl) ⟨by decide, rfl⟩ (by decide) (by decide) ?_
  refine zS_iinc (zdec eX10_init 87 rfl) rfl rfl (zR_of rfl) ?_
  refine zS_goto (tgt := 151) (zdec eX10_init 88 rfl) rfl ?_
  refine zS_iload_n (zdec eX10_init 79 rfl) rfl ?_
  refine zS_iconst (zdec eX10_init 80 rfl) rfl ?_
  refine zS_icmp_ge (tgt := 169) (zdec eX10_init 81 rfl) rfl (fun c => absurd c (by decide)) (fun _ => ?_)
  refine zS_aload_n (zdec eX10_init 82 rfl) rfl rfl ?_
  refine zS_getfieldE (x := 1) (v := 109) (t := 2) (zdec eX10_init 83 rfl) kF_X10_7 ⟨by decide, rfl⟩ rfl rfl rfl rfl ?_
  refine zS_iload_n (zdec eX10_init 84 rfl) rfl ?_
  refine zS_iconst (zdec eX10_init 85 rfl) rfl ?_
  refine zS_iastore (zdec eX10_init 86 rfl) ⟨by decide, rfl⟩ (by decide) (by decide) ?_
  refine zS_iinc (zdec eX10_init 87 rfl) rfl rfl (zR_of rfl) ?_
  refine zS_goto (tgt := 151) (zdec eX10_init 88 rfl) rfl ?_
  refine zS_iload_n (zdec eX10_init 79 rfl) rfl ?_
  refine zS_iconst (zdec eX10_init 80 rfl) rfl ?_
  refine zS_icmp_ge (tgt := 169) (zdec eX10_init 81 rfl) rfl (fun c => absurd c (by decide)) (fun _ => ?_)
  refine zS_aload_n (zdec eX10_init 82 rfl) rfl rfl ?_
  refine zS_getfieldE (x := 1) (v := 109) (t := 2) (zdec eX10_init 83 rfl) kF_X10_7 ⟨by decide, rfl⟩ rfl rfl rfl rfl ?_
  refine zS_iload_n (zdec eX10_init 84 rfl) rfl ?_
  refine zS_iconst (zdec eX10_init 85 rfl) rfl ?_
  refine zS_iastore (zdec eX10_init 86 rfl) ⟨by decide, rfl⟩ (by decide) (by decide) ?_
  refine zS_iinc (zdec eX10_init 87 rfl) rfl rfl (zR_of rfl) ?_
  refine zS_goto (tgt := 151) (zdec eX10_init 88 rfl) rfl ?_
  refine zS_iload_n (zdec eX10_init 79 rfl) rfl ?_
  refine zS_iconst (zdec eX10_init 80 rfl) rfl ?_
  refine zS_icmp_ge (tgt := 169) (zdec eX10_init 81 rfl) rfl (fun c => absurd c (by decide)) (fun _ => ?_)
  refine zS_aload_n (zdec eX10_init 82 rfl) rfl rfl ?_
  refine zS_getfieldE (x := 1) (v := 109) (t := 2) (zdec eX10_init 83 rfl) kF_X10_7 ⟨by decide, rfl⟩ rfl rfl rfl rfl ?_
  refine zS_iload_n (zdec eX10_init 84 rfl) rfl ?_
  refine zS_iconst (zdec eX10_init 85 rfl) rfl ?_
  refine zS_iastore (zdec eX10_init 86 rfl) ⟨by decide, rfl⟩ (by decide) (by decide) ?_
  refine zS_iinc (zdec eX10_init 87 rfl) rfl rfl (zR_of rfl) ?_
  refine zS_goto (tgt := 151) (zdec eX10_init 88 rfl) rfl ?_
  refine zS_iload_n (zdec eX10_init 79 rfl) rfl ?_
  refine zS_iconst (zdec eX10_init 80 rfl) rfl ?_
  refine zS_icmp_ge (tgt := 169) (zdec eX10_init 81 rfl) rfl (fun _ => ?_) (fun c => absurd (by decide) c)
  exact zS_return (zdec eX10_init 89 rfl) rfl ⟨Nat.le_of_ble_eq_true rfl, Nat.le_of_ble_eq_true rfl⟩ ⟨rfl, rfl, rfl⟩

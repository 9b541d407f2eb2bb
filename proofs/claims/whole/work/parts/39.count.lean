section Ush
variable {M : zM} {r : zB} {pc : Nat} {ls st : List zV} {T : zT} {h : zH} {Q : Option zV → zT → zH → Prop}
theorem zS_iushr {a b : Int} (hd : decode M.2.1 pc = .ok (.iushr, 1)) (k : zS M r (pc + 1) ls (zI (zUshr a b) :: st) T h Q) : zS M r pc ls (zI b :: zI a :: st) T h Q := by
  intro p l e R s m args below meth c Qm G0 T0 C G H locs la hX hP hS hl hls hst
  obtain ⟨vb, hst⟩ := List.forall_mem_cons.mp hst
  obtain ⟨va, hst⟩ := List.forall_mem_cons.mp hst
  have hk := (k p l e R s m args below meth c Qm G0 T0 C G H locs la hX hP hS hl hls (zok_c (show zok T (zI _) from zR_toInt _) hst))
  rw [List.map_cons] at hk
  have e : zc G (zI (zUshr a b)) = .int ((Int32.ofInt a).toUInt32 >>> ((Int32.ofInt b).toUInt32 &&& Int32.toUInt32 31)).toInt32 := congrArg Value.int (zI_of _)
  rw [e] at hk
  exact lv_iushr C.1 C.2.1 hd rfl hk
end Ush
def cnt5 (x : Int) : Int := b2i (bitB x 0) + b2i (bitB x 1) + b2i (bitB x 2) + b2i (bitB x 3) + b2i (bitB x 4)
theorem bcR : ∀ y : Fin 32, (-2147483648 ≤ (y.val : Int) - (zAnd (zUshr (y.val : Int) 1) 1431655765) ∧ (y.val : Int) - (zAnd (zUshr (y.val : Int) 1) 1431655765) < 2147483648) ∧ (-2147483648 ≤ (zAnd ((y.val : Int) - (zAnd (zUshr (y.val : Int) 1) 1431655765)) 858993459) + (zAnd (zUshr ((y.val : Int) - (zAnd (zUshr (y.val : Int) 1) 1431655765)) 2) 858993459) ∧ (zAnd ((y.val : Int) - (zAnd (zUshr (y.val : Int) 1) 1431655765)) 858993459) + (zAnd (zUshr ((y.val : Int) - (zAnd (zUshr (y.val : Int) 1) 1431655765)) 2) 858993459) < 2147483648) ∧ (-2147483648 ≤ ((zAnd ((y.val : Int) - (zAnd (zUshr (y.val : Int) 1) 1431655765)) 858993459) + (zAnd (zUshr ((y.val : Int) - (zAnd (zUshr (y.val : Int) 1) 1431655765)) 2) 858993459)) + (zUshr ((zAnd ((y.val : Int) - (zAnd (zUshr (y.val : Int) 1) 1431655765)) 858993459) + (zAnd (zUshr ((y.val : Int) - (zAnd (zUshr (y.val : Int) 1) 1431655765)) 2) 858993459)) 4) ∧ ((zAnd ((y.val : Int) - (zAnd (zUshr (y.val : Int) 1) 1431655765)) 858993459) + (zAnd (zUshr ((y.val : Int) - (zAnd (zUshr (y.val : Int) 1) 1431655765)) 2) 858993459)) + (zUshr ((zAnd ((y.val : Int) - (zAnd (zUshr (y.val : Int) 1) 1431655765)) 858993459) + (zAnd (zUshr ((y.val : Int) - (zAnd (zUshr (y.val : Int) 1) 1431655765)) 2) 858993459)) 4) < 2147483648) ∧ (-2147483648 ≤ (zAnd (((zAnd ((y.val : Int) - (zAnd (zUshr (y.val : Int) 1) 1431655765)) 858993459) + (zAnd (zUshr ((y.val : Int) - (zAnd (zUshr (y.val : Int) 1) 1431655765)) 2) 858993459)) + (zUshr ((zAnd ((y.val : Int) - (zAnd (zUshr (y.val : Int) 1) 1431655765)) 858993459) + (zAnd (zUshr ((y.val : Int) - (zAnd (zUshr (y.val : Int) 1) 1431655765)) 2) 858993459)) 4)) 252645135) + (zUshr (zAnd (((zAnd ((y.val : Int) - (zAnd (zUshr (y.val : Int) 1) 1431655765)) 858993459) + (zAnd (zUshr ((y.val : Int) - (zAnd (zUshr (y.val : Int) 1) 1431655765)) 2) 858993459)) + (zUshr ((zAnd ((y.val : Int) - (zAnd (zUshr (y.val : Int) 1) 1431655765)) 858993459) + (zAnd (zUshr ((y.val : Int) - (zAnd (zUshr (y.val : Int) 1) 1431655765)) 2) 858993459)) 4)) 252645135) 8) ∧ (zAnd (((zAnd ((y.val : Int) - (zAnd (zUshr (y.val : Int) 1) 1431655765)) 858993459) + (zAnd (zUshr ((y.val : Int) - (zAnd (zUshr (y.val : Int) 1) 1431655765)) 2) 858993459)) + (zUshr ((zAnd ((y.val : Int) - (zAnd (zUshr (y.val : Int) 1) 1431655765)) 858993459) + (zAnd (zUshr ((y.val : Int) - (zAnd (zUshr (y.val : Int) 1) 1431655765)) 2) 858993459)) 4)) 252645135) + (zUshr (zAnd (((zAnd ((y.val : Int) - (zAnd (zUshr (y.val : Int) 1) 1431655765)) 858993459) + (zAnd (zUshr ((y.val : Int) - (zAnd (zUshr (y.val : Int) 1) 1431655765)) 2) 858993459)) + (zUshr ((zAnd ((y.val : Int) - (zAnd (zUshr (y.val : Int) 1) 1431655765)) 858993459) + (zAnd (zUshr ((y.val : Int) - (zAnd (zUshr (y.val : Int) 1) 1431655765)) 2) 858993459)) 4)) 252645135) 8) < 2147483648) ∧ (-2147483648 ≤ ((zAnd (((zAnd ((y.val : Int) - (zAnd (zUshr (y.val : Int) 1) 1431655765)) 858993459) + (zAnd (zUshr ((y.val : Int) - (zAnd (zUshr (y.val : Int) 1) 1431655765)) 2) 858993459)) + (zUshr ((zAnd ((y.val : Int) - (zAnd (zUshr (y.val : Int) 1) 1431655765)) 858993459) + (zAnd (zUshr ((y.val : Int) - (zAnd (zUshr (y.val : Int) 1) 1431655765)) 2) 858993459)) 4)) 252645135) + (zUshr (zAnd (((zAnd ((y.val : Int) - (zAnd (zUshr (y.val : Int) 1) 1431655765)) 858993459) + (zAnd (zUshr ((y.val : Int) - (zAnd (zUshr (y.val : Int) 1) 1431655765)) 2) 858993459)) + (zUshr ((zAnd ((y.val : Int) - (zAnd (zUshr (y.val : Int) 1) 1431655765)) 858993459) + (zAnd (zUshr ((y.val : Int) - (zAnd (zUshr (y.val : Int) 1) 1431655765)) 2) 858993459)) 4)) 252645135) 8)) + (zUshr ((zAnd (((zAnd ((y.val : Int) - (zAnd (zUshr (y.val : Int) 1) 1431655765)) 858993459) + (zAnd (zUshr ((y.val : Int) - (zAnd (zUshr (y.val : Int) 1) 1431655765)) 2) 858993459)) + (zUshr ((zAnd ((y.val : Int) - (zAnd (zUshr (y.val : Int) 1) 1431655765)) 858993459) + (zAnd (zUshr ((y.val : Int) - (zAnd (zUshr (y.val : Int) 1) 1431655765)) 2) 858993459)) 4)) 252645135) + (zUshr (zAnd (((zAnd ((y.val : Int) - (zAnd (zUshr (y.val : Int) 1) 1431655765)) 858993459) + (zAnd (zUshr ((y.val : Int) - (zAnd (zUshr (y.val : Int) 1) 1431655765)) 2) 858993459)) + (zUshr ((zAnd ((y.val : Int) - (zAnd (zUshr (y.val : Int) 1) 1431655765)) 858993459) + (zAnd (zUshr ((y.val : Int) - (zAnd (zUshr (y.val : Int) 1) 1431655765)) 2) 858993459)) 4)) 252645135) 8)) 16) ∧ ((zAnd (((zAnd ((y.val : Int) - (zAnd (zUshr (y.val : Int) 1) 1431655765)) 858993459) + (zAnd (zUshr ((y.val : Int) - (zAnd (zUshr (y.val : Int) 1) 1431655765)) 2) 858993459)) + (zUshr ((zAnd ((y.val : Int) - (zAnd (zUshr (y.val : Int) 1) 1431655765)) 858993459) + (zAnd (zUshr ((y.val : Int) - (zAnd (zUshr (y.val : Int) 1) 1431655765)) 2) 858993459)) 4)) 252645135) + (zUshr (zAnd (((zAnd ((y.val : Int) - (zAnd (zUshr (y.val : Int) 1) 1431655765)) 858993459) + (zAnd (zUshr ((y.val : Int) - (zAnd (zUshr (y.val : Int) 1) 1431655765)) 2) 858993459)) + (zUshr ((zAnd ((y.val : Int) - (zAnd (zUshr (y.val : Int) 1) 1431655765)) 858993459) + (zAnd (zUshr ((y.val : Int) - (zAnd (zUshr (y.val : Int) 1) 1431655765)) 2) 858993459)) 4)) 252645135) 8)) + (zUshr ((zAnd (((zAnd ((y.val : Int) - (zAnd (zUshr (y.val : Int) 1) 1431655765)) 858993459) + (zAnd (zUshr ((y.val : Int) - (zAnd (zUshr (y.val : Int) 1) 1431655765)) 2) 858993459)) + (zUshr ((zAnd ((y.val : Int) - (zAnd (zUshr (y.val : Int) 1) 1431655765)) 858993459) + (zAnd (zUshr ((y.val : Int) - (zAnd (zUshr (y.val : Int) 1) 1431655765)) 2) 858993459)) 4)) 252645135) + (zUshr (zAnd (((zAnd ((y.val : Int) - (zAnd (zUshr (y.val : Int) 1) 1431655765)) 858993459) + (zAnd (zUshr ((y.val : Int) - (zAnd (zUshr (y.val : Int) 1) 1431655765)) 2) 858993459)) + (zUshr ((zAnd ((y.val : Int) - (zAnd (zUshr (y.val : Int) 1) 1431655765)) 858993459) + (zAnd (zUshr ((y.val : Int) - (zAnd (zUshr (y.val : Int) 1) 1431655765)) 2) 858993459)) 4)) 252645135) 8)) 16) < 2147483648) ∧ (zAnd (((zAnd (((zAnd ((y.val : Int) - (zAnd (zUshr (y.val : Int) 1) 1431655765)) 858993459) + (zAnd (zUshr ((y.val : Int) - (zAnd (zUshr (y.val : Int) 1) 1431655765)) 2) 858993459)) + (zUshr ((zAnd ((y.val : Int) - (zAnd (zUshr (y.val : Int) 1) 1431655765)) 858993459) + (zAnd (zUshr ((y.val : Int) - (zAnd (zUshr (y.val : Int) 1) 1431655765)) 2) 858993459)) 4)) 252645135) + (zUshr (zAnd (((zAnd ((y.val : Int) - (zAnd (zUshr (y.val : Int) 1) 1431655765)) 858993459) + (zAnd (zUshr ((y.val : Int) - (zAnd (zUshr (y.val : Int) 1) 1431655765)) 2) 858993459)) + (zUshr ((zAnd ((y.val : Int) - (zAnd (zUshr (y.val : Int) 1) 1431655765)) 858993459) + (zAnd (zUshr ((y.val : Int) - (zAnd (zUshr (y.val : Int) 1) 1431655765)) 2) 858993459)) 4)) 252645135) 8)) + (zUshr ((zAnd (((zAnd ((y.val : Int) - (zAnd (zUshr (y.val : Int) 1) 1431655765)) 858993459) + (zAnd (zUshr ((y.val : Int) - (zAnd (zUshr (y.val : Int) 1) 1431655765)) 2) 858993459)) + (zUshr ((zAnd ((y.val : Int) - (zAnd (zUshr (y.val : Int) 1) 1431655765)) 858993459) + (zAnd (zUshr ((y.val : Int) - (zAnd (zUshr (y.val : Int) 1) 1431655765)) 2) 858993459)) 4)) 252645135) + (zUshr (zAnd (((zAnd ((y.val : Int) - (zAnd (zUshr (y.val : Int) 1) 1431655765)) 858993459) + (zAnd (zUshr ((y.val : Int) - (zAnd (zUshr (y.val : Int) 1) 1431655765)) 2) 858993459)) + (zUshr ((zAnd ((y.val : Int) - (zAnd (zUshr (y.val : Int) 1) 1431655765)) 858993459) + (zAnd (zUshr ((y.val : Int) - (zAnd (zUshr (y.val : Int) 1) 1431655765)) 2) 858993459)) 4)) 252645135) 8)) 16)) 63 = cnt5 (y.val : Int)) := by decide +kernel
theorem c_bitCount {d : Nat} {h : zH} {x : Int} (x0 : 0 ≤ x) (x1 : x < 32) : zPI d mJ6_bitCount_0f7a4 [zI x] h (cnt5 x) := by
  obtain ⟨y, rfl⟩ := fin_of (n := 32) x0 x1
  refine zmet rfl rfl rfl ?_
  refine zS_iload_n (zdec eJ6_bitCount_0f7a4 0 rfl) rfl ?_
  refine zS_iload_n (zdec eJ6_bitCount_0f7a4 1 rfl) rfl ?_
  refine zS_iconst (zdec eJ6_bitCount_0f7a4 2 rfl) rfl ?_
  refine zS_iushr (zdec eJ6_bitCount_0f7a4 3 rfl) ?_
  refine zS_ldc_w (zdec eJ6_bitCount_0f7a4 4 rfl) kc_J6_265 rfl ?_
  refine zS_iand (zdec eJ6_bitCount_0f7a4 5 rfl) ?_
  refine zS_isub (zdec eJ6_bitCount_0f7a4 6 rfl) (bcR y).1 ?_
  refine zS_istore_n (zdec eJ6_bitCount_0f7a4 7 rfl) rfl ?_
  refine zS_iload_n (zdec eJ6_bitCount_0f7a4 8 rfl) rfl ?_
  refine zS_ldc_w (zdec eJ6_bitCount_0f7a4 9 rfl) kc_J6_266 rfl ?_
  refine zS_iand (zdec eJ6_bitCount_0f7a4 10 rfl) ?_
  refine zS_iload_n (zdec eJ6_bitCount_0f7a4 11 rfl) rfl ?_
  refine zS_iconst (zdec eJ6_bitCount_0f7a4 12 rfl) rfl ?_
  refine zS_iushr (zdec eJ6_bitCount_0f7a4 13 rfl) ?_
  refine zS_ldc_w (zdec eJ6_bitCount_0f7a4 14 rfl) kc_J6_266 rfl ?_
  refine zS_iand (zdec eJ6_bitCount_0f7a4 15 rfl) ?_
  refine zS_iadd (zdec eJ6_bitCount_0f7a4 16 rfl) (bcR y).2.1 ?_
  refine zS_istore_n (zdec eJ6_bitCount_0f7a4 17 rfl) rfl ?_
  refine zS_iload_n (zdec eJ6_bitCount_0f7a4 18 rfl) rfl ?_
  refine zS_iload_n (zdec eJ6_bitCount_0f7a4 19 rfl) rfl ?_
  refine zS_iconst (zdec eJ6_bitCount_0f7a4 20 rfl) rfl ?_
  refine zS_iushr (zdec eJ6_bitCount_0f7a4 21 rfl) ?_
  refine zS_iadd (zdec eJ6_bitCount_0f7a4 22 rfl) (bcR y).2.2.1 ?_
  refine zS_ldc_w (zdec eJ6_bitCount_0f7a4 23 rfl) kc_J6_267 rfl ?_
  refine zS_iand (zdec eJ6_bitCount_0f7a4 24 rfl) ?_
  refine zS_istore_n (zdec eJ6_bitCount_0f7a4 25 rfl) rfl ?_
  refine zS_iload_n (zdec eJ6_bitCount_0f7a4 26 rfl) rfl ?_
  refine zS_iload_n (zdec eJ6_bitCount_0f7a4 27 rfl) rfl ?_
  refine zS_bipush (zdec eJ6_bitCount_0f7a4 28 rfl) rfl rfl ?_
  refine zS_iushr (zdec eJ6_bitCount_0f7a4 29 rfl) ?_
  refine zS_iadd (zdec eJ6_bitCount_0f7a4 30 rfl) (bcR y).2.2.2.1 ?_
  refine zS_istore_n (zdec eJ6_bitCount_0f7a4 31 rfl) rfl ?_
  refine zS_iload_n (zdec eJ6_bitCount_0f7a4 32 rfl) rfl ?_
  refine zS_iload_n (zdec eJ6_bitCount_0f7a4 33 rfl) rfl ?_
  refine zS_bipush (zdec eJ6_bitCount_0f7a4 34 rfl) rfl rfl ?_
  refine zS_iushr (zdec eJ6_bitCount_0f7a4 35 rfl) ?_
  refine zS_iadd (zdec eJ6_bitCount_0f7a4 36 rfl) (bcR y).2.2.2.2.1 ?_
  refine zS_istore_n (zdec eJ6_bitCount_0f7a4 37 rfl) rfl ?_
  refine zS_iload_n (zdec eJ6_bitCount_0f7a4 38 rfl) rfl ?_
  refine zS_bipush (zdec eJ6_bitCount_0f7a4 39 rfl) rfl rfl ?_
  refine zS_iand (zdec eJ6_bitCount_0f7a4 40 rfl) ?_
  exact zlI (zdec eJ6_bitCount_0f7a4 41 rfl) rfl (bcR y).2.2.2.2.2

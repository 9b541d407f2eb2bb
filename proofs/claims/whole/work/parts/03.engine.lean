/-! THE ENGINE: an abstract machine over whole numbers; a place is a Nat, a cell a row of Ints, types in a list -/
abbrev zV : Type := Nat × Int
abbrev zI (x : Int) : zV := (0, x)
abbrev zJ (x : Int) : zV := (1, x)
abbrev zA (k : Int) : zV := (2, k)
abbrev zN : zV := (3, 0)
abbrev zH : Type := Int → Int → Int
abbrev zT : Type := List (Nat × Nat) × Bool
abbrev zB : Type := Nat × Nat × Nat × Nat × Nat
abbrev zFx : Type := (Nat → ClassId) × (Nat → Nat → Nat) × (Nat → ClassId) × Nat × ((Nat → Nat) × (Nat → Nat) × Nat × Option Nat) × (Nat × Nat × (Nat → Int32))
abbrev zG : Type := zFx × (Nat → Nat)
abbrev gD (G : zG) : va_G := (G.1.1, G.1.2.1)
abbrev gY (G : zG) : Nat → ClassId := G.1.2.2.1
abbrev gB (G : zG) : Nat := G.1.2.2.2.1
abbrev gSk (G : zG) : Nat → Nat := G.1.2.2.2.2.1.1
abbrev gSv (G : zG) : Nat → Nat := G.1.2.2.2.2.1.2.1
abbrev gFa (G : zG) : Nat := G.1.2.2.2.2.1.2.2.1
abbrev gFo (G : zG) : Option Nat := G.1.2.2.2.2.1.2.2.2
abbrev gSc (G : zG) : Nat := G.1.2.2.2.2.2.1
abbrev gL (G : zG) : Nat := G.1.2.2.2.2.2.2.1
abbrev gXs (G : zG) : Nat → Int32 := G.1.2.2.2.2.2.2.2
def zc (G : zG) : zV → Value
  | (0, x) => .int (Int32.ofInt x)
  | (1, x) => .long (Int64.ofInt x)
  | (2, k) => if k < 0 then .null else .ref (G.2 k.toNat)
  | (4, _) => .ref (gFa G)
  | (5, k) => .ref (gSk G k.toNat)
  | (6, _) => .ref (gSc G)
  | (7, k) => .ref (gSv G k.toNat)
  | (8, _) => va_rf (gFo G)
  | _ => .null
def zR (x : Int) : Prop := -2147483648 ≤ x ∧ x < 2147483648
def zRl (x : Int) : Prop := -9223372036854775808 ≤ x ∧ x < 9223372036854775808
def zok (T : zT) : zV → Prop
  | (0, x) => zR x
  | (1, x) => zRl x
  | (2, k) => k < T.1.length
  | _ => True
def zokc (T : zT) (t : Nat × Nat) (j : Nat) (x : Int) : Prop :=
  if t.1 < 20 then zok T (zF t.1 j, x) else if t.1 = 20 then -128 ≤ x ∧ x < 128 else if t.1 = 21 then zR x else if t.1 = 22 then zRl x else if t.1 = 23 then 0 ≤ x ∧ x < 2 else x < T.1.length
/-- which cell refers to which, once both constructors are through (T.2 = true) -/
def zSh (h : zH) : Prop := (∀ q ∈ zRo, h q.1 q.2.1 = q.2.2) ∧ ∀ q ∈ zRa, ∀ j : Nat, j < q.2.1 → h q.1 j = q.2.2.1 + q.2.2.2 * j
def zokh (T : zT) (h : zH) : Prop := (∀ (k j : Nat) (t : Nat × Nat), T.1[k]? = some t → j < t.2 → zokc T t j (h k j)) ∧ (T.2 = true → T.1 = TTl ∧ zSh h)
abbrev TT : zT := (TTl, true)
def zE (G : zG) (t : Nat × Nat) (f : Int → Int) : va_E :=
  if t.1 < 20 then .inr (t.1, (List.range t.2).map (fun j => zc G (zF t.1 j, f j)))
  else if t.1 = 22 then .inl (gY G 22, t.2, .inr (.inl (fun j => Int64.ofInt (f j))))
  else if t.1 < 24 then .inl (gY G t.1, t.2, .inl (fun j => Int32.ofInt (f j)))
  else .inl (gY G t.1, t.2, .inr (.inr (.inr (.inr (fun j => if f j < 0 then none else some (G.2 (f j).toNat))))))
def zw (G : zG) (T : zT) (h : zH) : va_W := (List.range T.1.length).map (fun k => (G.2 k, zE G (T.1.getD k (0, 0)) (h k)))
def zAd (G : zG) : Nat → Prop := fun q => gB G ≤ q
def zty (G : zG) : List (ClassId × FieldType) := [(gY G 20, .byte), (gY G 21, .int), (gY G 22, .long), (gY G 23, .boolean), (gY G 24, .object "PaymentRuns$Desk"), (gY G 25, .array .int), (gY G 26, .array .long)]
def zfa (j : Int) : Int := zfaL.getD j.toNat 0
def zsl (i : Int) : Int := (zln.getD i.toNat 0 : Nat)
def zsb (i j : Int) : Int := ((zby.getD i.toNat []).getD j.toNat 0).toInt
def lwg : List Cond := lw_tbl.filter goodWord
theorem lwg_at {w : Cond} (n : Nat) (h : lw_tbl[n]? = some w) (hg : goodWord w = true) : w ∈ lwg := List.mem_filter.mpr ⟨List.mem_of_getElem? h, hg⟩
theorem lwg_good : GoodIn lwg lwg := fun w h => ⟨h, good_of_word (List.mem_filter.mp h).2⟩
def zws (M : zM) : List Cond := Cond.code M.1 M.2.1 M.2.2.1 M.2.2.2 :: lwg
/-- words of the tables that are wanted where arrays of arrays and private constructors are made -/
def zKx (U : State) : Prop := va_AO "PaymentRuns$Desk" U ∧ (Cond.arrayOver (.array .int)).before #[] U = true ∧ (Cond.arrayOver (.array .long)).before #[] U = true ∧ va_Nw (.methodLinkNest "PaymentRuns" 62 ⟨"PaymentRuns$Shares", "<init>", "()V"⟩ "PaymentRuns") U ∧ va_Nw (.methodLinkNest "PaymentRuns" 76 ⟨"PaymentRuns$Odds", "<init>", "()V"⟩ "PaymentRuns") U
theorem zKx.next {s U : State} (h : zKx s) (hW : s.WarmedH U.vm) : zKx U := ⟨va_AO.moved hW.alike h.1, over_moved hW.alike h.2.1, over_moved hW.alike h.2.2.1, va_Nw.warmM hW h.2.2.2.1, va_Nw.warmM hW h.2.2.2.2⟩
theorem zKx.same {s U : State} (h : zKx s) (e : s.vm = U.vm) : zKx U := by
  have al : s.vm.Alike U.vm := by rw [← e]; exact Vm.Alike.refl _
  exact ⟨va_AO.moved al h.1, over_moved al h.2.1, over_moved al h.2.2.1, va_Nw.same rfl e h.2.2.2.1, va_Nw.same rfl e h.2.2.2.2⟩
/-- what stays all the time: the classes, the script, the constants -/
def zKc (G : zG) (U : State) (H : Heap) : Prop :=
  (∀ (i : Nat) (q : String × Nat × String), zSl[i]? = some q → vk_R q.1 q.2.1 q.2.2 (gSk G i) U) ∧ vk_S 18 zln zby (gSk G) (gSv G) (zAd G) U H ∧ va_Z "PaymentRuns$Shares" "FACTORIAL" "[I" (.ref (gFa G)) (zAd G) U H ∧ va_T .int (gFa G) 6 (fun j => .int (Int32.ofInt (zfaL.getD j 0))) (zAd G) U H ∧ va_Z "java/lang/String" "COMPACT_STRINGS" "Z" (.int 1) (zAd G) U H ∧ va_Z "jdk/internal/util/Preconditions" "SIOOBE_FORMATTER" "Ljava/util/function/BiFunction;" (va_rf (gFo G)) (zAd G) U H ∧ zKx U
def zK (G : zG) (U : State) (H : Heap) : Prop :=
  va_K (gD G) vwCl (zty G) U ∧ (va_X (gSc G) (gL G) (gXs G) U H ∧ gSc G < gB G ∧ gB G ≤ H.size) ∧ zKc G U H
theorem zK.next {G : zG} {s U : State} {H : Heap} {locs : List Loc} (h : zK G s s.heap) (hS : va_S (zAd G) s.heap H locs) (hU : U.heap = H) (hW : s.WarmedH U.vm) : zK G U U.heap := by
  obtain ⟨h1, ⟨h2, h3, h4⟩, k1, k2, k3, k4, k5, k6, k7⟩ := h
  subst hU
  exact ⟨va_K.moved hW.alike h1, ⟨va_X.moved hW.alike (h2.kept (hS.2.1 _ (Nat.lt_of_lt_of_le h3 h4) (fun q => absurd h3 (Nat.not_lt.mpr q)))), h3, Nat.le_trans h4 hS.1⟩,
    fun i q hq => (k1 i q hq).warm hW, vk_S.moved hW.alike (k2.kept hS.2.1), va_Z.moved hW.alike (k3.kept hS.2.1), va_T.moved hW.alike (k4.kept hS.2.1), va_Z.moved hW.alike (k5.kept hS.2.1), va_Z.moved hW.alike (k6.kept hS.2.1), k7.next hW⟩
theorem zK.calling {G : zG} {U : State} {g : JFrame} {mk : MethodId} {a : Array Value} (h : zK G U U.heap) : zK G (U.calling g mk a) (U.calling g mk a).heap := by
  obtain ⟨h1, ⟨h2, h3, h4⟩, k1, k2, k3, k4, k5, k6, k7⟩ := h
  have al : U.vm.Alike (U.calling g mk a).vm := Vm.Alike.refl U.vm
  exact ⟨va_K.moved (u := U) (U := U.calling g mk a) al h1, ⟨va_X.moved (u := U) (U := U.calling g mk a) al h2, h3, h4⟩,
    fun i q hq => (k1 i q hq).same (U := U.calling g mk a) rfl, vk_S.moved (u := U) (U := U.calling g mk a) al k2, va_Z.moved (u := U) (U := U.calling g mk a) al k3, va_T.moved (u := U) (U := U.calling g mk a) al k4, va_Z.moved (u := U) (U := U.calling g mk a) al k5, va_Z.moved (u := U) (U := U.calling g mk a) al k6, k7.same (U := U.calling g mk a) rfl⟩
/-- the script, seen as a row of h: place -1, its length at place -2 -/
def zScr (G : zG) (h : zH) : Prop := h (-2) 0 = gL G ∧ ∀ j : Nat, j < gL G → zR (h (-1) j) ∧ Int32.ofInt (h (-1) j) = gXs G j
/-- the cells are as T and h say -/
def zP (G : zG) (T : zT) (h : zH) (H : Heap) : Prop := va_P (gD G) vwCl (zw G T h) H ∧ va_D (zAd G) (zw G T h) ∧ zokh T h ∧ zScr G h
def zX (T T' : zT) (G G' : zG) : Prop := T.1 <+: T'.1 ∧ G.1 = G'.1 ∧ ∀ k, k < T.1.length → G.2 k = G'.2 k
theorem zX.rf {T : zT} {G : zG} : zX T T G G := ⟨List.prefix_refl _, rfl, fun _ _ => rfl⟩
theorem zX.tr {T T' T'' : zT} {G G' G'' : zG} (h : zX T T' G G') (h' : zX T' T'' G' G'') : zX T T'' G G'' :=
  ⟨h.1.trans h'.1, h.2.1.trans h'.2.1, fun k hk => (h.2.2 k hk).trans (h'.2.2 k (Nat.lt_of_lt_of_le hk h.1.length_le))⟩
def zRv (M : zM) (pc : Nat) : Option zV → Prop
  | none => M.2.2.2 = none ∧ decode M.2.1 pc = .ok (.return_, 1)
  | some (0, x) => (∃ ty, M.2.2.2 = some ty ∧ narrow ty (.int (Int32.ofInt x)) = .int (Int32.ofInt x)) ∧ decode M.2.1 pc = .ok (.ireturn, 1)
  | some (1, _) => M.2.2.2 = some .long ∧ decode M.2.1 pc = .ok (.lreturn, 1)
  | some (2, k) => 0 ≤ k ∧ (∃ n, M.2.2.2 = some (.object n)) ∧ decode M.2.1 pc = .ok (.areturn, 1)
  | _ => False
def zlv (G : zG) (ls : List zV) : List (Nat × Value) := (ls.zipIdx.filter (fun q => q.1.1 != 3)).map (fun q => (q.2, zc G q.1))
def zRet (M : zM) (r : zB) (Q : Option zV → zT → zH → Prop) (p : Program) (l : Launch) (e : Env) (R : Room) (s : State) (m : MethodId) (args : Array Value) (below : List Frame) (meth : Method) (c : Code) (Qm : State → Prop) (G0 : zG) (T0 : zT) : Prop :=
  ∀ (G : zG) (T : zT) (h : zH) (H : Heap) (locs : List Loc) (la : Array Slot) (pc : Nat) (rv : Option zV), zX T0 T G0 G → zP G T h H → va_S (zAd G) s.heap H locs → (∀ v ∈ rv, zok T v) → zRv M pc rv → Q rv T h →
    W p l e R s m args below meth c H locs r.2.2.2.1 r.2.2.2.2 Qm (F0 m pc la (rv.toList.map (zc G)))
def zC (M : zM) (r : zB) (Q : Option zV → zT → zH → Prop) (p : Program) (l : Launch) (e : Env) (R : Room) (s : State) (m : MethodId) (args : Array Value) (below : List Frame) (meth : Method) (c : Code) (Qm : State → Prop) (G0 : zG) (T0 : zT) : Prop :=
  p.tables.exec = Jvm.exec ∧ c.code = M.2.1 ∧ c.maxLocals = M.2.2.1 ∧ s.vm.findClass M.1.cls = some m.cls ∧ (∀ w ∈ lwg, w.before args s = true) ∧ meth.name = M.1.name ∧
  (r.1 ≤ R.frames ∧ 64 * r.1 ≤ R.locals ∧ r.2.2.2.1 ≤ R.cells ∧ r.2.2.2.2 ≤ R.slots) ∧ zK G0 s s.heap ∧ zRet M r Q p l e R s m args below meth c Qm G0 T0
/-- from this place on the machine comes to a return with Q; r: frames left, cells and slots made so far, and in all -/
def zS (M : zM) (r : zB) (pc : Nat) (ls st : List zV) (T : zT) (h : zH) (Q : Option zV → zT → zH → Prop) : Prop :=
  ∀ (p : Program) (l : Launch) (e : Env) (R : Room) (s : State) (m : MethodId) (args : Array Value) (below : List Frame) (meth : Method) (c : Code) (Qm : State → Prop) (G0 : zG) (T0 : zT), zC M r Q p l e R s m args below meth c Qm G0 T0 →
  ∀ (G : zG) (H : Heap) (locs : List Loc) (la : Array Slot), zX T0 T G0 G → zP G T h H → va_S (zAd G) s.heap H locs → lv_has la M.2.2.1 (zlv G ls) → (∀ v ∈ ls, zok T v) → (∀ v ∈ st, zok T v) →
    W p l e R s m args below meth c H locs r.2.1 r.2.2.1 Qm (F0 m pc la (st.map (zc G)))
def zRm (d mc ms : Nat) : Room := { frames := d, cells := mc, slots := ms, locals := 64 * d }
def zPc (G : zG) (args : List zV) (T : zT) (h : zH) : Array Value → State → Prop := va_Pc (args.map (zc G)) (fun U => zK G U U.heap ∧ zP G T h U.heap ∧ ∀ v ∈ args, zok T v)
def zQc (G : zG) (T : zT) (Q : Option zV → zT → zH → Prop) : Array Value → State → Outcome → State → Prop := fun _ st o t =>
  (∃ (rv : Option zV) (T' : zT) (h' : zH) (G' : zG), o = .returned (rv.map (zc G')) ∧ zX T T' G G' ∧ zP G' T' h' t.heap ∧ (∀ v ∈ rv, zok T' v) ∧ Q rv T' h') ∧ va_F (zAd G) st t
/-- a contract: d frames, mc cells of ms slots -/
def zMet (d mc ms : Nat) (M : zM) (args : List zV) (T : zT) (h : zH) (Q : Option zV → zT → zH → Prop) : Prop :=
  ∀ (l : Launch) (G : zG), Met l M.1 (zws M) (zRm d mc ms) (zPc G args T h) (zQc G T Q) mc ms (zAd G)

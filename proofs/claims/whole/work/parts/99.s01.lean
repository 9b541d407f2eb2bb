/-! MAKING: multianewarray of two dimensions -/
theorem zarr_congr {c : ClassId} {N : Nat} {f g : Nat → Value} (h : ∀ j, j < N → f j = g j) : arrV c N f = arrV c N g := by
  unfold arrV
  congr 1
  exact congrArg Array.ofFn (funext fun j => h j.val j.isLt)
def zoutV (h0 i : Nat) : Nat → Value := fun j => if j < i then .ref (h0 + 1 + j) else .null
theorem zoutV_step (h0 i : Nat) : updV (zoutV h0 i) i (.ref (h0 + 1 + i)) = zoutV h0 (i + 1) := by
  funext j
  unfold updV zoutV
  by_cases e : j = i
  · subst e; simp
  · simp only [e, if_false]
    by_cases q : j < i
    · rw [if_pos q, if_pos (by omega)]
    · rw [if_neg q, if_neg (by omega)]
def zfl (s : State) (c comp : ClassId) (N K : Nat) (dv : Value) : Nat → State
  | 0 => s.pushCell (arrV c N (zoutV s.heap.size 0))
  | i + 1 => ((zfl s c comp N K dv i).pushCell (arrV comp K (fun _ => dv))).setCell s.heap.size (arrV c N (zoutV s.heap.size (i + 1)))
theorem zfl_sz (s : State) (c comp : ClassId) (N K : Nat) (dv : Value) : ∀ i, (zfl s c comp N K dv i).heap.size = s.heap.size + 1 + i
  | 0 => by simp [zfl]
  | i + 1 => by
    have := zfl_sz s c comp N K dv i
    simp [zfl, State.setCell, this]
    omega
theorem zfl_vm (s : State) (c comp : ClassId) (N K : Nat) (dv : Value) : ∀ i, (zfl s c comp N K dv i).vm = s.vm
  | 0 => rfl
  | i + 1 => by have := zfl_vm s c comp N K dv i; simp [zfl, this]
theorem zfl_used (s : State) (c comp : ClassId) (N K : Nat) (dv : Value) : ∀ i, (zfl s c comp N K dv i).slotsUsed = s.slotsUsed + N + i * K
  | 0 => by simp [zfl, arrV_size]
  | i + 1 => by
    have := zfl_used s c comp N K dv i
    simp [zfl, this, arrV_size, Nat.succ_mul]
    omega
theorem zfl_out (s : State) (c comp : ClassId) (N K : Nat) (dv : Value) : ∀ i, (zfl s c comp N K dv i).heap[s.heap.size]? = some (arrV c N (zoutV s.heap.size i))
  | 0 => by simp [zfl]
  | i + 1 => by
    have h1 := zfl_sz s c comp N K dv i
    have h2 := zfl_out s c comp N K dv i
    have hlt : s.heap.size < (zfl s c comp N K dv i).heap.size := by omega
    exact State.heap_setCell_self (show ((zfl s c comp N K dv i).pushCell (arrV comp K (fun _ => dv))).heap[s.heap.size]? = some _ by rw [State.heap_pushCell_of_lt (h := hlt)]; exact h2)
theorem zfl_old (s : State) (c comp : ClassId) (N K : Nat) (dv : Value) {a : Addr} (ha : a < s.heap.size) : ∀ i, (zfl s c comp N K dv i).heap[a]? = s.heap[a]?
  | 0 => State.heap_pushCell_of_lt _ _ ha
  | i + 1 => by
    have h1 := zfl_sz s c comp N K dv i
    have hlt : a < (zfl s c comp N K dv i).heap.size := Nat.lt_of_lt_of_le ha (by rw [h1]; omega)
    show (((zfl s c comp N K dv i).pushCell _).setCell s.heap.size _).heap[a]? = _
    rw [State.heap_setCell_other (Nat.ne_of_gt ha), State.heap_pushCell_of_lt (h := hlt)]
    exact zfl_old s c comp N K dv ha i
theorem zfl_in (s : State) (c comp : ClassId) (N K : Nat) (dv : Value) : ∀ i j, j < i → (zfl s c comp N K dv i).heap[s.heap.size + 1 + j]? = some (arrV comp K (fun _ => dv))
  | 0, _, h => absurd h (Nat.not_lt_zero _)
  | i + 1, j, h => by
    have h1 := zfl_sz s c comp N K dv i
    show (((zfl s c comp N K dv i).pushCell _).setCell s.heap.size _).heap[s.heap.size + 1 + j]? = _
    rw [State.heap_setCell_other (show s.heap.size ≠ s.heap.size + 1 + j by omega)]
    by_cases hj : j < i
    · have hlt : s.heap.size + 1 + j < (zfl s c comp N K dv i).heap.size := by omega
      rw [State.heap_pushCell_of_lt (h := hlt)]
      exact zfl_in s c comp N K dv i j hj
    · have e : s.heap.size + 1 + j = (zfl s c comp N K dv i).heap.size := by omega
      rw [e]
      exact State.heap_pushCell_size _ _
theorem zfl_top (s : State) (f : JFrame) (c comp : ClassId) (N K : Nat) (dv : Value) : ∀ i, zfl (s.setTop f) c comp N K dv i = (zfl s c comp N K dv i).setTop f
  | 0 => rfl
  | i + 1 => by simp only [zfl, zfl_top s f c comp N K dv i, State.heap_setTop, State.pushCell_setTop, State.setCell_setTop]
section Multi
variable {E : CtlPost} {e : Env} {d : Bool} {acts : List Action} {s : State}
theorem zwp_newArray {c comp : ClassId} {k : Class} {type : FieldType} {len : Nat} {init : Value} (hk : s.vm.classes[c]? = some k) (hkind : k.kind = .array comp type)
    (hlimit : ¬ len > e.platform.arrayLengthLimit) (hheap : ¬ len * componentBytes type > e.platform.maxHeapBytes) (hfit : fits type init = true) (hdef : init.isDefault = true) {Q : Addr → Pre}
    (h1 : s.heap.size < e.platform.maxCells) (h2 : s.slotsUsed + len ≤ e.platform.maxSlots) (hq : Q s.heap.size d acts (s.pushCell (arrV c len (fun _ => init)))) : wp (Jvm.newArray c len init) Q E e d acts s := by
  rw [← arrV_new] at hq
  have hfits : ∀ i v, (Array.replicate len init)[i]? = some v → s.fitsSlot c .none i v = true := by
    intro i v hv
    rw [Array.getElem?_replicate] at hv
    split at hv
    · cases hv
      simp [State.fitsSlot, State.slotType?, hk, hkind, hfit]
    · cases hv
  have hda : allocActs (Array.replicate len init) s.heap.size acts = acts := by
    have hall : ((Array.replicate len init).all (·.isDefault)) = true := by
      rw [Array.all_replicate]
      split <;> simp [hdef]
    unfold allocActs
    rw [if_pos hall]
  simp only [Jvm.newArray, Jvm.arrayFits, wp_bind', _root_.Jvm.W.ask, _root_.Jvm.W.ite, hlimit, if_false, wp_pure', _root_.Jvm.W.theClass, hk, hkind, hheap, _root_.Jvm.W.alloc, _root_.Jvm.W.stop, Option.some.injEq, exists_eq_left', Array.size_replicate, hda]
  rw [if_neg (by omega)]
  exact ⟨h1, h2, hfits, hq⟩
theorem zwp_make1 {comp cc : ClassId} {kc : Class} {type : FieldType} {m : Int32} (hkc : s.vm.classes[comp]? = some kc) (hkindc : kc.kind = .array cc type) (hm : ¬ m < 0)
    (hl2 : ¬ m.toNatClampNeg > e.platform.arrayLengthLimit) (hh2 : ¬ m.toNatClampNeg * componentBytes type > e.platform.maxHeapBytes) (hdf : fits type (defaultValue type) = true) (hdd : (defaultValue type).isDefault = true)
    (h1 : s.heap.size < e.platform.maxCells) (h2 : s.slotsUsed + m.toNatClampNeg ≤ e.platform.maxSlots) {Q : Addr → Pre} (hq : Q s.heap.size d acts (s.pushCell (arrV comp m.toNatClampNeg (fun _ => defaultValue type)))) : wp (multianewarray.make comp [m]) Q E e d acts s := by
  rw [multianewarray.make]
  simp only [wp_bind', _root_.Jvm.W.ite, hm, if_false, wp_pure', _root_.Jvm.W.theClass, hkc, hkindc, Option.some.injEq, exists_eq_left']
  exact zwp_newArray hkc hkindc hl2 hh2 hdf hdd h1 h2 hq
theorem zwp_make2 {c comp cc : ClassId} {k kc : Class} {t type : FieldType} {n m : Int32} (hk : s.vm.classes[c]? = some k) (hkind : k.kind = .array comp (.array t))
    (hkc : s.vm.classes[comp]? = some kc) (hkindc : kc.kind = .array cc type) (hn : ¬ n < 0) (hm : ¬ m < 0)
    (hl1 : ¬ n.toNatClampNeg > e.platform.arrayLengthLimit) (hh1 : ¬ n.toNatClampNeg * componentBytes (.array t) > e.platform.maxHeapBytes)
    (hl2 : ¬ m.toNatClampNeg > e.platform.arrayLengthLimit) (hh2 : ¬ m.toNatClampNeg * componentBytes type > e.platform.maxHeapBytes) (hdf : fits type (defaultValue type) = true) (hdd : (defaultValue type).isDefault = true)
    (hc : s.heap.size + 1 + n.toNatClampNeg ≤ e.platform.maxCells) (hs : s.slotsUsed + n.toNatClampNeg + n.toNatClampNeg * m.toNatClampNeg ≤ e.platform.maxSlots)
    {Q : Addr → Pre} (hq : ∀ d' acts', Q s.heap.size d' acts' (zfl s c comp n.toNatClampNeg m.toNatClampNeg (defaultValue type) n.toNatClampNeg)) : wp (multianewarray.make c [n, m]) Q E e d acts s := by
  generalize hN : n.toNatClampNeg = N at *
  generalize hK : m.toNatClampNeg = K at *
  have hfind : ([m].find? (· < 0)) = none := by simp [hm]
  rw [multianewarray.make]
  simp only [wp_bind', _root_.Jvm.W.ite, hn, if_false, wp_pure', _root_.Jvm.W.theClass, hk, hkind, Option.some.injEq, exists_eq_left', hN]
  refine zwp_newArray hk hkind hl1 hh1 rfl rfl (by omega) (by have := Nat.zero_le (N * K); omega) ?_
  simp only [hfind]
  rw [ite_self, wp_bind', Std.Legacy.Range.forIn_eq_forIn_range']
  have hsz : ([:N] : Std.Legacy.Range).size = N := by simp [Std.Legacy.Range.size]
  rw [hsz]
  show wp (forIn (List.range' 0 N 1) PUnit.unit _) _ E e d acts _
  refine wp_forIn_inv (fun rest s' => ∃ i, i ≤ N ∧ rest = List.range' i (N - i) ∧ s' = zfl s c comp N K (defaultValue type) i) _ _ ⟨0, Nat.zero_le _, rfl, ?_⟩ ?_ ?_
  · show _ = s.pushCell (arrV c N (zoutV s.heap.size 0))
    congr 1
  · rintro x rest s' d' acts' Q' ⟨i, hi, hl, rfl⟩ hnext
    have hlt : i < N := by
      rcases Nat.lt_or_ge i N with h | h
      · exact h
      · rw [show N - i = 0 by omega] at hl; simp at hl
    obtain ⟨rfl, hrest⟩ : x = i ∧ rest = List.range' (i + 1) (N - (i + 1)) := by
      rw [show N - i = (N - (i + 1)) + 1 by omega, List.range'_succ] at hl
      exact ⟨(List.cons.inj hl).1, (List.cons.inj hl).2⟩
    have f1 := zfl_sz s c comp N K (defaultValue type) x
    have f2 := zfl_out s c comp N K (defaultValue type) x
    have f3 := zfl_vm s c comp N K (defaultValue type) x
    have f4 := zfl_used s c comp N K (defaultValue type) x
    have hmul : x * K + K ≤ N * K := by
      have := Nat.mul_le_mul_right K (show x + 1 ≤ N from hlt)
      rw [Nat.succ_mul] at this
      exact this
    simp only [wp_bind']
    refine zwp_make1 (by rw [f3]; exact hkc) hkindc hm (by rw [hK]; exact hl2) (by rw [hK]; exact hh2) hdf hdd (by rw [f1]; omega) (by rw [f4, hK]; omega) ?_
    rw [hK]
    have hlt0 : s.heap.size < (zfl s c comp N K (defaultValue type) x).heap.size := by omega
    simp only [wp_bind', _root_.Jvm.W.writeLoc, wp_pure']
    refine ⟨arrV c N (zoutV s.heap.size x), by rw [State.heap_pushCell_of_lt (h := hlt0)]; exact f2, (fun q => by cases q), by rw [arrV_size]; exact hlt, ?_, hnext _ _ _ ⟨x + 1, hlt, hrest, ?_⟩⟩
    · simp [State.fitsSlot, State.slotType?, arrV, f3, hk, hkind, fits]
    · rw [f1, arrV_store, zoutV_step]
      rfl
  · rintro s' d' acts' ⟨i, hi, hl, rfl⟩
    have hiN : i = N := by
      rcases Nat.lt_or_ge i N with h | h
      · rw [show N - i = (N - (i + 1)) + 1 by omega, List.range'_succ] at hl; cases hl
      · omega
    subst hiN
    simp only [wp_pure']
    exact hq _ _
end Multi
section Multi2
variable {p : Program} {l : Launch} {e : Env} {R : Room} {s : State} {m : MethodId} {args : Array Value} {below : List Frame} {meth : Method} {c : Code} {T : State} {locs : List Loc} {cells slots : Nat}
theorem zfl_stand (X : Stand p l e R s m args below meth c T locs cells slots) (cA comp : ClassId) (N K : Nat) (dv : Value) : ∀ i, Stand p l e R s m args below meth c (zfl T cA comp N K dv i) (locs ++ (List.range i).map fun j => ⟨T.heap.size, j⟩) (cells + 1 + i) (slots + N + i * K)
  | 0 => by
    have h := X.pushed (arrV cA N (zoutV T.heap.size 0))
    rw [arrV_size] at h
    simpa [zfl] using h
  | i + 1 => by
    have Xi := zfl_stand X cA comp N K dv i
    have f1 := zfl_sz T cA comp N K dv i
    have f2 := zfl_out T cA comp N K dv i
    have hlt0 : T.heap.size < (zfl T cA comp N K dv i).heap.size := by omega
    have hcell : ((zfl T cA comp N K dv i).pushCell (arrV comp K (fun _ => dv))).heap[T.heap.size]? = some (arrV cA N (zoutV T.heap.size i)) := by rw [State.heap_pushCell_of_lt (h := hlt0)]; exact f2
    have h := (Xi.pushed (arrV comp K (fun _ => dv))).stored hcell i (.ref (T.heap.size + 1 + i))
    rw [arrV_size, arrV_store, zoutV_step] at h
    have e2 : (locs ++ (List.range (i + 1)).map fun j => (⟨T.heap.size, j⟩ : Loc)) = (locs ++ (List.range i).map fun j => (⟨T.heap.size, j⟩ : Loc)) ++ [⟨T.heap.size, i⟩] := by simp [List.range_succ, List.append_assoc]
    have e3 : slots + N + (i + 1) * K = slots + N + i * K + K := by rw [Nat.succ_mul]; omega
    rw [e2, e3]
    exact h
theorem zW_multi {Q : State → Prop} {H : Heap} {cc : ByteArray} {pc : Nat} {ls : Array Slot} {rest : List Value} {own : String} {index : Nat} {ty : FieldType} {n k : Int32} {N K : Nat} (hexec : p.tables.exec = Jvm.exec) (hb : c.code = cc)
    (hown : s.vm.findClass own = some m.cls) (hclink : (Cond.classLink own index ("[" ++ (FieldType.array ty).toString)).before args s = true) (hover : (Cond.arrayOver (.array ty)).before args s = true) (harr : (Cond.arrayClass ty).before args s = true)
    (hdg : decode cc pc = .ok (.multianewarray index 2, 4)) (hn : ¬ n < 0) (hk : ¬ k < 0) (hN : n.toNatClampNeg = N) (hK : k.toNatClampNeg = K) (hb1 : N * 4 ≤ 536870912) (hb2 : K * componentBytes ty ≤ 536870912) (hb3 : K ≤ 536870912) (hdf : fits ty (defaultValue ty) = true) (hdd : (defaultValue ty).isDefault = true)
    (hcells : cells + (1 + N) ≤ R.cells) (hslots : slots + (N + N * K) ≤ R.slots)
    (kk : ∀ (H1 : Heap) (locs1 : List Loc) (cA comp : ClassId), s.vm.findClass ("[" ++ (FieldType.array ty).toString) = some cA → s.vm.findClass (FieldType.array ty).toString = some comp → H.size + 1 + N = H1.size → (∀ q : Nat, q < H.size → H1[q]? = H[q]?) → H1[H.size]? = some (arrV cA N (fun j => .ref (H.size + 1 + j))) → (∀ j, j < N → H1[H.size + 1 + j]? = some (arrV comp K (fun _ => defaultValue ty))) → (∀ q ∈ locs1, q ∈ locs ∨ q.base = H.size) →
      W p l e R s m args below meth c H1 locs1 (cells + (1 + N)) (slots + (N + N * K)) Q (F0 m (pc + 4) ls (.ref H.size :: rest))) : W p l e R s m args below meth c H locs cells slots Q (F0 m pc ls (.int k :: .int n :: rest)) := by
  intro T hT X
  subst hT; subst hb; subst hN; subst hK
  have hpl : e.platform.magicAccessors = ({} : Platform).magicAccessors := by rw [X.admits.platform]
  obtain ⟨comp, cA, kA, hcomp, hidx, hkA, hkindA, hnameA⟩ := arrayOverA_spec hover
  obtain ⟨comp', kC, cc', hcomp', hkC, hkindC⟩ := Cond.arrayClass_spec harr
  have ecomp : comp' = comp := Option.some.inj (hcomp'.symm.trans hcomp)
  subst ecomp
  obtain ⟨c0, hfc0, hcl⟩ := Cond.classLink_spec hown hclink e.platform hpl
  cases hnameA.symm.trans hfc0
  obtain ⟨hg₁, hwarm₁, hready₁⟩ := State.classEntry (e := e) X.warmed hcl
  generalize T.vm.noted m.cls index (.cls cA) = vm₁ at hg₁ hwarm₁ hready₁
  have hal : s.vm.Alike vm₁ := hwarm₁.alike
  obtain ⟨kA₁, hkA₁, heA⟩ := hal.2.2 _ _ hkA
  obtain ⟨kC₁, hkC₁, heC⟩ := hal.2.2 _ _ hkC
  have hkindA₁ : kA₁.kind = .array comp' (.array ty) := by rw [heA]; exact hkindA
  have hkindC₁ : kC₁.kind = .array cc' ty := by rw [heC]; exact hkindC
  have X₁ := X.noted hwarm₁
  obtain ⟨hr1, hr2⟩ := X.roomAbove hcells hslots
  have hl1 : ¬ n.toNatClampNeg > e.platform.arrayLengthLimit := by rw [Launch.admits_arrayLengthLimit X.admits]; omega
  have hh1 : ¬ n.toNatClampNeg * componentBytes (.array ty) > e.platform.maxHeapBytes := by
    rw [Launch.admits_maxHeapBytes X.admits]; show ¬ n.toNatClampNeg * 4 > 536870912; omega
  have hl2 : ¬ k.toNatClampNeg > e.platform.arrayLengthLimit := by rw [Launch.admits_arrayLengthLimit X.admits]; omega
  have hh2 : ¬ k.toNatClampNeg * componentBytes ty > e.platform.maxHeapBytes := by rw [Launch.admits_maxHeapBytes X.admits]; omega
  have XF := zfl_stand X₁ cA comp' n.toNatClampNeg k.toNatClampNeg (defaultValue ty) n.toNatClampNeg
  have XG : Stand p l e R s m args below meth c (zfl (T.setVm vm₁) cA comp' n.toNatClampNeg k.toNatClampNeg (defaultValue ty) n.toNatClampNeg) (locs ++ (List.range n.toNatClampNeg).map fun j => ⟨T.heap.size, j⟩) (cells + (1 + n.toNatClampNeg)) (slots + (n.toNatClampNeg + n.toNatClampNeg * k.toNatClampNeg)) := by
    rw [← Nat.add_assoc, ← Nat.add_assoc]; exact XF
  obtain ⟨t, a1, b1⟩ := kk _ _ cA comp' hnameA hcomp (zfl_sz (T.setVm vm₁) cA comp' n.toNatClampNeg k.toNatClampNeg (defaultValue ty) n.toNatClampNeg).symm (fun q hq => zfl_old (T.setVm vm₁) cA comp' _ _ _ hq _)
    (by
      have := zfl_out (T.setVm vm₁) cA comp' n.toNatClampNeg k.toNatClampNeg (defaultValue ty) n.toNatClampNeg
      exact this.trans (congrArg some (zarr_congr (fun j hj => if_pos hj))))
    (fun j hj => zfl_in (T.setVm vm₁) cA comp' n.toNatClampNeg k.toNatClampNeg (defaultValue ty) n.toNatClampNeg j hj)
    (fun q hq => by
      rcases List.mem_append.mp hq with g | g
      · exact Or.inl g
      · obtain ⟨j, -, rfl⟩ := List.mem_map.mp g
        exact Or.inr rfl) _ rfl XG
  refine ⟨t, ?_, b1⟩
  jvm_step X.here [hexec, hdg]
  simp only [multianewarray.sem, wp_bind', _root_.Jvm.W.resolveClassAt_links (State.method?_setTop (F0 m pc ls (.int k :: .int n :: rest)) X.here.top) hg₁]
  rw [_root_.Jvm.W.popN, if_neg (by decide)]
  refine ⟨F0 m pc ls (.int k :: .int n :: rest), State.topJava?_setTop' (s := T.setVm vm₁) _ X.here.top, [.int n, .int k], rest, rfl, rfl, ?_⟩
  simp only [List.mapM_cons, List.mapM_nil, wp_bind', wp_pure']
  refine zwp_make2 (k := kA₁) (kc := kC₁) (comp := comp') (cc := cc') (t := ty) (type := ty) hkA₁ hkindA₁ hkC₁ hkindC₁ hn hk hl1 hh1 hl2 hh2 hdf hdd (by show T.heap.size + 1 + _ ≤ _; omega) (by show T.slotsUsed + _ + _ ≤ _; omega) (fun d' acts' => ?_)
  have eS : ((T.setTop (F0 m pc ls (.int k :: .int n :: rest))).setVm vm₁).setTop { F0 m pc ls (.int k :: .int n :: rest) with stack := rest } = (T.setVm vm₁).setTop { F0 m pc ls (.int k :: .int n :: rest) with stack := rest } := by
    show ((T.setVm vm₁).setTop _).setTop _ = _
    rw [State.setTop_setTop]
  rw [eS, zfl_top]
  simp only [wp_bind', _root_.Jvm.W.mark, _root_.Jvm.W.pushRef, State.topJava?_setTop' _ XF.here.top, Option.some.injEq, exists_eq_left', State.setTop_setTop, State.heap_setTop]
  intro acts
  simp [jvm, XF.here.top]
  exact a1
end Multi2

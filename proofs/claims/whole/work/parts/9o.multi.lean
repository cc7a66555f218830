/-! 9o.multi: new T[n][k] of one machine instruction: the outer array, then its rows, one behind another -/
section MUL
variable {E : CtlPost} {e : Env} {d : Bool} {acts : List Action} {s : State}
/-- the outer array when i of its rows stand, the first of them at h0 + 1 -/
def muO (cA : ClassId) (N h0 : Nat) : Nat → Cell
  | 0 => { cls := cA, slots := Array.replicate N .null, vm := .none }
  | i + 1 => (muO cA N h0 i).setSlot i (.ref (h0 + 1 + i))
def muI (cB : ClassId) (K : Nat) (dv : Value) : Cell := { cls := cB, slots := Array.replicate K dv, vm := .none }
/-- the state when i rows stand -/
def muS (s : State) (cA cB : ClassId) (N K : Nat) (dv : Value) : Nat → State
  | 0 => s.pushCell (muO cA N s.heap.size 0)
  | i + 1 => ((muS s cA cB N K dv i).pushCell (muI cB K dv)).setCell s.heap.size (muO cA N s.heap.size (i + 1))
theorem muO_f (cA : ClassId) (N h0 : Nat) : ∀ i, (muO cA N h0 i).cls = cA ∧ (muO cA N h0 i).vm = .none ∧ (muO cA N h0 i).slots.size = N
  | 0 => ⟨rfl, rfl, by simp [muO]⟩
  | i + 1 => by
    have h := muO_f cA N h0 i
    refine ⟨?_, ?_, ?_⟩
    · simp [muO, Cell.setSlot, h.1]
    · simp [muO, Cell.setSlot, h.2.1]
    · simp [muO, Cell.setSlot, h.2.2]
theorem muS_f (s : State) (cA cB : ClassId) (N K : Nat) (dv : Value) : ∀ i, (muS s cA cB N K dv i).heap.size = s.heap.size + 1 + i ∧ (muS s cA cB N K dv i).heap[s.heap.size]? = some (muO cA N s.heap.size i) ∧ (muS s cA cB N K dv i).vm = s.vm ∧ (muS s cA cB N K dv i).slotsUsed = s.slotsUsed + N + i * K
  | 0 => ⟨by simp [muS], by simp [muS], rfl, by simp [muS, muO]⟩
  | i + 1 => by
    obtain ⟨h1, h2, h3, h4⟩ := muS_f s cA cB N K dv i
    have lt : s.heap.size < (muS s cA cB N K dv i).heap.size := by omega
    have h2' : ((muS s cA cB N K dv i).pushCell (muI cB K dv)).heap[s.heap.size]? = some (muO cA N s.heap.size i) := by rw [State.heap_pushCell_of_lt (h := lt)]; exact h2
    refine ⟨?_, State.heap_setCell_self h2', by simp [muS, h3], ?_⟩
    · simp [muS, State.setCell, h1]; omega
    · simp [muS, h4, muI, Nat.succ_mul]; omega
theorem muS_top (s : State) (f : JFrame) (cA cB : ClassId) (N K : Nat) (dv : Value) : ∀ i, muS (s.setTop f) cA cB N K dv i = (muS s cA cB N K dv i).setTop f
  | 0 => rfl
  | i + 1 => by simp only [muS, muS_top s f cA cB N K dv i, State.heap_setTop, State.pushCell_setTop, State.setCell_setTop]
theorem muS_old (s : State) (cA cB : ClassId) (N K : Nat) (dv : Value) {a : Nat} (ha : a < s.heap.size) : ∀ i, (muS s cA cB N K dv i).heap[a]? = s.heap[a]?
  | 0 => State.heap_pushCell_of_lt _ _ ha
  | i + 1 => by
    have h1 := (muS_f s cA cB N K dv i).1
    have lt : a < (muS s cA cB N K dv i).heap.size := by omega
    show (((muS s cA cB N K dv i).pushCell (muI cB K dv)).setCell s.heap.size _).heap[a]? = _
    rw [State.heap_setCell_other (Nat.ne_of_gt ha), State.heap_pushCell_of_lt (h := lt)]
    exact muS_old s cA cB N K dv ha i
theorem muS_row (s : State) (cA cB : ClassId) (N K : Nat) (dv : Value) : ∀ i j, j < i → (muS s cA cB N K dv i).heap[s.heap.size + 1 + j]? = some (muI cB K dv)
  | 0, j, h => by omega
  | i + 1, j, h => by
    have h1 := (muS_f s cA cB N K dv i).1
    show (((muS s cA cB N K dv i).pushCell (muI cB K dv)).setCell s.heap.size _).heap[s.heap.size + 1 + j]? = _
    rw [State.heap_setCell_other (show s.heap.size ≠ s.heap.size + 1 + j by omega)]
    by_cases hj : j < i
    · have lt : s.heap.size + 1 + j < (muS s cA cB N K dv i).heap.size := by omega
      rw [State.heap_pushCell_of_lt (h := lt)]
      exact muS_row s cA cB N K dv i j hj
    · rw [show s.heap.size + 1 + j = (muS s cA cB N K dv i).heap.size by omega]
      exact State.heap_pushCell_size _ _
theorem muO_a (cA : ClassId) (N h0 : Nat) : ∀ i, muO cA N h0 i = arrV cA N (fun j => if j < i then .ref (h0 + 1 + j) else .null)
  | 0 => by
    show ({ cls := cA, slots := Array.replicate N .null, vm := .none } : Cell) = _
    rw [arrV_new]
    exact congrArg (arrV cA N) (funext fun j => by simp)
  | i + 1 => by
    show (muO cA N h0 i).setSlot i (.ref (h0 + 1 + i)) = _
    rw [muO_a cA N h0 i, arrV_store]
    refine congrArg (arrV cA N) (funext fun j => ?_)
    unfold updV
    by_cases z : j = i
    · subst z; simp
    · by_cases h : j < i
      · simp [z, h, show j < i + 1 by omega]
      · simp [z, h, show ¬ j < i + 1 by omega]
/-! an array of a known kind is made -/
theorem wp_arr {c comp : ClassId} {kc : Class} {ty : FieldType} {len : Nat} {v0 : Value} (hk : s.vm.classes[c]? = some kc) (hkind : kc.kind = .array comp ty)
    (hl : ¬ len > e.platform.arrayLengthLimit) (hb : ¬ len * componentBytes ty > e.platform.maxHeapBytes) (hf : fits ty v0 = true) (hd : v0.isDefault = true) {P : Addr → Pre}
    (h1 : s.heap.size < e.platform.maxCells) (h2 : s.slotsUsed + len ≤ e.platform.maxSlots) (hq : P s.heap.size d acts (s.pushCell { cls := c, slots := Array.replicate len v0, vm := .none })) :
    wp (Jvm.newArray c len v0) P E e d acts s := by
  have hs : ∀ i v, (Array.replicate len v0)[i]? = some v → s.fitsSlot c .none i v = true := fun i v hv => by
    simp only [Array.getElem?_replicate] at hv
    split at hv
    · cases hv
      simp [State.fitsSlot, State.slotType?, hk, hkind, hf]
    · cases hv
  have ha : allocActs (Array.replicate len v0) s.heap.size acts = acts := by
    have : ((Array.replicate len v0).all (·.isDefault)) = true := by
      rw [Array.all_replicate]; split <;> simp [hd]
    unfold allocActs
    rw [if_pos this]
  simp only [Jvm.newArray, Jvm.arrayFits, wp_bind', W.ask, W.ite, hl, if_false, wp_pure', W.theClass, hk, hkind, hb, W.alloc, W.stop, Option.some.injEq, exists_eq_left', Array.size_replicate, ha]
  rw [if_neg (by omega)]
  exact ⟨h1, h2, hs, hq⟩
theorem fit_ref {ty : FieldType} (h : ty.isReference = true) (v : Value) (hv : v = .null ∨ ∃ a, v = .ref a) : fits ty v = true := by
  rcases hv with rfl | ⟨a, rfl⟩ <;> cases ty <;> simp [FieldType.isReference] at h <;> rfl
theorem wp_row {cB cc : ClassId} {kc : Class} {ty : FieldType} {k : Int32} (hkc : s.vm.classes[cB]? = some kc) (hkind : kc.kind = .array cc ty) (hk : ¬ k < 0)
    (hl : ¬ k.toNatClampNeg > e.platform.arrayLengthLimit) (hb : ¬ k.toNatClampNeg * componentBytes ty > e.platform.maxHeapBytes) (hf : fits ty (defaultValue ty) = true) (hd : (defaultValue ty).isDefault = true)
    (h1 : s.heap.size < e.platform.maxCells) (h2 : s.slotsUsed + k.toNatClampNeg ≤ e.platform.maxSlots) {P : Addr → Pre} (hq : P s.heap.size d acts (s.pushCell (muI cB k.toNatClampNeg (defaultValue ty)))) :
    wp (multianewarray.make cB [k]) P E e d acts s := by
  rw [multianewarray.make]
  simp only [wp_bind', W.ite, hk, if_false, wp_pure', W.theClass, hkc, hkind, Option.some.injEq, exists_eq_left']
  exact wp_arr hkc hkind hl hb hf hd h1 h2 hq
theorem wp_two {cA cB cc : ClassId} {ka kc : Class} {t0 ty : FieldType} {n k : Int32} (hka : s.vm.classes[cA]? = some ka) (hkia : ka.kind = .array cB t0) (hrf : t0.isReference = true)
    (hkc : s.vm.classes[cB]? = some kc) (hkic : kc.kind = .array cc ty) (hn : ¬ n < 0) (hk : ¬ k < 0)
    (hl1 : ¬ n.toNatClampNeg > e.platform.arrayLengthLimit) (hb1 : ¬ n.toNatClampNeg * componentBytes t0 > e.platform.maxHeapBytes)
    (hl2 : ¬ k.toNatClampNeg > e.platform.arrayLengthLimit) (hb2 : ¬ k.toNatClampNeg * componentBytes ty > e.platform.maxHeapBytes)
    (hf : fits ty (defaultValue ty) = true) (hd : (defaultValue ty).isDefault = true)
    (hc : s.heap.size + 1 + n.toNatClampNeg ≤ e.platform.maxCells) (hs : s.slotsUsed + n.toNatClampNeg + n.toNatClampNeg * k.toNatClampNeg ≤ e.platform.maxSlots)
    {P : Addr → Pre} (hq : ∀ d' acts', P s.heap.size d' acts' (muS s cA cB n.toNatClampNeg k.toNatClampNeg (defaultValue ty) n.toNatClampNeg)) : wp (multianewarray.make cA [n, k]) P E e d acts s := by
  have none0 : ([k].find? (· < 0)) = none := by simp [hk]
  rw [multianewarray.make]
  simp only [wp_bind', W.ite, hn, if_false, wp_pure', W.theClass, hka, hkia, Option.some.injEq, exists_eq_left']
  refine wp_arr hka hkia hl1 hb1 (fit_ref hrf _ (Or.inl rfl)) rfl (by omega) (by have := Nat.zero_le (n.toNatClampNeg * k.toNatClampNeg); omega) ?_
  simp only [none0]
  rw [ite_self, wp_bind', Std.Legacy.Range.forIn_eq_forIn_range']
  rw [show ([:n.toNatClampNeg] : Std.Legacy.Range).size = n.toNatClampNeg by simp [Std.Legacy.Range.size]]
  show wp (forIn (List.range' 0 n.toNatClampNeg 1) PUnit.unit _) _ E e d acts _
  refine wp_forIn_inv (fun rest s' => ∃ i, i ≤ n.toNatClampNeg ∧ rest = List.range' i (n.toNatClampNeg - i) ∧ s' = muS s cA cB n.toNatClampNeg k.toNatClampNeg (defaultValue ty) i) _ _ ⟨0, Nat.zero_le _, rfl, rfl⟩ ?_ ?_
  · rintro x rest s' d' acts' P' ⟨i, hi, hl, rfl⟩ hnext
    have hlt : i < n.toNatClampNeg := Nat.lt_of_not_le (fun h => by rw [show n.toNatClampNeg - i = 0 by omega] at hl; simp at hl)
    rw [show n.toNatClampNeg - i = (n.toNatClampNeg - (i + 1)) + 1 by omega, List.range'_succ] at hl
    obtain ⟨rfl, hrest⟩ := List.cons.inj hl
    obtain ⟨f1, f2, f3, f4⟩ := muS_f s cA cB n.toNatClampNeg k.toNatClampNeg (defaultValue ty) x
    obtain ⟨o1, o2, o3⟩ := muO_f cA n.toNatClampNeg s.heap.size x
    have hmul : x * k.toNatClampNeg + k.toNatClampNeg ≤ n.toNatClampNeg * k.toNatClampNeg := by
      have := Nat.mul_le_mul_right k.toNatClampNeg (show x + 1 ≤ n.toNatClampNeg from hlt)
      rw [Nat.succ_mul] at this
      exact this
    simp only [wp_bind']
    refine wp_row (by rw [f3]; exact hkc) hkic hk hl2 hb2 hf hd (by rw [f1]; omega) (by rw [f4]; omega) ?_
    have lt0 : s.heap.size < (muS s cA cB n.toNatClampNeg k.toNatClampNeg (defaultValue ty) x).heap.size := by omega
    simp only [wp_bind', W.writeLoc, wp_pure']
    refine ⟨muO cA n.toNatClampNeg s.heap.size x, by rw [State.heap_pushCell_of_lt (h := lt0)]; exact f2, by rw [o2]; simp, by rw [o3]; exact hlt, ?_, hnext _ _ _ ⟨x + 1, hlt, hrest, ?_⟩⟩
    · rw [o1, o2]
      simp [State.fitsSlot, State.slotType?, f3, hka, hkia, fit_ref hrf _ (Or.inr ⟨_, rfl⟩)]
    · rw [f1]; rfl
  · rintro s' d' acts' ⟨i, hi, hl, rfl⟩
    have hiN : i = n.toNatClampNeg := by
      rcases Nat.lt_or_ge i n.toNatClampNeg with h | h
      · rw [show n.toNatClampNeg - i = (n.toNatClampNeg - (i + 1)) + 1 by omega, List.range'_succ] at hl
        cases hl
      · omega
    subst hiN
    simp only [wp_pure']
    exact hq _ _
end MUL
section MUW
variable {p : Program} {l : Launch} {e : Env} {R : Room} {s : State} {m : MethodId} {args : Array Value} {below : List Frame} {meth : Method} {c : Code} {T : State} {locs : List Loc} {cells slots : Nat}
theorem muX (X : Stand p l e R s m args below meth c T locs cells slots) (cA cB : ClassId) (N K : Nat) (dv : Value) :
    ∀ i, Stand p l e R s m args below meth c (muS T cA cB N K dv i) (locs ++ (List.range i).map fun j => ⟨T.heap.size, j⟩) (cells + 1 + i) (slots + N + i * K)
  | 0 => by
    have h := X.pushed (muO cA N T.heap.size 0)
    rw [(muO_f cA N T.heap.size 0).2.2] at h
    simpa [muS] using h
  | i + 1 => by
    have Xi := muX X cA cB N K dv i
    obtain ⟨f1, f2, f3, f4⟩ := muS_f T cA cB N K dv i
    have lt0 : T.heap.size < (muS T cA cB N K dv i).heap.size := by omega
    have hcell : ((muS T cA cB N K dv i).pushCell (muI cB K dv)).heap[T.heap.size]? = some (muO cA N T.heap.size i) := by rw [State.heap_pushCell_of_lt (h := lt0)]; exact f2
    have h := (Xi.pushed (muI cB K dv)).stored hcell i (.ref (T.heap.size + 1 + i))
    rw [show (muI cB K dv).slots.size = K by simp [muI]] at h
    rw [show (locs ++ (List.range (i + 1)).map fun j => (⟨T.heap.size, j⟩ : Loc)) = (locs ++ (List.range i).map fun j => (⟨T.heap.size, j⟩ : Loc)) ++ [⟨T.heap.size, i⟩] by simp [List.range_succ, List.append_assoc], show slots + N + (i + 1) * K = slots + N + i * K + K by rw [Nat.succ_mul]; omega]
    exact h
/-- one row of the machine: two counts go, the outer array comes -/
theorem W_multi {Q : State → Prop} {H : Heap} {cc : ByteArray} (hexec : p.tables.exec = Jvm.exec) (hbc : c.code = cc) {own : String} {index : Nat} {ty : FieldType}
    (hown : s.vm.findClass own = some m.cls) (hcl : (Cond.classLink own index ("[" ++ (FieldType.array ty).toString)).before args s = true)
    (harr : (Cond.arrayClass ty).before args s = true) {cA cB : ClassId} {kA : Class} (hcB : s.vm.findClass (FieldType.array ty).toString = some cB) (hkA : s.vm.classes[cA]? = some kA) (hkindA : kA.kind = .array cB (.array ty)) (hnameA : s.vm.findClass ("[" ++ (FieldType.array ty).toString) = some cA)
    {pc : Nat} {ls : Array Slot} (hdg : decode cc pc = .ok (.multianewarray index 2, 4)) {n k : Int32} {N K : Nat} {rest : List Value}
    (hn : ¬ n < 0) (hk : ¬ k < 0) (eN : n.toNatClampNeg = N) (eK : k.toNatClampNeg = K) (hb1 : N * 4 ≤ 536870912) (hb2 : K * componentBytes ty ≤ 536870912) (hb3 : K ≤ 536870912)
    (hdf : fits ty (defaultValue ty) = true) (hdd : (defaultValue ty).isDefault = true) (hcells : cells + (1 + N) ≤ R.cells) (hslots : slots + (N + N * K) ≤ R.slots)
    (kk : ∀ (H' : Heap), H'.size = H.size + 1 + N → (∀ q, q < H.size → H'[q]? = H[q]?) → H'[H.size]? = some (arrV cA N (fun j => if j < N then .ref (H.size + 1 + j) else .null)) → (∀ j, j < N → H'[H.size + 1 + j]? = some (arrV cB K (fun _ => defaultValue ty))) →
      W p l e R s m args below meth c H' locs (cells + 1 + N) (slots + N + N * K) Q (F0 m (pc + 4) ls (.ref H.size :: rest))) :
    W p l e R s m args below meth c H locs cells slots Q (F0 m pc ls (.int k :: .int n :: rest)) := by
  subst eN eK
  intro T hT X
  have hpl : e.platform.magicAccessors = ({} : Platform).magicAccessors := by rw [X.admits.platform]
  obtain ⟨cB', kC, c2, hcB', hkC, hkindC⟩ := Cond.arrayClass_spec harr
  cases Option.some.inj (hcB'.symm.trans hcB)
  obtain ⟨c0, hfc0, hcl0⟩ := Cond.classLink_spec hown hcl e.platform hpl
  cases Option.some.inj (hnameA.symm.trans hfc0)
  obtain ⟨hg1, hwarm, hready⟩ := State.classEntry (e := e) X.warmed hcl0
  generalize T.vm.noted m.cls index (.cls cA) = vm1 at hg1 hwarm hready
  obtain ⟨kA1, hkA1, heA⟩ := hwarm.alike.2.2 _ _ hkA
  obtain ⟨kC1, hkC1, heC⟩ := hwarm.alike.2.2 _ _ hkC
  have hkindA1 : kA1.kind = .array cB (.array ty) := by rw [heA]; exact hkindA
  have hkindC1 : kC1.kind = .array c2 ty := by rw [heC]; exact hkindC
  have X1 := X.noted hwarm
  obtain ⟨hr1, hr2⟩ := X.roomAbove hcells hslots
  have XF := muX X1 cA cB n.toNatClampNeg k.toNatClampNeg (defaultValue ty) n.toNatClampNeg
  have XF' := XF.dropFresh (fun x hx => by
    obtain ⟨j, -, rfl⟩ := List.mem_map.mp hx
    exact X.heapGrown)
  have hTh : (T.setVm vm1).heap = H := hT
  obtain ⟨f1, f2, -, -⟩ := muS_f (T.setVm vm1) cA cB n.toNatClampNeg k.toNatClampNeg (defaultValue ty) n.toNatClampNeg
  rw [muO_a] at f2
  have fo : ∀ q, q < H.size → (muS (T.setVm vm1) cA cB n.toNatClampNeg k.toNatClampNeg (defaultValue ty) n.toNatClampNeg).heap[q]? = H[q]? := fun q hq => by
    rw [muS_old (T.setVm vm1) cA cB n.toNatClampNeg k.toNatClampNeg (defaultValue ty) (a := q) (by rw [hTh]; exact hq), hTh]
  have fr : ∀ j, j < n.toNatClampNeg → (muS (T.setVm vm1) cA cB n.toNatClampNeg k.toNatClampNeg (defaultValue ty) n.toNatClampNeg).heap[H.size + 1 + j]? = some (arrV cB k.toNatClampNeg (fun _ => defaultValue ty)) := fun j hj => by
    have z := muS_row (T.setVm vm1) cA cB n.toNatClampNeg k.toNatClampNeg (defaultValue ty) n.toNatClampNeg j hj
    rw [hTh] at z
    rw [z]
    show some ({ cls := cB, slots := Array.replicate k.toNatClampNeg (defaultValue ty), vm := .none } : Cell) = _
    rw [arrV_new]
  rw [hTh] at f1 f2
  obtain ⟨t, st, qt⟩ := kk _ f1 fo f2 fr _ rfl XF'
  refine ⟨t, ?_, qt⟩
  have hl1 : ¬ n.toNatClampNeg > e.platform.arrayLengthLimit := by rw [Launch.admits_arrayLengthLimit X.admits]; omega
  have hh1 : ¬ n.toNatClampNeg * componentBytes (.array ty) > e.platform.maxHeapBytes := by
    rw [Launch.admits_maxHeapBytes X.admits]
    show ¬ n.toNatClampNeg * 4 > 536870912
    omega
  have hl2 : ¬ k.toNatClampNeg > e.platform.arrayLengthLimit := by rw [Launch.admits_arrayLengthLimit X.admits]; omega
  have hh2 : ¬ k.toNatClampNeg * componentBytes ty > e.platform.maxHeapBytes := by rw [Launch.admits_maxHeapBytes X.admits]; omega
  subst hbc
  generalize hg : F0 m pc ls (.int k :: .int n :: rest) = g at *
  have gm : g.method = m := by rw [← hg]
  have gp : g.pc = pc := by rw [← hg]
  have gs : g.stack = .int k :: .int n :: rest := by rw [← hg]
  have gF : { g with pc := g.pc + 4, stack := .ref H.size :: rest } = F0 m (pc + 4) ls (.ref H.size :: rest) := by rw [← hg]
  rw [← gF] at st
  rw [← gp] at hdg
  subst gm
  jvm_step X.here [hexec, hdg]
  simp only [multianewarray.sem, wp_bind', W.resolveClassAt_links (State.method?_setTop g X.here.top) hg1]
  rw [W.popN, if_neg (by decide)]
  refine ⟨g, State.topJava?_setTop' (s := T.setVm vm1) g X.here.top, [.int n, .int k], rest, rfl, gs, ?_⟩
  simp only [List.mapM_cons, List.mapM_nil, wp_bind', wp_pure']
  refine wp_two (ka := kA1) (kc := kC1) (cB := cB) (cc := c2) (t0 := .array ty) (ty := ty) hkA1 hkindA1 rfl hkC1 hkindC1 hn hk hl1 hh1 hl2 hh2 hdf hdd (by show T.heap.size + 1 + _ ≤ _; omega) (by show T.slotsUsed + _ + _ ≤ _; omega) (fun d' acts' => ?_)
  have eS : ((T.setTop g).setVm vm1).setTop { g with stack := rest } = (T.setVm vm1).setTop { g with stack := rest } := by
    show ((T.setVm vm1).setTop g).setTop _ = _
    rw [State.setTop_setTop]
  rw [eS, muS_top]
  simp only [wp_bind', W.mark, W.pushRef, State.topJava?_setTop' _ XF.here.top, Option.some.injEq, exists_eq_left', State.setTop_setTop, State.heap_setTop]
  intro acts
  simp [jvm, XF.here.top]
  rw [show T.heap.size = H.size by rw [hT]]
  exact st
end MUW

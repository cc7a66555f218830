/-! 02.am: the abstract values, the memory, what the heap holds of it, the judgements TT (at a place of a method) and CC (a call). All of it is this claim's writer's own. -/
abbrev AV : Type := Int ⊕ (Int ⊕ Option (Nat × Nat × Nat))
abbrev vi (x : Int) : AV := Sum.inl x
abbrev vl (x : Int) : AV := Sum.inr (Sum.inl x)
abbrev vn : AV := Sum.inr (Sum.inr none)
abbrev vr (o f r : Nat) : AV := Sum.inr (Sum.inr (some (o, f, r)))
/-- object, field (0: the object itself; k + 1: field k), row (0: the array itself; i + 1: its row i), column -/
abbrev Mem : Type := Nat → Nat → Nat → Nat → Int
def up (σ : Mem) (o f r c : Nat) (v : Int) : Mem := fun o' f' r' c' => if o' = o ∧ f' = f ∧ r' = r ∧ c' = c then v else σ o' f' r' c'
def I32 (x : Int) : Prop := -2147483648 ≤ x ∧ x ≤ 2147483647
def I64 (x : Int) : Prop := -9223372036854775808 ≤ x ∧ x ≤ 9223372036854775807
def w64 (x : Int) : Int := (x + 9223372036854775808) % 18446744073709551616 - 9223372036854775808
def w32 (x : Int) : Int := (x + 2147483648) % 4294967296 - 2147483648
def w8 (x : Int) : Int := (x + 128) % 256 - 128
def band (a b : Int) : Int := (Int32.ofInt a &&& Int32.ofInt b).toInt
def bor (a b : Int) : Int := (Int32.ofInt a ||| Int32.ofInt b).toInt
def bxor (a b : Int) : Int := (Int32.ofInt a ^^^ Int32.ofInt b).toInt
def land64 (a b : Int) : Int := (Int64.ofInt a &&& Int64.ofInt b).toInt
def lor64 (a b : Int) : Int := (Int64.ofInt a ||| Int64.ofInt b).toInt
/-- the class (by its number) of an object (by its number): 0 DarkStreet, 1, 2 its towns, 3 to 6 images, 7 reader, 8 quarters, 9 walks, 10 turns, 11 hearsay, 12 the reader's first rule, 13 to 20 rules, 21 the check -/
def cls (o : Nat) : Nat := if o = 0 then 7 else if o < 7 then 4 else if o = 7 then 2 else if o = 8 then 1 else if o = 9 then 6 else if o = 10 then 5 else if o = 11 then 0 else if o < 21 then 3 else 8
def lay (c k : Nat) : Nat × Nat × Nat × Nat := (layT.getD c []).getD k (99, 0, 0, 0)
/-- mutable references in memory: 0 is null -/
def enc (o f r : Nat) : Int := ((1 + o + 64 * f + 16384 * r : Nat) : Int)
def dec (x : Int) : AV := if x = 0 then vn else vr ((x.toNat - 1) % 64) ((x.toNat - 1) / 64 % 256) ((x.toNat - 1) / 16384)
theorem dec_enc (o f r : Nat) (ho : o < 64) (hf : f < 256) : dec (enc o f r) = vr o f r := by
  unfold dec enc
  rw [if_neg (by omega)]
  simp only [Int.toNat_natCast]
  rw [show (1 + o + 64 * f + 16384 * r - 1) % 64 = o by omega, show (1 + o + 64 * f + 16384 * r - 1) / 64 % 256 = f by omega, show (1 + o + 64 * f + 16384 * r - 1) / 16384 = r by omega]
def adr (ob : Nat → Nat) (o f r : Nat) : Nat := if f = 0 ∨ f = 999 then ob o else ob o + (lay (cls o) (f - 1)).2.2.2 + r
def val (ob : Nat → Nat) : AV → Value
  | .inl x => .int (Int32.ofInt x)
  | .inr (.inl x) => .long (Int64.ofInt x)
  | .inr (.inr none) => .null
  | .inr (.inr (some q)) => .ref (adr ob q.1 q.2.1 q.2.2)
/-- launch; class ids, slots, array class ids; the first address of ours; the script's length and ints; where the strings' bytes stand -/
abbrev Gl : Type := Launch × ((Nat → ClassId) × (Nat → Nat → Nat) × (Nat → ClassId)) × Nat × (Nat × (Nat → Int)) × (Nat → Nat)
abbrev Wd : Type := Nat → Bool
def born (w : Wd) (o : Nat) : Prop := (o < 3 ∨ (7 ≤ o ∧ o ≤ 12) ∨ o = 21 ∨ w o = true) ∧ o < 22
def arow (q : Nat × Nat × Nat × Nat) (r : Nat) : Prop := 10 ≤ q.1 ∧ q.1 < 22 ∧ (q.1 < 20 → r = 0) ∧ (20 ≤ q.1 → r ≤ q.2.1)
def vloc (w : Wd) (o f r : Nat) : Prop := born w o ∧ ((f = 0 ∧ r = 0) ∨ (0 < f ∧ arow (lay (cls o) (f - 1)) r))
def vld (w : Wd) (o f r : Nat) : Prop := (999 ≤ o ∧ (f = 0 ∨ f = 999) ∧ r = 0) ∨ vloc w o f r
def akk (q : Nat × Nat × Nat × Nat) (r : Nat) : Nat × Nat := if q.1 < 20 then (q.1, q.2.1) else if r = 0 then (15, q.2.1) else (q.1 - 10, q.2.2.1)
def acd (q : Nat × Nat × Nat × Nat) (r : Nat) : Nat := if q.1 < 14 then q.1 - 10 else if q.1 = 14 then q.2.2.1 else if r = 0 then q.1 - 16 else q.1 - 20
def wfv (w : Wd) : AV → Prop
  | .inl x => I32 x
  | .inr (.inl x) => I64 x
  | .inr (.inr none) => True
  | .inr (.inr (some q)) => vld w q.1 q.2.1 q.2.2
def gfv (q : Nat × Nat × Nat × Nat) (o k : Nat) (σ : Mem) : AV := if q.1 = 0 then vi (σ o (k + 1) 0 0) else if q.1 = 2 then vi (σ o (k + 1) 0 0) else if q.1 = 1 then vl (σ o (k + 1) 0 0) else if q.1 = 3 then dec (σ o (k + 1) 0 0) else if q.1 = 4 then vr q.2.1 0 0 else vr o (k + 1) 0
def elv (ob : Nat → Nat) (σ : Mem) (o f r j : Nat) : Value :=
  if (akk (lay (cls o) (f - 1)) r).1 = 11 then .long (Int64.ofInt (σ o f r j)) else if (akk (lay (cls o) (f - 1)) r).1 = 14 then val ob (dec (σ o f r j)) else if (akk (lay (cls o) (f - 1)) r).1 = 15 then .ref (adr ob o f (j + 1)) else .int (Int32.ofInt (σ o f r j))
def fval (ob : Nat → Nat) (σ : Mem) (o k : Nat) : Value := val ob (gfv (lay (cls o) k) o k σ)
def NF (c : Nat) : Nat := NFT.getD c 0
def Rep (G : Gl) (w : Wd) (ob : Nat → Nat) (σ : Mem) (H : Heap) : Prop :=
  (∀ o, born w o → t_OB (ob o) (G.2.1.1 (cls o)) (NF (cls o)) (G.2.1.2.1 (cls o)) H (fval ob σ o)) ∧
  (∀ o f r, born w o → 0 < f → arow (lay (cls o) (f - 1)) r → H[adr ob o f r]? = some (arrV (G.2.1.2.2 (acd (lay (cls o) (f - 1)) r)) (akk (lay (cls o) (f - 1)) r).2 (elv ob σ o f r))) ∧
  (∀ o f r o' f' r', vloc w o f r → vloc w o' f' r' → adr ob o f r = adr ob o' f' r' → o = o' ∧ f = f' ∧ r = r') ∧
  (∀ o f r, vloc w o f r → G.2.2.1 ≤ adr ob o f r)
def isL (o f : Nat) : Prop := (lay (cls o) (f - 1)).1 = 1 ∨ (lay (cls o) (f - 1)).1 = 11 ∨ (lay (cls o) (f - 1)).1 = 21
def wfσ (σ : Mem) : Prop := ∀ o f r c, (isL o f → I64 (σ o f r c)) ∧ (¬ isL o f → I32 (σ o f r c))
def TYS (G : Gl) : List (ClassId × FieldType) := [(G.2.1.2.2 0, .int), (G.2.1.2.2 1, .long), (G.2.1.2.2 2, .boolean), (G.2.1.2.2 3, .byte), (G.2.1.2.2 4, .array .int), (G.2.1.2.2 5, .array .long), (G.2.1.2.2 6, .object "DarkStreet$Town"), (G.2.1.2.2 7, .object "DarkStreet$Rule")]
def KK (G : Gl) (s : State) : Prop := va_K (G.2.1.1, G.2.1.2.1) vwCl (TYS G) s
/-- at a stands an object that is exactly a String -/
def EX (a : Nat) (U : State) (H : Heap) : Prop := ∃ (cell : Cell) (k : Class), H[a]? = some cell ∧ cell.vm.isStatics = false ∧ U.vm.findClass "java/lang/String" = some cell.cls ∧ U.vm.classes[cell.cls]? = some k ∧ (k.kind = .ordinary → cell.slots.size = k.instanceTypes.size)
/-- its field n holds v -/
def FA (n d : String) (v : Value) (a : Nat) (U : State) (H : Heap) : Prop := ∃ (cf : ClassId) (k : Class) (i : Nat) (f : Field) (cell : Cell), U.fieldFound? "java/lang/String" n d = some (cf, k, i, f) ∧ f.isStatic = false ∧ H[a]? = some cell ∧ cell.vm ≠ .unknown ∧ cell.vm.isStatics = false ∧ U.vm.assignable cell.cls cf = true ∧ cell.slots[f.slot]? = some v
/-- rows of rows: their class and its component's -/
def KO (G : Gl) (s : State) : Prop := (∃ k, s.vm.classes[G.2.1.2.2 4]? = some k ∧ k.kind = .array (G.2.1.2.2 0) (.array .int)) ∧ ∃ k, s.vm.classes[G.2.1.2.2 5]? = some k ∧ k.kind = .array (G.2.1.2.2 1) (.array .long)
/-- the links from class to class within the nest (constructors) -/
def nstL : List (String × Nat × MethodName) := [("DarkStreet", 9, ⟨"DarkStreet$Town", "<init>", "()V"⟩), ("DarkStreet", 35, ⟨"DarkStreet$Reader", "<init>", "()V"⟩), ("DarkStreet", 42, ⟨"DarkStreet$Quarters", "<init>", "()V"⟩), ("DarkStreet", 49, ⟨"DarkStreet$Walks", "<init>", "()V"⟩), ("DarkStreet", 56, ⟨"DarkStreet$Turns", "<init>", "()V"⟩), ("DarkStreet", 63, ⟨"DarkStreet$Hearsay", "<init>", "()V"⟩), ("DarkStreet", 124, ⟨"DarkStreet$Rule", "<init>", "()V"⟩), ("DarkStreet$Reader", 17, ⟨"DarkStreet$Rule", "<init>", "()V"⟩)]
/-- what making objects asks besides -/
def KX (G : Gl) (s : State) : Prop := KO G s ∧ (∀ q ∈ nstL, va_Nw (.methodLinkNest q.1 q.2.1 q.2.2 "DarkStreet") s) ∧ va_AO "DarkStreet$Town" s ∧ va_AO "DarkStreet$Rule" s
/-- what reading a string asks besides: two words of the JDK's; the strings are such -/
def SZ (G : Gl) (ob : Nat → Nat) (U : State) (H : Heap) : Prop := va_Z "java/lang/String" "COMPACT_STRINGS" "Z" (.int 1) (fun q => G.2.2.1 ≤ q) U H ∧ (∃ t : Value, (t = .null ∨ ∃ a, t = .ref a) ∧ va_Z "jdk/internal/util/Preconditions" "SIOOBE_FORMATTER" "Ljava/util/function/BiFunction;" t (fun q => G.2.2.1 ≤ q) U H) ∧ (∀ i, i < 24 → ob (1000 + i) < G.2.2.1 ∧ EX (ob (1000 + i)) U H ∧ FA "coder" "B" (.int 0) (ob (1000 + i)) U H ∧ FA "value" "[B" (.ref (G.2.2.2.2 i)) (ob (1000 + i)) U H) ∧ KX G U
def SS (G : Gl) (ob : Nat → Nat) (U : State) (H : Heap) : Prop :=
  ob 999 < G.2.2.1 ∧ va_X (ob 999) G.2.2.2.1.1 (fun j => Int32.ofInt (G.2.2.2.1.2 j)) U H ∧ (∀ j, I32 (G.2.2.2.1.2 j)) ∧ G.2.2.2.1.1 ≤ 4096 ∧
  vk_S 24 strL strB (fun i => ob (1000 + i)) G.2.2.2.2 (fun q => G.2.2.1 ≤ q) U H ∧
  (∀ i, i < 24 → vk_R (strO.getD i ("", 0, "")).1 (strO.getD i ("", 0, "")).2.1 (strO.getD i ("", 0, "")).2.2 (ob (1000 + i)) U) ∧ SZ G ob U H
def WT : List Cond := lw_tbl.filter goodWord
theorem WT_good : WT.all goodWord = true := by simp [WT]
theorem WT_in {w : Cond} (h : w ∈ lw_tbl) (hg : goodWord w = true) : w ∈ WT := List.mem_filter.mpr ⟨h, hg⟩
def yn (mi : Nat) : MethodName := (MT.getD mi (⟨"", "", ""⟩, 0, none, 0, 0)).1
def nL (mi : Nat) : Nat := (MT.getD mi (⟨"", "", ""⟩, 0, none, 0, 0)).2.1
def rt (mi : Nat) : Option FieldType := (MT.getD mi (⟨"", "", ""⟩, 0, none, 0, 0)).2.2.1
def own (mi : Nat) : Nat := (MT.getD mi (⟨"", "", ""⟩, 0, none, 0, 0)).2.2.2.1
def nA (mi : Nat) : Nat := (MT.getD mi (⟨"", "", ""⟩, 0, none, 0, 0)).2.2.2.2
def bc (mi : Nat) : ByteArray := BT.getD mi ⟨#[]⟩
def RN (c : Nat) : String := RNT.getD c ""
def wsm (mi : Nat) : List Cond := Cond.code (yn mi) (bc mi) (nL mi) (rt mi) :: WT
def rmk (k mc ms : Nat) : Room := { frames := k, cells := mc, slots := ms, locals := 64 * k }
def PP (G : Gl) (w : Wd) (ob : Nat → Nat) (as : List AV) (σ : Mem) : Array Value → State → Prop := fun a U =>
  a = (as.map (val ob)).toArray ∧ Rep G w ob σ U.heap ∧ KK G U ∧ SS G ob U U.heap ∧ wfσ σ ∧ G.2.2.1 ≤ U.heap.size
def QQ (G : Gl) (w : Wd) (ob : Nat → Nat) (w2 : Wd) (Q : Option AV → Mem → Prop) : Array Value → State → Outcome → State → Prop := fun _ st oc t =>
  ∃ (ob' : Nat → Nat) (rv : Option AV) (σ' : Mem), oc = .returned (rv.map (val ob')) ∧ (∀ o, born w o ∨ 999 ≤ o → ob' o = ob o) ∧ Rep G w2 ob' σ' t.heap ∧ wfσ σ' ∧ (∀ v, rv = some v → wfv w2 v) ∧ Q rv σ' ∧
    st.heap.size ≤ t.heap.size ∧ ∀ q : Nat, q < G.2.2.1 → t.heap[q]? = st.heap[q]?
def CC (G : Gl) (w w2 : Wd) (k : Nat) (rc : Nat × Nat) (mi : Nat) (as : List AV) (σ : Mem) (Q : Option AV → Mem → Prop) : Prop :=
  ∀ ob : Nat → Nat, (∀ v ∈ as, wfv w v) → Met G.1 (yn mi) (wsm mi) (rmk k rc.1 rc.2) (PP G w ob as σ) (QQ G w ob w2 Q) rc.1 rc.2 (fun q => G.2.2.1 ≤ q)
def lg (ls : List (Option AV)) (i : Nat) : Option AV := match ls, i with
  | [], _ => none
  | x :: _, 0 => x
  | _ :: t, i + 1 => lg t i
def isLg : Option AV → Bool
  | some (.inr (.inl _)) => true
  | _ => false
/-- a value of one slot into place i -/
def ls1 (ls : List (Option AV)) (i : Nat) (v : AV) : List (Option AV) := match ls, i with
  | [], _ => []
  | _ :: t, 0 => some v :: t
  | x :: t, i + 1 => (if i = 0 ∧ isLg x = true then none else x) :: ls1 t i v
/-- a long into places i and i + 1 -/
def ls2 (ls : List (Option AV)) (i : Nat) (v : AV) : List (Option AV) := match ls, i with
  | [], _ => []
  | _ :: _ :: t, 0 => some v :: none :: t
  | _ :: [], 0 => []
  | x :: t, i + 1 => (if i = 0 ∧ isLg x = true then none else x) :: ls2 t i v
def LH (ob : Nat → Nat) (ls : List (Option AV)) (lsr : Array Slot) (n : Nat) : Prop := lsr.size = n ∧ ls.length = n ∧ lv_wf lsr ∧ ∀ i v, lg ls i = some v → lsr[i]? = some (.val (val ob v))
/-- what holds of the machine at a place of method mi -/
def Cx (mi : Nat) (p : Program) (s : State) (m : MethodId) (args : Array Value) (meth : Method) (c : Code) : Prop :=
  p.tables.exec = Jvm.exec ∧ c.code = bc mi ∧ meth.sig.returnType = rt mi ∧ c.maxLocals = nL mi ∧ s.vm.findClass (RN (own mi)) = some m.cls ∧ (∀ w ∈ WT, w.before args s = true) ∧ meth.locks = false
def Fr (G : Gl) (s : State) (H : Heap) (locs : List Loc) : Prop := s.heap.size ≤ H.size ∧ G.2.2.1 ≤ s.heap.size ∧ (∀ q : Nat, q < G.2.2.1 → H[q]? = s.heap[q]?) ∧ ∀ q ∈ locs, G.2.2.1 ≤ q.base
def Ev (G : Gl) (w0 w : Wd) (mi : Nat) (p : Program) (s : State) (m : MethodId) (args : Array Value) (meth : Method) (c : Code) (H : Heap) (locs : List Loc) (lsr : Array Slot) (ob0 ob : Nat → Nat) (ls : List (Option AV)) (st : List AV) (σ : Mem) : Prop :=
  Cx mi p s m args meth c ∧ KK G s ∧ SS G ob s s.heap ∧ Rep G w ob σ H ∧ wfσ σ ∧ (∀ v ∈ st, wfv w v) ∧ (∀ i v, lg ls i = some v → wfv w v) ∧ LH ob ls lsr (nL mi) ∧ Fr G s H locs ∧ ∀ o, born w0 o ∨ 999 ≤ o → ob o = ob0 o
def TT (G : Gl) (w0 w w2 : Wd) (k : Nat) (rc : Nat × Nat) (mi pc : Nat) (ls : List (Option AV)) (st : List AV) (σ : Mem) (Q : Option AV → Mem → Prop) : Prop :=
  ∀ (p : Program) (e : Env) (s : State) (m : MethodId) (args : Array Value) (below : List Frame) (meth : Method) (c : Code) (H : Heap) (locs : List Loc) (cells slots mc ms : Nat) (lsr : Array Slot) (ob0 ob : Nat → Nat),
    Ev G w0 w mi p s m args meth c H locs lsr ob0 ob ls st σ → cells + rc.1 ≤ mc → slots + rc.2 ≤ ms →
    W p G.1 e (rmk k mc ms) s m args below meth c H locs cells slots (MQ below (QQ G w0 ob0 w2 Q) args s mc ms (fun q => G.2.2.1 ≤ q)) (F0 m pc lsr (st.map (val ob)))

/-! 71.str: a string's length and its bytes: the JDK's own methods -/
set_option maxRecDepth 100000 in
theorem jw_len : lw_tbl[530]? = some (.code Jvm.Lib.Str.length.name Jvm.Lib.String.length.code 1 (some .int)) := by rfl
set_option maxRecDepth 100000 in
theorem jw_cod : lw_tbl[534]? = some (.code Jvm.Lib.String.coder.name Jvm.Lib.String.coder.code 1 (some .byte)) := by rfl
set_option maxRecDepth 100000 in
theorem jw_cha : lw_tbl[540]? = some (.code Jvm.Lib.Str.charAt.name Jvm.Lib.Str.charAt.code 2 (some .char)) := by rfl
set_option maxRecDepth 100000 in
theorem jw_lat : lw_tbl[544]? = some (.code Jvm.Lib.Str.isLatin1.name Jvm.Lib.String.isLatin1.code 1 (some .boolean)) := by rfl
set_option maxRecDepth 100000 in
theorem jw_sl1 : lw_tbl[547]? = some (.code Jvm.Lib.SL1.charAt.name Jvm.Lib.SL1.charAt.code 2 (some .char)) := by rfl
set_option maxRecDepth 100000 in
theorem jw_chk : lw_tbl[550]? = some (.code Jvm.Lib.Str.checkIndex.name Jvm.Lib.Str.checkIndex.code 2 none) := by rfl
set_option maxRecDepth 100000 in
theorem jw_pre : lw_tbl[555]? = some (.code Jvm.Lib.Preconditions.checkIndex.name Jvm.Lib.Preconditions.checkIndex.code 3 (some .int)) := by rfl
theorem jw_all : (atW 107 (.initialized "java/lang/String") && atW 108 (.initialized "java/lang/StringLatin1") && atW 109 (.initialized "jdk/internal/util/Preconditions") && atW 528 (.instanceMethod Jvm.Lib.Str.length.name) && atW 529 (.selects "java/lang/String" Jvm.Lib.Str.length.name Jvm.Lib.Str.length.name)
  && atW 531 (.methodLink "java/lang/String" 335 Jvm.Lib.String.coder.name) && atW 532 (.instanceMethod Jvm.Lib.String.coder.name) && atW 533 (.selects "java/lang/String" Jvm.Lib.String.coder.name Jvm.Lib.String.coder.name) && atW 535 (.fieldLink "java/lang/String" 38 "java/lang/String" "COMPACT_STRINGS" "Z")
  && atW 538 (.instanceMethod Jvm.Lib.Str.charAt.name) && atW 539 (.selects "java/lang/String" Jvm.Lib.Str.charAt.name Jvm.Lib.Str.charAt.name) && atW 541 (.methodLink "java/lang/String" 492 Jvm.Lib.Str.isLatin1.name) && atW 542 (.instanceMethod Jvm.Lib.Str.isLatin1.name) && atW 543 (.selects "java/lang/String" Jvm.Lib.Str.isLatin1.name Jvm.Lib.Str.isLatin1.name)
  && atW 545 (.methodLink "java/lang/String" 495 Jvm.Lib.SL1.charAt.name) && atW 546 (.static Jvm.Lib.SL1.charAt.name) && atW 548 (.methodLink "java/lang/StringLatin1" 9 Jvm.Lib.Str.checkIndex.name) && atW 549 (.static Jvm.Lib.Str.checkIndex.name) && atW 551 (.fieldLink "java/lang/String" 1053 "jdk/internal/util/Preconditions" "SIOOBE_FORMATTER" "Ljava/util/function/BiFunction;")
  && atW 553 (.methodLink "java/lang/String" 1059 Jvm.Lib.Preconditions.checkIndex.name) && atW 554 (.static Jvm.Lib.Preconditions.checkIndex.name) && atW 1731 (.fieldLink "java/lang/String" 9 "java/lang/String" "value" "[B") && atW 1732 (.fieldLink "java/lang/String" 15 "java/lang/String" "coder" "B")) = true := by decide +kernel
/-- the words hold in U, of whatever arguments -/
def WU (U : State) : Prop := ∀ c ∈ WT, ∀ a, c.before a U = true
theorem wu_of {s U : State} {args : Array Value} (hts : ∀ w ∈ WT, w.before args s = true) (hW : s.WarmedH U.vm) : WU U := fun c hc a => word_at hW (good_of_word (List.all_eq_true.mp WT_good c hc)) (hts c hc)
theorem zi_of {C n d : String} {v : Value} {A : Nat → Prop} {U : State} (h : va_Z C n d v A U U.heap) : Jvm.Lib.Cold.StaticIs U C n d v := by
  obtain ⟨cf, kf, fi, f, a, cell, h1, h2, h3, h4, h5, h6, h7, h8⟩ := h
  exact ⟨cf, fi, kf, f, a, cell, h1, h2, h3, h4, h5, fun e => by (rw [e] at h6; cases h6), h7⟩
theorem sig_of {y : MethodName} {b : ByteArray} {n : Nat} {r : Option FieldType} {U : State} {a : Array Value} (h : (Cond.code y b n r).before a U = true) : Jvm.Lib.Cold.Sig U y := by
  obtain ⟨mk, hn⟩ := Cond.named_of_code h
  obtain ⟨meth, c, h1, -, -, -, -, -, -, h9⟩ := Cond.code_spec hn h
  exact ⟨mk, meth, hn, h1, h9⟩
theorem dec_of {y : MethodName} {b : ByteArray} {n : Nat} {r : Option FieldType} {U : State} {a a' : Array Value} (h : (Cond.code y b n r).before a U = true) (hi : (Cond.instanceMethod y).before a U = true) : (Cond.declares y).before a' U = true := by
  obtain ⟨mk, meth, h1, h2, h3, h4⟩ := Cond.instanceMethod_spec hi
  obtain ⟨meth', c, g1, -, -, -, -, -, -, g9⟩ := Cond.code_spec h1 h
  cases h2.symm.trans g1
  simp only [Cond.before, Cond.holds, Cond.value]
  simp [h1, h2, h3, g9]
theorem jw_spec : Cond.initialized "java/lang/String" ∈ WT ∧ Cond.initialized "java/lang/StringLatin1" ∈ WT ∧ Cond.initialized "jdk/internal/util/Preconditions" ∈ WT ∧ Cond.instanceMethod Jvm.Lib.Str.length.name ∈ WT ∧ Cond.selects "java/lang/String" Jvm.Lib.Str.length.name Jvm.Lib.Str.length.name ∈ WT
  ∧ Cond.methodLink "java/lang/String" 335 Jvm.Lib.String.coder.name ∈ WT ∧ Cond.instanceMethod Jvm.Lib.String.coder.name ∈ WT ∧ Cond.selects "java/lang/String" Jvm.Lib.String.coder.name Jvm.Lib.String.coder.name ∈ WT ∧ Cond.fieldLink "java/lang/String" 38 "java/lang/String" "COMPACT_STRINGS" "Z" ∈ WT
  ∧ Cond.instanceMethod Jvm.Lib.Str.charAt.name ∈ WT ∧ Cond.selects "java/lang/String" Jvm.Lib.Str.charAt.name Jvm.Lib.Str.charAt.name ∈ WT ∧ Cond.methodLink "java/lang/String" 492 Jvm.Lib.Str.isLatin1.name ∈ WT ∧ Cond.instanceMethod Jvm.Lib.Str.isLatin1.name ∈ WT ∧ Cond.selects "java/lang/String" Jvm.Lib.Str.isLatin1.name Jvm.Lib.Str.isLatin1.name ∈ WT
  ∧ Cond.methodLink "java/lang/String" 495 Jvm.Lib.SL1.charAt.name ∈ WT ∧ Cond.static Jvm.Lib.SL1.charAt.name ∈ WT ∧ Cond.methodLink "java/lang/StringLatin1" 9 Jvm.Lib.Str.checkIndex.name ∈ WT ∧ Cond.static Jvm.Lib.Str.checkIndex.name ∈ WT ∧ Cond.fieldLink "java/lang/String" 1053 "jdk/internal/util/Preconditions" "SIOOBE_FORMATTER" "Ljava/util/function/BiFunction;" ∈ WT
  ∧ Cond.methodLink "java/lang/String" 1059 Jvm.Lib.Preconditions.checkIndex.name ∈ WT ∧ Cond.static Jvm.Lib.Preconditions.checkIndex.name ∈ WT ∧ Cond.fieldLink "java/lang/String" 9 "java/lang/String" "value" "[B" ∈ WT ∧ Cond.fieldLink "java/lang/String" 15 "java/lang/String" "coder" "B" ∈ WT := by
  have h := jw_all
  simp only [Bool.and_eq_true, and_assoc] at h
  obtain ⟨a1, a2, a3, a4, a5, a6, a7, a8, a9, b1, b2, b3, b4, b5, b6, b7, b8, b9, c1, c2, c3, c4, c5⟩ := h
  exact ⟨atW_in a1, atW_in a2, atW_in a3, atW_in a4, atW_in a5, atW_in a6, atW_in a7, atW_in a8, atW_in a9, atW_in b1, atW_in b2, atW_in b3, atW_in b4, atW_in b5, atW_in b6, atW_in b7, atW_in b8, atW_in b9, atW_in c1, atW_in c2, atW_in c3, atW_in c4, atW_in c5⟩
theorem len_pre {G : Gl} {ob : Nat → Nat} {U : State} (hU : WU U) (ss : SS G ob U U.heap) {i : Nat} (hi : i < 24) : Jvm.Lib.Cold.length.spec.pre.before #[.ref (ob (1000 + i))] U = true ∧ ∃ arr : Cell, arr.slots.size.toInt32 = Int32.ofNat (strL.getD i 0) ∧ Jvm.Lib.Cold.length.P (ob (1000 + i)) (G.2.2.2.2 i) 1 arr #[.ref (ob (1000 + i))] U := by
  obtain ⟨-, -, -, -, hS, -, hz1, -, hz3, -⟩ := ss
  obtain ⟨-, hex, hc, hv⟩ := hz3 i hi
  obtain ⟨-, -, -, cell, t1, t2, t3, t4, t5, t6, -⟩ := hS.1 i hi
  obtain ⟨a1, a2, a3, a4, a5, a6, a7, a8, a9, b1, b2, b3, b4, b5, b6, b7, b8, b9, c1, c2, c3, c4, c5⟩ := jw_spec
  have kl := hU _ (WT_in (List.mem_of_getElem? jw_len) rfl)
  have kc := hU _ (WT_in (List.mem_of_getElem? jw_cod) rfl)
  refine ⟨?_, cell, t5, rfl, hv.word rfl, t1, t2, ?_, rfl, zi_of hz1, by decide, hc.word rfl⟩
  · simp only [Jvm.Lib.Cold.length.spec, Cond.before_and, Bool.and_eq_true]
    exact ⟨kl _, rfl, hex.word rfl, hU _ c4 _, hU _ a6 _, dec_of (kc #[]) (hU _ a7 #[]), hU _ a8 _, hU _ a7 _, hU _ a1 _⟩
  · simp only [Jvm.Lib.Cold.coder.spec, Cond.before_and, Bool.and_eq_true]
    exact ⟨kc _, rfl, hU _ a9 _, hU _ c5 _⟩
theorem cha_pre {G : Gl} {ob : Nat → Nat} {U : State} (hU : WU U) (ss : SS G ob U U.heap) {i : Nat} (hi : i < 24) {j : Int32} (h0 : ¬ j < 0) (h1 : j.toNatClampNeg < strL.getD i 0) (h2 : j < Int32.ofNat (strL.getD i 0)) :
    Jvm.Lib.Cold.charAt.spec.pre.before #[.ref (ob (1000 + i)), .int j] U = true ∧ ∃ (arr : Cell) (fmt : Value), Jvm.Lib.Cold.charAt.P (ob (1000 + i)) (G.2.2.2.2 i) j ((strB.getD i []).getD j.toNatClampNeg 0) 1 fmt arr #[.ref (ob (1000 + i)), .int j] U := by
  obtain ⟨-, -, -, -, hS, -, hz1, ⟨vt, tz, hz2⟩, hz3, -⟩ := ss
  obtain ⟨-, hex, hc, hv⟩ := hz3 i hi
  obtain ⟨-, -, -, cell, t1, t2, t3, t4, t5, t6, -⟩ := hS.1 i hi
  obtain ⟨a1, a2, a3, a4, a5, a6, a7, a8, a9, b1, b2, b3, b4, b5, b6, b7, b8, b9, c1, c2, c3, c4, c5⟩ := jw_spec
  have kl := hU _ (WT_in (List.mem_of_getElem? jw_cha) rfl)
  have k2 := hU _ (WT_in (List.mem_of_getElem? jw_lat) rfl)
  have k3 := hU _ (WT_in (List.mem_of_getElem? jw_sl1) rfl)
  have k4 := hU _ (WT_in (List.mem_of_getElem? jw_chk) rfl)
  have k5 := hU _ (WT_in (List.mem_of_getElem? jw_pre) rfl)
  have hn : ¬ (j < 0 ∨ cell.slots.size ≤ j.toNatClampNeg) := fun z => z.elim h0 (fun y => by omega)
  rcases tz with rfl | ⟨t, rfl⟩
  · refine ⟨?_, cell, .null, rfl, hv.word rfl, sig_of (k3 #[]), ?_, ⟨rfl, zi_of hz1, by decide, hc.word rfl⟩, ?_, rfl, t1, t2, t3, hn, t6 _ h1, sig_of (k4 #[]), ?_, rfl, zi_of hz2, sig_of (k5 #[]), ?_⟩
    · simp only [Jvm.Lib.Cold.charAt.spec, Cond.before_and, Bool.and_eq_true]
      exact ⟨kl _, rfl, hex.word rfl, hU _ b3 _, dec_of (k2 #[]) (hU _ b4 #[]), hU _ b5 _, hU _ b4 _, hU _ c4 _, hU _ b6 _, hU _ b7 _, hU _ a2 _, hU _ a1 _⟩
    · simp only [Jvm.Lib.Cold.isLatin1.spec, Cond.before_and, Bool.and_eq_true]
      exact ⟨k2 _, rfl, hU _ a9 _, hU _ c5 _⟩
    · simp only [Jvm.Lib.Cold.latin1.spec, Cond.before_and, Bool.and_eq_true]
      exact ⟨k3 _, rfl, hU _ b8 _, hU _ b9 _, hU _ a1 _⟩
    · simp only [Jvm.Lib.Cold.checkIndex.spec, Cond.before_and, Bool.and_eq_true]
      exact ⟨k4 _, rfl, hU _ c1 _, hU _ c2 _, hU _ c3 _, hU _ a3 _⟩
    · simp only [Jvm.Lib.Preconditions.checkIndex.spec, Cond.before_and, Bool.and_eq_true]
      rw [t5]
      refine ⟨k5 _, rfl, rfl, rfl, rfl, ?_, ?_⟩
      · simp only [Cond.before, Cond.holds, Cond.value]
        simpa [Term.eval] using Int32.not_lt.mp h0
      · simp only [Cond.before, Cond.holds, Cond.value]
        simpa [Term.eval] using h2
  · refine ⟨?_, cell, .ref t, rfl, hv.word rfl, sig_of (k3 #[]), ?_, ⟨rfl, zi_of hz1, by decide, hc.word rfl⟩, ?_, rfl, t1, t2, t3, hn, t6 _ h1, sig_of (k4 #[]), ?_, rfl, zi_of hz2, sig_of (k5 #[]), ?_⟩
    · simp only [Jvm.Lib.Cold.charAt.spec, Cond.before_and, Bool.and_eq_true]
      exact ⟨kl _, rfl, hex.word rfl, hU _ b3 _, dec_of (k2 #[]) (hU _ b4 #[]), hU _ b5 _, hU _ b4 _, hU _ c4 _, hU _ b6 _, hU _ b7 _, hU _ a2 _, hU _ a1 _⟩
    · simp only [Jvm.Lib.Cold.isLatin1.spec, Cond.before_and, Bool.and_eq_true]
      exact ⟨k2 _, rfl, hU _ a9 _, hU _ c5 _⟩
    · simp only [Jvm.Lib.Cold.latin1.spec, Cond.before_and, Bool.and_eq_true]
      exact ⟨k3 _, rfl, hU _ b8 _, hU _ b9 _, hU _ a1 _⟩
    · simp only [Jvm.Lib.Cold.checkIndex.spec, Cond.before_and, Bool.and_eq_true]
      exact ⟨k4 _, rfl, hU _ c1 _, hU _ c2 _, hU _ c3 _, hU _ a3 _⟩
    · simp only [Jvm.Lib.Preconditions.checkIndex.spec, Cond.before_and, Bool.and_eq_true]
      rw [t5]
      refine ⟨k5 _, rfl, rfl, rfl, rfl, ?_, ?_⟩
      · simp only [Cond.before, Cond.holds, Cond.value]
        simpa [Term.eval] using Int32.not_lt.mp h0
      · simp only [Cond.before, Cond.holds, Cond.value]
        simpa [Term.eval] using h2
theorem SS.calling {G : Gl} {ob : Nat → Nat} {U : State} (h : SS G ob U U.heap) (g : JFrame) (mk : MethodId) (a : Array Value) : SS G ob (U.calling g mk a) (U.calling g mk a).heap := by
  obtain ⟨s1, s2, s3, s4, s5, s6, s7, ⟨t, tz, s8⟩, s9⟩ := h
  exact ⟨s1, va_X.moved (u := U) (U := U.calling g mk a) (Vm.Alike.refl U.vm) s2, s3, s4, vk_S.moved (u := U) (U := U.calling g mk a) (Vm.Alike.refl U.vm) s5, fun i hi => vk_R.same (u := U) (U := U.calling g mk a) rfl (s6 i hi), va_Z.moved (u := U) (U := U.calling g mk a) (Vm.Alike.refl U.vm) s7, ⟨t, tz, va_Z.moved (u := U) (U := U.calling g mk a) (Vm.Alike.refl U.vm) s8⟩, s9.1, s9.2.calling g mk a⟩
/-- a call of one of the two: what the machine gives for it -/
theorem back_str {G : Gl} {ob : Nat → Nat} {p : Program} {e : Env} {R : Room} {s : State} {args a0 : Array Value} {below : List Frame} {y : MethodName} {S : Spec} {bytes : ByteArray} {maxL : Nat} {ret : Option FieldType} {P : Array Value → State → Prop} {v0 : Value}
    (hM : MetFree G.1 y S P (fun _ _ _ _ _ => True) (fun a s o t => PureEnd s o t ∧ o = .returned (some v0))) (hts : ∀ w ∈ WT, w.before args s = true)
    (hf : S.room.frames + 1 ≤ R.frames) (hl : 8 + (maxL + 11) + S.room.locals ≤ R.locals) (hc : S.room.cells = 0) (hs : S.room.slots = 0)
    (hcode : Cond.code y bytes maxL ret ∈ WT) (hini : Cond.initialized y.cls ∈ WT) (hp : ∀ U, WU U → SS G ob U U.heap → S.pre.before a0 U = true ∧ P a0 U) :
    Back G.1 R p e below s args y 3 8 (fun A a => a = a0 ∧ SS G ob A.U A.U.heap ∧ A.cells ≤ R.cells ∧ A.slots ≤ R.slots) (fun A a v B => v = some v0 ∧ B.U.heap = A.U.heap ∧ B.locs = A.locs ∧ B.cells = A.cells ∧ B.slots = A.slots) := by
  refine Back.of_free (S := S) (bytes := bytes) (maxL := maxL) (ret := ret) (E := fun _ _ _ _ L k n => L = [] ∧ k = 0 ∧ n = 0) hM hf hl ?_ ?_ (fun _ _ _ _ _ _ _ _ _ => trivial) ?_ ?_
  · intro m meth c A a X ⟨h1, h2, h3, h4⟩
    have hU := wu_of hts X.warmed
    subst h1
    exact ⟨(hp _ hU h2).1, hU _ hcode _, hU _ hini _, by rw [hc]; exact h3, by rw [hs]; exact h4⟩
  · intro m meth c A a g mk X ⟨h1, h2, h3, h4⟩
    subst h1
    exact (hp (A.U.calling g mk _) (wu_of (U := A.U.calling g mk _) hts X.warmed) (h2.calling g mk _)).2
  · intro a first o t ⟨⟨h1, h2, h3⟩, _⟩
    exact ⟨[], 0, 0, ⟨h1, h2, h3.sameButNew 0 0⟩, rfl, rfl, rfl⟩
  · intro m meth c A a g mk v t L k n X hp' ⟨⟨_, _, h3⟩, ho⟩ hF ⟨e1, e2, e3⟩
    subst e1; subst e2; subst e3
    have e := State.sameBut_nil.mp h3
    have hh : t.heap = A.U.heap := by
      have := congrArg State.heap e
      exact this
    refine ⟨by cases ho; rfl, ?_, by simp, rfl, rfl⟩
    exact hh
section STR
variable {G : Gl} {w0 w w2 : Wd} {k : Nat} {rc : Nat × Nat} {mi pc : Nat} {ls : List (Option AV)} {st : List AV} {σ : Mem} {Q : Option AV → Mem → Prop}
theorem str_recv {ob : Nat → Nat} {s : State} (ss : SS G ob s s.heap) {i : Nat} (hi : i < 24) : ob (1000 + i) < G.2.2.1 ∧ ∃ cell : Cell, s.heap[ob (1000 + i)]? = some cell ∧ cell.vm.isStatics = false ∧ s.vm.findClass "java/lang/String" = some cell.cls := by
  obtain ⟨-, -, -, -, -, -, -, -, hz, -⟩ := ss
  obtain ⟨h1, ⟨cell, k, h2, h3, h4, -⟩, -⟩ := hz i hi
  exact ⟨h1, cell, h2, h3, h4⟩
theorem S_slen {ix i : Nat} (h : decode (bc mi) pc = .ok (.invokevirtual ix, 3)) (hl : Cond.methodLink (RN (own mi)) ix Jvm.Lib.Str.length.name ∈ WT) (hi : i < 24) (hk : 2 ≤ k) (hs : csum st ≤ 8)
    (kk : TT G w0 w w2 k rc mi (pc + 3) ls (vi (strL.getD i 0 : Nat) :: st) σ Q) : TT G w0 w w2 k rc mi pc ls (vr (1000 + i) 0 0 :: st) σ Q := by
  intro p e s m args below meth c H locs cells slots mc ms lsr ob0 ob hE h1 h2
  obtain ⟨cx, kk1, ss, rep, wσ, wst, wls, lh, fr, ag⟩ := hE
  have hts := cx.2.2.2.2.2.1
  have e0 : adr ob (1000 + i) 0 0 = ob (1000 + i) := by unfold adr; simp
  obtain ⟨r1, cell, r2, r3, r4⟩ := str_recv ss hi
  have hJ := jw_spec
  have hB := back_str (G := G) (ob := ob) (p := p) (e := e) (R := rmk k mc ms) (s := s) (args := args) (below := below) (y := Jvm.Lib.Str.length.name) (S := Jvm.Lib.Cold.length.spec) (bytes := Jvm.Lib.String.length.code) (maxL := 1) (ret := some .int)
    (a0 := #[.ref (ob (1000 + i))]) (v0 := .int (Int32.ofNat (strL.getD i 0))) (P := fun a s => ∃ arr : Cell, arr.slots.size.toInt32 = Int32.ofNat (strL.getD i 0) ∧ Jvm.Lib.Cold.length.P (ob (1000 + i)) (G.2.2.2.2 i) 1 arr a s)
    (MetFree.mono (MetFree.ex fun arr => Jvm.Lib.Cold.length.met G.1 (ob (1000 + i)) (G.2.2.2.2 i) 1 arr) (fun a s ⟨arr, _, z⟩ => ⟨arr, z⟩) (fun _ _ _ _ _ z => z) (fun a s o t ⟨arr, z1, z2⟩ ⟨arr', y1, y2⟩ => by
      have g1 := z2.2.2.1
      have g2 := y1.2.2.1
      have : arr = arr' := Option.some.inj (g1.symm.trans g2)
      subst this
      rw [← z1]
      exact y2)) hts (by show 1 + 1 ≤ k; omega) (by show 8 + (1 + 11) + 24 ≤ 64 * k; omega) rfl rfl (WT_in (List.mem_of_getElem? jw_len) rfl) hJ.1 (fun U hU hss => len_pre hU hss hi)
  intro T hT X
  obtain ⟨v, vm₁, B, hW1, X', ⟨hv, hheap, hlocs, hcells, hslots⟩, st'⟩ := callV X cx.1 (C := "java/lang/String") (bytes := Jvm.Lib.String.length.code) (maxL := 1) (ret := some .int) cx.2.2.2.2.1 (hts _ hl) (hts _ hJ.2.2.2.1) (hts _ hJ.2.2.2.2.1) (hts _ (WT_in (List.mem_of_getElem? jw_len) rfl)) ⟨by decide, by decide⟩ hB
    (b := ob (1000 + i)) (cellB := cell) (by rw [hT, fr.2.2.1 _ r1]; exact r2) r3 r4 (g := F0 m pc lsr ((vr (1000 + i) 0 0 :: st).map (val ob))) rfl (by show lsr.size = _; rw [cx.2.2.2.1, lh.1]) (argsL := []) (rest := st.map (val ob)) (fun sig hsig => by
      have : parseMethodDescriptor "()I" = some { parameters := [], returnType := some .int } := by decide +kernel
      have h' : parseMethodDescriptor "()I" = some sig := hsig
      rw [this] at h'
      cases h'; rfl) (by show (val ob (vr (1000 + i) 0 0) :: st.map (val ob)) = _; show (Value.ref (adr ob (1000 + i) 0 0) :: st.map (val ob)) = _; rw [e0]; rfl) (by show 2 * 0 + _ ≤ 8; rw [csum_eq]; omega) (by rw [cx.2.1]; exact h)
    (fun vm₁ hW => ⟨rfl, by
      have q := ss.to (U := T.setVm vm₁) hW (fun q hq => by show T.heap[q]? = _; rw [hT]; exact fr.2.2.1 q hq)
      exact q, by show cells ≤ mc; omega, by show slots ≤ ms; omega⟩)
  subst hv
  obtain ⟨U', l', c', s'⟩ := B
  dsimp only [Pt.U, Pt.locs, Pt.cells, Pt.slots] at X' hheap hlocs hcells hslots st'
  subst hlocs; subst hcells; subst hslots
  have hn : I32 ((strL.getD i 0 : Nat) : Int) := by
    have : ∀ i, i < 24 → strL.getD i 0 < 200 := by decide
    have := this i hi
    unfold I32; omega
  have g := kk p e s m args below meth c H l' c' s' mc ms lsr ob0 ob ⟨cx, kk1, ss, rep, wσ, wf_cons (wfi hn) (wf_tl wst), wls, lh, fr, ag⟩ h1 h2
  obtain ⟨t, a1, b1⟩ := g U' (by rw [hheap]; exact hT) X'
  refine ⟨t, st' t ?_, b1⟩
  have ev : val ob (vi (strL.getD i 0 : Nat)) = Value.int (Int32.ofNat (strL.getD i 0)) := by
    show Value.int (Int32.ofInt ((strL.getD i 0 : Nat) : Int)) = _
    rw [oi_n]
  rw [List.map_cons, ev] at a1
  exact a1
def sbv (i j : Nat) : Int := ((strB.getD i []).getD j 0).toInt
def sbK (i j : Nat) : Bool := decide (((((strB.getD i []).getD j 0) &&& 255).toUInt32.toUInt16.toUInt32.toInt32) = (strB.getD i []).getD j 0)
set_option maxRecDepth 100000 in
theorem sb_all : ∀ i, i < 24 → ∀ j, j < strL.getD i 0 → sbK i j = true := by decide +kernel
theorem S_scha {ix i : Nat} {j : Int} (h : decode (bc mi) pc = .ok (.invokevirtual ix, 3)) (hl : Cond.methodLink (RN (own mi)) ix Jvm.Lib.Str.charAt.name ∈ WT) (hi : i < 24) (h0 : 0 ≤ j) (hj : j < strL.getD i 0) (hk : 4 ≤ k) (hs : csum st ≤ 8)
    (kk : TT G w0 w w2 k rc mi (pc + 3) ls (vi (sbv i j.toNat) :: st) σ Q) : TT G w0 w w2 k rc mi pc ls (vi j :: vr (1000 + i) 0 0 :: st) σ Q := by
  intro p e s m args below meth c H locs cells slots mc ms lsr ob0 ob hE h1 h2
  obtain ⟨cx, kk1, ss, rep, wσ, wst, wls, lh, fr, ag⟩ := hE
  have hts := cx.2.2.2.2.2.1
  have e0 : adr ob (1000 + i) 0 0 = ob (1000 + i) := by unfold adr; simp
  obtain ⟨r1, cell, r2, r3, r4⟩ := str_recv ss hi
  have hJ := jw_spec
  have lim : strL.getD i 0 < 200 := by
    have : ∀ i, i < 24 → strL.getD i 0 < 200 := by decide
    exact this i hi
  have hI : I32 j := wf_hd wst
  have n0 : ¬ Int32.ofInt j < 0 := fun z => by have := (i32_lt hI I32_0).mp z; omega
  have nc : (Int32.ofInt j).toNatClampNeg = j.toNat := clampI h0 hI
  have hnI : I32 ((strL.getD i 0 : Nat) : Int) := by unfold I32; omega
  have nl : Int32.ofInt j < Int32.ofNat (strL.getD i 0) := by
    rw [← oi_n]
    exact (i32_lt hI hnI).mpr hj
  have hB := back_str (G := G) (ob := ob) (p := p) (e := e) (R := rmk k mc ms) (s := s) (args := args) (below := below) (y := Jvm.Lib.Str.charAt.name) (S := Jvm.Lib.Cold.charAt.spec) (bytes := Jvm.Lib.Str.charAt.code) (maxL := 2) (ret := some .char)
    (a0 := #[.ref (ob (1000 + i)), .int (Int32.ofInt j)]) (v0 := .int ((((strB.getD i []).getD j.toNat 0) &&& 255).toUInt32.toUInt16.toUInt32.toInt32)) (P := fun a s => ∃ q : Cell × Value, Jvm.Lib.Cold.charAt.P (ob (1000 + i)) (G.2.2.2.2 i) (Int32.ofInt j) ((strB.getD i []).getD j.toNat 0) 1 q.2 q.1 a s)
    (MetFree.mono (MetFree.ex fun q : Cell × Value => Jvm.Lib.Cold.charAt.met G.1 (ob (1000 + i)) (G.2.2.2.2 i) (Int32.ofInt j) ((strB.getD i []).getD j.toNat 0) 1 q.2 q.1) (fun a s z => z) (fun _ _ _ _ _ z => z) (fun a s o t _ ⟨_, _, y2⟩ => y2)) hts (by show 3 + 1 ≤ k; omega) (by show 8 + (2 + 11) + 72 ≤ 64 * k; omega) rfl rfl (WT_in (List.mem_of_getElem? jw_cha) rfl) hJ.1 (fun U hU hss => by
      obtain ⟨z1, arr, fmt, z2⟩ := cha_pre hU hss hi (j := Int32.ofInt j) n0 (by rw [nc]; omega) nl
      rw [nc] at z2
      exact ⟨z1, (arr, fmt), z2⟩)
  intro T hT X
  obtain ⟨v, vm₁, B, hW1, X', ⟨hv, hheap, hlocs, hcells, hslots⟩, st'⟩ := callV X cx.1 (C := "java/lang/String") (bytes := Jvm.Lib.Str.charAt.code) (maxL := 2) (ret := some .char) cx.2.2.2.2.1 (hts _ hl) (hts _ hJ.2.2.2.2.2.2.2.2.2.1) (hts _ hJ.2.2.2.2.2.2.2.2.2.2.1) (hts _ (WT_in (List.mem_of_getElem? jw_cha) rfl)) ⟨by decide, by decide⟩ hB
    (b := ob (1000 + i)) (cellB := cell) (by rw [hT, fr.2.2.1 _ r1]; exact r2) r3 r4 (g := F0 m pc lsr ((vi j :: vr (1000 + i) 0 0 :: st).map (val ob))) rfl (by show lsr.size = _; rw [cx.2.2.2.1, lh.1]) (argsL := [.int (Int32.ofInt j)]) (rest := st.map (val ob)) (fun sig hsig => by
      have : parseMethodDescriptor "(I)C" = some { parameters := [.int], returnType := some .char } := by decide +kernel
      have h' : parseMethodDescriptor "(I)C" = some sig := hsig
      rw [this] at h'
      cases h'; rfl) (by show (Value.int (Int32.ofInt j) :: Value.ref (adr ob (1000 + i) 0 0) :: st.map (val ob)) = _; rw [e0]; rfl) (by show 2 * 0 + _ ≤ 8; rw [csum_eq]; omega) (by rw [cx.2.1]; exact h)
    (fun vm₁ hW => ⟨rfl, by
      have q := ss.to (U := T.setVm vm₁) hW (fun q hq => by show T.heap[q]? = _; rw [hT]; exact fr.2.2.1 q hq)
      exact q, by show cells ≤ mc; omega, by show slots ≤ ms; omega⟩)
  subst hv
  obtain ⟨U', l', c', s'⟩ := B
  dsimp only [Pt.U, Pt.locs, Pt.cells, Pt.slots] at X' hheap hlocs hcells hslots st'
  subst hlocs; subst hcells; subst hslots
  have hn : I32 (sbv i j.toNat) := by
    unfold I32 sbv
    have a := Int32.le_toInt ((strB.getD i []).getD j.toNat 0)
    have b := Int32.toInt_lt ((strB.getD i []).getD j.toNat 0)
    omega
  have g := kk p e s m args below meth c H l' c' s' mc ms lsr ob0 ob ⟨cx, kk1, ss, rep, wσ, wf_cons (wfi hn) (wf_tl (wf_tl wst)), wls, lh, fr, ag⟩ h1 h2
  obtain ⟨t, a1, b1⟩ := g U' (by rw [hheap]; exact hT) X'
  refine ⟨t, st' t ?_, b1⟩
  have eb := sb_all i hi j.toNat (by omega)
  unfold sbK at eb
  rw [decide_eq_true_eq] at eb
  have ev : val ob (vi (sbv i j.toNat)) = Value.int ((((strB.getD i []).getD j.toNat 0) &&& 255).toUInt32.toUInt16.toUInt32.toInt32) := by
    show Value.int (Int32.ofInt (sbv i j.toNat)) = _
    rw [eb]
    unfold sbv
    rw [Int32.ofInt_toInt]
  rw [List.map_cons, ev] at a1
  exact a1
end STR

/-! 04.rules: TT, an instruction each: stack, locals, branches, returns -/
section RUL
variable {G : Gl} {w0 w w2 : Wd} {k : Nat} {rc : Nat × Nat} {mi pc : Nat} {ls : List (Option AV)} {st : List AV} {σ : Mem} {Q : Option AV → Mem → Prop}
theorem TT_pure {pc' : Nat} {st' : List AV}
    (hwf : (∀ v ∈ st, wfv w v) → (∀ i v, lg ls i = some v → wfv w v) → ∀ v ∈ st', wfv w v)
    (row : ∀ (p : Program) (e : Env) (R : Room) (s : State) (m : MethodId) (args : Array Value) (below : List Frame) (meth : Method) (c : Code) (H : Heap) (locs : List Loc) (cells slots : Nat) (lsr : Array Slot) (ob : Nat → Nat) (Q' : State → Prop),
      p.tables.exec = Jvm.exec → c.code = bc mi → s.vm.findClass (RN (own mi)) = some m.cls → (∀ x ∈ WT, x.before args s = true) → LH ob ls lsr (nL mi) → (∀ v ∈ st, wfv w v) → W p G.1 e R s m args below meth c H locs cells slots Q' (F0 m pc' lsr (st'.map (val ob))) → W p G.1 e R s m args below meth c H locs cells slots Q' (F0 m pc lsr (st.map (val ob))))
    (kk : TT G w0 w w2 k rc mi pc' ls st' σ Q) : TT G w0 w w2 k rc mi pc ls st σ Q := by
  intro p e s m args below meth c H locs cells slots mc ms lsr ob0 ob hE h1 h2
  have hE2 := hE
  obtain ⟨cx, kk1, ss, rep, wσ, wst, wls, lh, fr, ag⟩ := hE
  exact row p e _ s m args below meth c H locs cells slots lsr ob _ cx.1 cx.2.1 cx.2.2.2.2.1 cx.2.2.2.2.2.1 lh wst (kk p e s m args below meth c H locs cells slots mc ms lsr ob0 ob ⟨cx, kk1, ss, rep, wσ, hwf wst wls, wls, lh, fr, ag⟩ h1 h2)
theorem wf_cons {v : AV} {l : List AV} (h : wfv w v) (hl : ∀ x ∈ l, wfv w x) : ∀ x ∈ v :: l, wfv w x := fun x hx => by
  rcases List.mem_cons.mp hx with rfl | hx
  · exact h
  · exact hl x hx
theorem wfi {x : Int} (h : I32 x) : wfv w (vi x) := h
theorem wfl {x : Int} (h : I64 x) : wfv w (vl x) := h
theorem wfn : wfv w vn := trivial
theorem wf_hd {v : AV} {l : List AV} (h : ∀ x ∈ v :: l, wfv w x) : wfv w v := h v List.mem_cons_self
theorem wf_tl {v : AV} {l : List AV} (h : ∀ x ∈ v :: l, wfv w x) : ∀ x ∈ l, wfv w x := fun x hx => h x (List.mem_cons_of_mem _ hx)
theorem S_iconst {n : Int} (h : decode (bc mi) pc = .ok (.iconst n, 1)) (hr : I32 n) (kk : TT G w0 w w2 k rc mi (pc + 1) ls (vi n :: st) σ Q) : TT G w0 w w2 k rc mi pc ls st σ Q :=
  TT_pure (fun h1 _ => wf_cons (wfi hr) h1) (fun _ _ _ _ _ _ _ _ _ _ _ _ _ _ _ _ hx hb _ _ _ _ k1 => lv_iconst hx hb h rfl k1) kk
theorem S_bipush {n : Int} (h : decode (bc mi) pc = .ok (.bipush n, 2)) (hr : (Int8.ofInt n).toInt32 = Int32.ofInt n ∧ I32 n) (kk : TT G w0 w w2 k rc mi (pc + 2) ls (vi n :: st) σ Q) : TT G w0 w w2 k rc mi pc ls st σ Q :=
  TT_pure (fun h1 _ => wf_cons (wfi hr.2) h1) (fun _ _ _ _ _ _ _ _ _ _ _ _ _ _ _ _ hx hb _ _ _ _ k1 => lv_bipush hx hb h hr.1 k1) kk
theorem S_sipush {n : Int} (h : decode (bc mi) pc = .ok (.sipush n, 3)) (hr : (Int16.ofInt n).toInt32 = Int32.ofInt n ∧ I32 n) (kk : TT G w0 w w2 k rc mi (pc + 3) ls (vi n :: st) σ Q) : TT G w0 w w2 k rc mi pc ls st σ Q :=
  TT_pure (fun h1 _ => wf_cons (wfi hr.2) h1) (fun _ _ _ _ _ _ _ _ _ _ _ _ _ _ _ _ hx hb _ _ _ _ k1 => lv_sipush hx hb h hr.1 k1) kk
theorem S_lconst {n : Fin 2} (h : decode (bc mi) pc = .ok (.lconst n, 1)) (kk : TT G w0 w w2 k rc mi (pc + 1) ls (vl ((n : Nat) : Int) :: st) σ Q) : TT G w0 w w2 k rc mi pc ls st σ Q :=
  TT_pure (fun h1 _ => wf_cons (wfl (by have := n.isLt; unfold I64; omega)) h1) (fun _ _ _ _ _ _ _ _ _ _ _ _ _ _ _ _ hx hb _ _ _ _ k1 => lv_lconst hx hb h (by first | rfl | simp) k1) kk
theorem S_null (h : decode (bc mi) pc = .ok (.aconst_null, 1)) (kk : TT G w0 w w2 k rc mi (pc + 1) ls (vn :: st) σ Q) : TT G w0 w w2 k rc mi pc ls st σ Q :=
  TT_pure (fun h1 _ => wf_cons wfn h1) (fun _ _ _ _ _ _ _ _ _ _ _ _ _ _ _ _ hx hb _ _ _ _ k1 => lv_null hx hb h k1) kk
theorem S_ldc {ix : Nat} {n : Int} (h : decode (bc mi) pc = .ok (.ldc ix, 2)) (hw : Cond.constant (RN (own mi)) ix (Int32.ofInt n) ∈ WT) (hr : I32 n) (kk : TT G w0 w w2 k rc mi (pc + 2) ls (vi n :: st) σ Q) : TT G w0 w w2 k rc mi pc ls st σ Q :=
  TT_pure (fun h1 _ => wf_cons (wfi hr) h1) (fun _ _ _ _ _ _ _ _ _ _ _ _ _ _ _ _ hx hb ho ht _ _ k1 => lv_ldc hx hb ho (ht _ hw) h k1) kk
theorem S_ldcw {ix : Nat} {n : Int} (h : decode (bc mi) pc = .ok (.ldc_w ix, 3)) (hw : Cond.constant (RN (own mi)) ix (Int32.ofInt n) ∈ WT) (hr : I32 n) (kk : TT G w0 w w2 k rc mi (pc + 3) ls (vi n :: st) σ Q) : TT G w0 w w2 k rc mi pc ls st σ Q :=
  TT_pure (fun h1 _ => wf_cons (wfi hr) h1) (fun _ _ _ _ _ _ _ _ _ _ _ _ _ _ _ _ hx hb ho ht _ _ k1 => lv_ldcw hx hb ho (ht _ hw) h k1) kk
theorem S_ldc2 {ix : Nat} {n : Int} (h : decode (bc mi) pc = .ok (.ldc2_w ix, 3)) (hw : Cond.constantLong (RN (own mi)) ix (Int64.ofInt n) ∈ WT) (hr : I64 n) (kk : TT G w0 w w2 k rc mi (pc + 3) ls (vl n :: st) σ Q) : TT G w0 w w2 k rc mi pc ls st σ Q :=
  TT_pure (fun h1 _ => wf_cons (wfl hr) h1) (fun _ _ _ _ _ _ _ _ _ _ _ _ _ _ _ _ hx hb ho ht _ _ k1 => lv_ldc2 hx hb ho (ht _ hw) h k1) kk
/-! loads: any kind of value -/
theorem S_iload_n {i : Fin 4} {x : Int} (h : decode (bc mi) pc = .ok (.iload_n i, 1)) (hl : lg ls i = some (vi x)) (kk : TT G w0 w w2 k rc mi (pc + 1) ls (vi x :: st) σ Q) : TT G w0 w w2 k rc mi pc ls st σ Q :=
  TT_pure (fun h1 h2 => wf_cons (h2 _ _ hl) h1) (fun _ _ _ _ _ _ _ _ _ _ _ _ _ _ _ _ hx hb _ _ lh _ k1 => lv_iload_n hx hb h rfl (lh.2.2.2 _ _ hl) k1) kk
theorem S_iload {i : Nat} {x : Int} (h : decode (bc mi) pc = .ok (.iload i, 2)) (hl : lg ls i = some (vi x)) (kk : TT G w0 w w2 k rc mi (pc + 2) ls (vi x :: st) σ Q) : TT G w0 w w2 k rc mi pc ls st σ Q :=
  TT_pure (fun h1 h2 => wf_cons (h2 _ _ hl) h1) (fun _ _ _ _ _ _ _ _ _ _ _ _ _ _ _ _ hx hb _ _ lh _ k1 => lv_iload hx hb h (lh.2.2.2 _ _ hl) k1) kk
theorem S_lload_n {i : Fin 4} {x : Int} (h : decode (bc mi) pc = .ok (.lload_n i, 1)) (hl : lg ls i = some (vl x)) (kk : TT G w0 w w2 k rc mi (pc + 1) ls (vl x :: st) σ Q) : TT G w0 w w2 k rc mi pc ls st σ Q :=
  TT_pure (fun h1 h2 => wf_cons (h2 _ _ hl) h1) (fun _ _ _ _ _ _ _ _ _ _ _ _ _ _ _ _ hx hb _ _ lh _ k1 => lv_lload_n hx hb h rfl (lh.2.2.2 _ _ hl) k1) kk
theorem S_lload {i : Nat} {x : Int} (h : decode (bc mi) pc = .ok (.lload i, 2)) (hl : lg ls i = some (vl x)) (kk : TT G w0 w w2 k rc mi (pc + 2) ls (vl x :: st) σ Q) : TT G w0 w w2 k rc mi pc ls st σ Q :=
  TT_pure (fun h1 h2 => wf_cons (h2 _ _ hl) h1) (fun _ _ _ _ _ _ _ _ _ _ _ _ _ _ _ _ hx hb _ _ lh _ k1 => lv_lload hx hb h (lh.2.2.2 _ _ hl) k1) kk
theorem S_aload_n {i : Fin 4} {q : Option (Nat × Nat × Nat)} (h : decode (bc mi) pc = .ok (.aload_n i, 1)) (hl : lg ls i = some (Sum.inr (Sum.inr q))) (kk : TT G w0 w w2 k rc mi (pc + 1) ls (Sum.inr (Sum.inr q) :: st) σ Q) : TT G w0 w w2 k rc mi pc ls st σ Q := by
  refine TT_pure (fun h1 h2 => wf_cons (h2 _ _ hl) h1) (fun _ _ _ _ _ _ _ _ _ _ _ _ _ _ _ _ hx hb _ _ lh _ k1 => ?_) kk
  have hs := lh.2.2.2 _ _ hl
  cases q with
  | none => exact lv_aload_nN hx hb h rfl hs k1
  | some q => exact lv_aload_n hx hb h rfl hs k1
theorem S_aload {i : Nat} {q : Option (Nat × Nat × Nat)} (h : decode (bc mi) pc = .ok (.aload i, 2)) (hl : lg ls i = some (Sum.inr (Sum.inr q))) (kk : TT G w0 w w2 k rc mi (pc + 2) ls (Sum.inr (Sum.inr q) :: st) σ Q) : TT G w0 w w2 k rc mi pc ls st σ Q := by
  refine TT_pure (fun h1 h2 => wf_cons (h2 _ _ hl) h1) (fun _ _ _ _ _ _ _ _ _ _ _ _ _ _ _ _ hx hb _ _ lh _ k1 => ?_) kk
  have hs := lh.2.2.2 _ _ hl
  cases q with
  | none => exact lv_aloadN hx hb h hs k1
  | some q => exact lv_aload hx hb h hs k1
/-! stores into locals -/
theorem TT_store {pc' : Nat} {st' : List AV} {ls' : List (Option AV)}
    (hwf : (∀ v ∈ st, wfv w v) → (∀ i v, lg ls i = some v → wfv w v) → (∀ v ∈ st', wfv w v) ∧ (∀ i v, lg ls' i = some v → wfv w v))
    (row : ∀ (p : Program) (e : Env) (R : Room) (s : State) (m : MethodId) (args : Array Value) (below : List Frame) (meth : Method) (c : Code) (H : Heap) (locs : List Loc) (cells slots : Nat) (lsr : Array Slot) (ob : Nat → Nat) (Q' : State → Prop),
      p.tables.exec = Jvm.exec → c.code = bc mi → LH ob ls lsr (nL mi) → (∀ lsr', LH ob ls' lsr' (nL mi) → W p G.1 e R s m args below meth c H locs cells slots Q' (F0 m pc' lsr' (st'.map (val ob)))) → W p G.1 e R s m args below meth c H locs cells slots Q' (F0 m pc lsr (st.map (val ob))))
    (kk : TT G w0 w w2 k rc mi pc' ls' st' σ Q) : TT G w0 w w2 k rc mi pc ls st σ Q := by
  intro p e s m args below meth c H locs cells slots mc ms lsr ob0 ob hE h1 h2
  obtain ⟨cx, kk1, ss, rep, wσ, wst, wls, lh, fr, ag⟩ := hE
  obtain ⟨f1, f2⟩ := hwf wst wls
  exact row p e _ s m args below meth c H locs cells slots lsr ob _ cx.1 cx.2.1 lh (fun lsr' lh' => kk p e s m args below meth c H locs cells slots mc ms lsr' ob0 ob ⟨cx, kk1, ss, rep, wσ, f1, f2, lh', fr, ag⟩ h1 h2)
theorem wf_ls1 {i : Nat} {v : AV} (hv : wfv w v) (h : ∀ i v, lg ls i = some v → wfv w v) : ∀ j u, lg (ls1 ls i v) j = some u → wfv w u := fun j u hj => by
  rcases lg_ls1 ls i j v u hj with ⟨-, rfl⟩ | ⟨-, b, -⟩
  · exact hv
  · exact h j u b
theorem wf_ls2 {i : Nat} {v : AV} (hi : i + 1 < ls.length) (hv : wfv w v) (h : ∀ i v, lg ls i = some v → wfv w v) : ∀ j u, lg (ls2 ls i v) j = some u → wfv w u := fun j u hj => by
  rcases lg_ls2 ls i j v u hi hj with ⟨-, rfl⟩ | ⟨-, -, b, -⟩
  · exact hv
  · exact h j u b
theorem S_istore_n {i : Fin 4} {x : Int} (h : decode (bc mi) pc = .ok (.istore_n i, 1)) (hi : (i : Nat) < ls.length) (kk : TT G w0 w w2 k rc mi (pc + 1) (ls1 ls i (vi x)) st σ Q) : TT G w0 w w2 k rc mi pc ls (vi x :: st) σ Q :=
  TT_store (fun h1 h2 => ⟨wf_tl h1, wf_ls1 (wf_hd h1) h2⟩) (fun _ _ _ _ _ _ _ _ _ _ _ _ _ _ _ _ hx hb lh k1 => lv_istore_n hx hb h rfl lh.has (by rw [← lh.2.1]; exact hi) rfl (fun l' h' => k1 l' (lh.st1 h'))) kk
theorem S_istore {i : Nat} {x : Int} (h : decode (bc mi) pc = .ok (.istore i, 2)) (hi : i < ls.length) (kk : TT G w0 w w2 k rc mi (pc + 2) (ls1 ls i (vi x)) st σ Q) : TT G w0 w w2 k rc mi pc ls (vi x :: st) σ Q :=
  TT_store (fun h1 h2 => ⟨wf_tl h1, wf_ls1 (wf_hd h1) h2⟩) (fun _ _ _ _ _ _ _ _ _ _ _ _ _ _ _ _ hx hb lh k1 => lv_istore hx hb h lh.has (by rw [← lh.2.1]; exact hi) rfl (fun l' h' => k1 l' (lh.st1 h'))) kk
theorem S_lstore_n {i : Fin 4} {x : Int} (h : decode (bc mi) pc = .ok (.lstore_n i, 1)) (hi : (i : Nat) + 1 < ls.length) (kk : TT G w0 w w2 k rc mi (pc + 1) (ls2 ls i (vl x)) st σ Q) : TT G w0 w w2 k rc mi pc ls (vl x :: st) σ Q :=
  TT_store (fun h1 h2 => ⟨wf_tl h1, wf_ls2 hi (wf_hd h1) h2⟩) (fun _ _ _ _ _ _ _ _ _ _ _ _ _ _ _ _ hx hb lh k1 => lv_lstore_n hx hb h rfl lh.has (by rw [← lh.2.1]; exact hi) rfl (fun l' h' => k1 l' (lh.st2 (by rw [← lh.2.1]; exact hi) h'))) kk
theorem S_lstore {i : Nat} {x : Int} (h : decode (bc mi) pc = .ok (.lstore i, 2)) (hi : i + 1 < ls.length) (kk : TT G w0 w w2 k rc mi (pc + 2) (ls2 ls i (vl x)) st σ Q) : TT G w0 w w2 k rc mi pc ls (vl x :: st) σ Q :=
  TT_store (fun h1 h2 => ⟨wf_tl h1, wf_ls2 hi (wf_hd h1) h2⟩) (fun _ _ _ _ _ _ _ _ _ _ _ _ _ _ _ _ hx hb lh k1 => lv_lstore hx hb h lh.has (by rw [← lh.2.1]; exact hi) rfl (fun l' h' => k1 l' (lh.st2 (by rw [← lh.2.1]; exact hi) h'))) kk
theorem S_astore_n {i : Fin 4} {q : Option (Nat × Nat × Nat)} (h : decode (bc mi) pc = .ok (.astore_n i, 1)) (hi : (i : Nat) < ls.length) (kk : TT G w0 w w2 k rc mi (pc + 1) (ls1 ls i (Sum.inr (Sum.inr q))) st σ Q) : TT G w0 w w2 k rc mi pc ls (Sum.inr (Sum.inr q) :: st) σ Q := by
  refine TT_store (fun h1 h2 => ⟨wf_tl h1, wf_ls1 (wf_hd h1) h2⟩) (fun _ _ _ _ _ _ _ _ _ _ _ _ _ _ _ _ hx hb lh k1 => ?_) kk
  have hn := hi
  rw [lh.2.1] at hn
  cases q with
  | none => exact lv_astore_nN hx hb h rfl lh.has hn rfl (fun l' h' => k1 l' (lh.st1 h'))
  | some q => exact lv_astore_n hx hb h rfl lh.has hn rfl (fun l' h' => k1 l' (lh.st1 h'))
theorem S_astore {i : Nat} {q : Option (Nat × Nat × Nat)} (h : decode (bc mi) pc = .ok (.astore i, 2)) (hi : i < ls.length) (kk : TT G w0 w w2 k rc mi (pc + 2) (ls1 ls i (Sum.inr (Sum.inr q))) st σ Q) : TT G w0 w w2 k rc mi pc ls (Sum.inr (Sum.inr q) :: st) σ Q := by
  refine TT_store (fun h1 h2 => ⟨wf_tl h1, wf_ls1 (wf_hd h1) h2⟩) (fun _ _ _ _ _ _ _ _ _ _ _ _ _ _ _ _ hx hb lh k1 => ?_) kk
  have hn := hi
  rw [lh.2.1] at hn
  cases q with
  | none => exact lv_astoreN hx hb h lh.has hn rfl (fun l' h' => k1 l' (lh.st1 h'))
  | some q => exact lv_astore hx hb h lh.has hn rfl (fun l' h' => k1 l' (lh.st1 h'))
theorem S_iinc {i : Nat} {n x : Int} (h : decode (bc mi) pc = .ok (.iinc i n, 3)) (hl : lg ls i = some (vi x)) (hr : I32 (x + n)) (kk : TT G w0 w w2 k rc mi (pc + 3) (ls1 ls i (vi (x + n))) st σ Q) : TT G w0 w w2 k rc mi pc ls st σ Q := by
  refine TT_store (fun h1 h2 => ⟨h1, wf_ls1 (wfi hr) h2⟩) (fun _ _ _ _ _ _ _ _ _ _ _ _ _ _ ob _ hx hb lh k1 => ?_) kk
  have hm := toL_of ob ls 0 i _ hl
  rw [Nat.zero_add] at hm
  obtain ⟨j, hj⟩ := List.getElem?_of_mem hm
  have hn : i < nL mi := by
    have := lv_lt (lh.2.2.2 _ _ hl)
    rw [← lh.1]; exact this
  exact lv_iinc hx hb h lh.has (k := j) hj (o_add x n).symm hn rfl (fun l' h' => k1 l' (lh.st1 h'))
/-! arithmetic -/
theorem S_iadd {a b : Int} (h : decode (bc mi) pc = .ok (.iadd, 1)) (hr : I32 (a + b)) (kk : TT G w0 w w2 k rc mi (pc + 1) ls (vi (a + b) :: st) σ Q) : TT G w0 w w2 k rc mi pc ls (vi b :: vi a :: st) σ Q :=
  TT_pure (fun h1 _ => wf_cons (wfi hr) (wf_tl (wf_tl h1))) (fun _ _ _ _ _ _ _ _ _ _ _ _ _ _ _ _ hx hb _ _ _ _ k1 => lv_iadd hx hb h (by rw [← o_add]; exact k1)) kk
theorem S_isub {a b : Int} (h : decode (bc mi) pc = .ok (.isub, 1)) (hr : I32 (a - b)) (kk : TT G w0 w w2 k rc mi (pc + 1) ls (vi (a - b) :: st) σ Q) : TT G w0 w w2 k rc mi pc ls (vi b :: vi a :: st) σ Q :=
  TT_pure (fun h1 _ => wf_cons (wfi hr) (wf_tl (wf_tl h1))) (fun _ _ _ _ _ _ _ _ _ _ _ _ _ _ _ _ hx hb _ _ _ _ k1 => lv_isub hx hb h (by rw [← o_sub]; exact k1)) kk
theorem S_imul {a b : Int} (h : decode (bc mi) pc = .ok (.imul, 1)) (hr : I32 (a * b)) (kk : TT G w0 w w2 k rc mi (pc + 1) ls (vi (a * b) :: st) σ Q) : TT G w0 w w2 k rc mi pc ls (vi b :: vi a :: st) σ Q :=
  TT_pure (fun h1 _ => wf_cons (wfi hr) (wf_tl (wf_tl h1))) (fun _ _ _ _ _ _ _ _ _ _ _ _ _ _ _ _ hx hb _ _ _ _ k1 => lv_imul hx hb h (by rw [← o_mul]; exact k1)) kk
theorem S_ineg {a : Int} (h : decode (bc mi) pc = .ok (.ineg, 1)) (hr : I32 (-a)) (kk : TT G w0 w w2 k rc mi (pc + 1) ls (vi (-a) :: st) σ Q) : TT G w0 w w2 k rc mi pc ls (vi a :: st) σ Q :=
  TT_pure (fun h1 _ => wf_cons (wfi hr) (wf_tl h1)) (fun _ _ _ _ _ _ _ _ _ _ _ _ _ _ _ _ hx hb _ _ _ _ k1 => lv_ineg hx hb h (by rw [← o_neg]; exact k1)) kk
theorem ne0 {b : Int} (hb : I32 b) (h1 : 0 < b) : ¬ Int32.ofInt b = 0 := fun z => by
  have := (i32_eq hb I32_0).mp (by rw [z]; rfl)
  omega
theorem S_idiv {a b : Int} (h : decode (bc mi) pc = .ok (.idiv, 1)) (h0 : 0 ≤ a) (h1 : 0 < b) (kk : TT G w0 w w2 k rc mi (pc + 1) ls (vi (a / b) :: st) σ Q) : TT G w0 w w2 k rc mi pc ls (vi b :: vi a :: st) σ Q :=
  TT_pure (fun h2 _ => wf_cons (wfi (by
      have ha : I32 a := wf_hd (wf_tl h2)
      have q1 : 0 ≤ a / b := Int.ediv_nonneg h0 (by omega)
      have q2 : a / b ≤ a := Int.ediv_le_self b h0
      unfold I32 at ha ⊢; omega)) (wf_tl (wf_tl h2)))
    (fun _ _ _ _ _ _ _ _ _ _ _ _ _ _ _ _ hx hb _ _ _ hw k1 => lv_idiv hx hb h (ne0 (wf_hd hw) h1) (by rw [← o_div (wf_hd (wf_tl hw)) (wf_hd hw) h0 h1]; exact k1)) kk
theorem o_rem2 {a b : Int} (ha : I32 a) (hb : I32 b) (h0 : 0 ≤ a) (h1 : 0 < b) : Int32.ofInt (a % b) = Int32.ofInt a - Int32.ofInt a / Int32.ofInt b * Int32.ofInt b := by
  rw [← o_div ha hb h0 h1, ← o_mul, ← o_sub]
  congr 1
  have := Int.emod_def a b
  rw [this, Int.mul_comm]
theorem S_irem {a b : Int} (h : decode (bc mi) pc = .ok (.irem, 1)) (h0 : 0 ≤ a) (h1 : 0 < b) (kk : TT G w0 w w2 k rc mi (pc + 1) ls (vi (a % b) :: st) σ Q) : TT G w0 w w2 k rc mi pc ls (vi b :: vi a :: st) σ Q :=
  TT_pure (fun h2 _ => wf_cons (wfi (by
      have hb : I32 b := wf_hd h2
      have q1 : 0 ≤ a % b := Int.emod_nonneg a (by omega)
      have q2 : a % b < b := Int.emod_lt_of_pos a h1
      unfold I32 at hb ⊢; omega)) (wf_tl (wf_tl h2)))
    (fun _ _ _ _ _ _ _ _ _ _ _ _ _ _ _ _ hx hb _ _ _ hw k1 => lv_irem hx hb h (ne0 (wf_hd hw) h1) (by rw [← o_rem2 (wf_hd (wf_tl hw)) (wf_hd hw) h0 h1]; exact k1)) kk
theorem S_ishl {a b : Int} (h : decode (bc mi) pc = .ok (.ishl, 1)) (h0 : 0 ≤ a ∧ 0 ≤ b ∧ b ≤ 30) (hr : I32 (a * 2 ^ b.toNat)) (kk : TT G w0 w w2 k rc mi (pc + 1) ls (vi (a * 2 ^ b.toNat) :: st) σ Q) : TT G w0 w w2 k rc mi pc ls (vi b :: vi a :: st) σ Q :=
  TT_pure (fun h1 _ => wf_cons (wfi hr) (wf_tl (wf_tl h1))) (fun _ _ _ _ _ _ _ _ _ _ _ _ _ _ _ _ hx hb _ _ _ _ k1 => lv_ishl hx hb h (by rw [← o_shl h0.1 h0.2.1 h0.2.2 hr]; exact k1)) kk
theorem S_ishr {a b : Int} (h : decode (bc mi) pc = .ok (.ishr, 1)) (h0 : 0 ≤ b ∧ b ≤ 31) (kk : TT G w0 w w2 k rc mi (pc + 1) ls (vi (a / 2 ^ b.toNat) :: st) σ Q) : TT G w0 w w2 k rc mi pc ls (vi b :: vi a :: st) σ Q :=
  TT_pure (fun h1 _ => wf_cons (wfi (by
      have ha : I32 a := wf_hd (wf_tl h1)
      have e := o_shr ha h0.1 h0.2
      have hp : (0 : Int) < 2 ^ b.toNat := Int.pow_pos (by omega)
      rcases Int.lt_or_le a 0 with q | q
      · have q1 : a / 2 ^ b.toNat < 0 := Int.ediv_neg_of_neg_of_pos q hp
        have q2 : a ≤ a / 2 ^ b.toNat := by
          rw [Int.le_ediv_iff_mul_le hp]
          have h9 : (1 : Int) ≤ 2 ^ b.toNat := hp
          have := Int.mul_le_mul_of_nonpos_left (show a ≤ 0 by omega) h9
          omega
        unfold I32 at ha ⊢; omega
      · have q1 : 0 ≤ a / 2 ^ b.toNat := Int.ediv_nonneg q (by omega)
        have q2 : a / 2 ^ b.toNat ≤ a := Int.ediv_le_self _ q
        unfold I32 at ha ⊢; omega)) (wf_tl (wf_tl h1)))
    (fun _ _ _ _ _ _ _ _ _ _ _ _ _ _ _ _ hx hb _ _ _ hw k1 => lv_ishr hx hb h (by rw [← o_shr (wf_hd (wf_tl hw)) h0.1 h0.2]; exact k1)) kk
theorem S_iushr {a b : Int} (h : decode (bc mi) pc = .ok (.iushr, 1)) (kk : TT G w0 w w2 k rc mi (pc + 1) ls (vi (ushr a b) :: st) σ Q) : TT G w0 w w2 k rc mi pc ls (vi b :: vi a :: st) σ Q :=
  TT_pure (fun h1 _ => wf_cons (wfi (I32_b _)) (wf_tl (wf_tl h1))) (fun _ _ _ _ _ _ _ _ _ _ _ _ _ _ _ _ hx hb _ _ _ _ k1 => lv_iushr hx hb h (o32_b _).symm k1) kk
theorem S_iand {a b : Int} (h : decode (bc mi) pc = .ok (.iand, 1)) (kk : TT G w0 w w2 k rc mi (pc + 1) ls (vi (band a b) :: st) σ Q) : TT G w0 w w2 k rc mi pc ls (vi b :: vi a :: st) σ Q :=
  TT_pure (fun h1 _ => wf_cons (wfi (I32_b _)) (wf_tl (wf_tl h1))) (fun _ _ _ _ _ _ _ _ _ _ _ _ _ _ _ _ hx hb _ _ _ _ k1 => lv_iand hx hb h (by have e := o32_b (Int32.ofInt a &&& Int32.ofInt b); rw [← e]; exact k1)) kk
theorem S_ior {a b : Int} (h : decode (bc mi) pc = .ok (.ior, 1)) (kk : TT G w0 w w2 k rc mi (pc + 1) ls (vi (bor a b) :: st) σ Q) : TT G w0 w w2 k rc mi pc ls (vi b :: vi a :: st) σ Q :=
  TT_pure (fun h1 _ => wf_cons (wfi (I32_b _)) (wf_tl (wf_tl h1))) (fun _ _ _ _ _ _ _ _ _ _ _ _ _ _ _ _ hx hb _ _ _ _ k1 => lv_ior hx hb h (by have e := o32_b (Int32.ofInt a ||| Int32.ofInt b); rw [← e]; exact k1)) kk
theorem S_ixor {a b : Int} (h : decode (bc mi) pc = .ok (.ixor, 1)) (kk : TT G w0 w w2 k rc mi (pc + 1) ls (vi (bxor a b) :: st) σ Q) : TT G w0 w w2 k rc mi pc ls (vi b :: vi a :: st) σ Q :=
  TT_pure (fun h1 _ => wf_cons (wfi (I32_b _)) (wf_tl (wf_tl h1))) (fun _ _ _ _ _ _ _ _ _ _ _ _ _ _ _ _ hx hb _ _ _ _ k1 => lv_ixor hx hb h (by have e := o32_b (Int32.ofInt a ^^^ Int32.ofInt b); rw [← e]; exact k1)) kk
theorem S_ladd {a b : Int} (h : decode (bc mi) pc = .ok (.ladd, 1)) (kk : TT G w0 w w2 k rc mi (pc + 1) ls (vl (w64 (a + b)) :: st) σ Q) : TT G w0 w w2 k rc mi pc ls (vl b :: vl a :: st) σ Q :=
  TT_pure (fun h1 _ => wf_cons (wfl (w64_I _)) (wf_tl (wf_tl h1))) (fun _ _ _ _ _ _ _ _ _ _ _ _ _ _ _ _ hx hb _ _ _ _ k1 => lv_ladd hx hb h (by rw [← l_add]; exact k1)) kk
theorem S_lsub {a b : Int} (h : decode (bc mi) pc = .ok (.lsub, 1)) (kk : TT G w0 w w2 k rc mi (pc + 1) ls (vl (w64 (a - b)) :: st) σ Q) : TT G w0 w w2 k rc mi pc ls (vl b :: vl a :: st) σ Q :=
  TT_pure (fun h1 _ => wf_cons (wfl (w64_I _)) (wf_tl (wf_tl h1))) (fun _ _ _ _ _ _ _ _ _ _ _ _ _ _ _ _ hx hb _ _ _ _ k1 => lv_lsub hx hb h (by rw [← l_sub]; exact k1)) kk
theorem S_lmul {a b : Int} (h : decode (bc mi) pc = .ok (.lmul, 1)) (kk : TT G w0 w w2 k rc mi (pc + 1) ls (vl (w64 (a * b)) :: st) σ Q) : TT G w0 w w2 k rc mi pc ls (vl b :: vl a :: st) σ Q :=
  TT_pure (fun h1 _ => wf_cons (wfl (w64_I _)) (wf_tl (wf_tl h1))) (fun _ _ _ _ _ _ _ _ _ _ _ _ _ _ _ _ hx hb _ _ _ _ k1 => lv_lmul hx hb h (by rw [← l_mul]; exact k1)) kk
theorem S_ldiv {a b : Int} (h : decode (bc mi) pc = .ok (.ldiv, 1)) (h0 : b ≠ 0) (kk : TT G w0 w w2 k rc mi (pc + 1) ls (vl (w64 (Int.tdiv a b)) :: st) σ Q) : TT G w0 w w2 k rc mi pc ls (vl b :: vl a :: st) σ Q :=
  TT_pure (fun h1 _ => wf_cons (wfl (w64_I _)) (wf_tl (wf_tl h1))) (fun _ _ _ _ _ _ _ _ _ _ _ _ _ _ _ _ hx hb _ _ _ hw k1 => lv_ldiv hx hb h
    (fun z => h0 ((i64_eq (wf_hd hw) (by unfold I64; omega)).mp (by rw [z]; rfl))) (by rw [← l_div (wf_hd (wf_tl hw)) (wf_hd hw)]; exact k1)) kk
theorem S_land {a b : Int} (h : decode (bc mi) pc = .ok (.land, 1)) (kk : TT G w0 w w2 k rc mi (pc + 1) ls (vl (land64 a b) :: st) σ Q) : TT G w0 w w2 k rc mi pc ls (vl b :: vl a :: st) σ Q :=
  TT_pure (fun h1 _ => wf_cons (wfl (I64_b _)) (wf_tl (wf_tl h1))) (fun _ _ _ _ _ _ _ _ _ _ _ _ _ _ _ _ hx hb _ _ _ _ k1 => lv_land hx hb h (by have e := o64_b (Int64.ofInt a &&& Int64.ofInt b); rw [← e]; exact k1)) kk
theorem S_lor {a b : Int} (h : decode (bc mi) pc = .ok (.lor, 1)) (kk : TT G w0 w w2 k rc mi (pc + 1) ls (vl (lor64 a b) :: st) σ Q) : TT G w0 w w2 k rc mi pc ls (vl b :: vl a :: st) σ Q :=
  TT_pure (fun h1 _ => wf_cons (wfl (I64_b _)) (wf_tl (wf_tl h1))) (fun _ _ _ _ _ _ _ _ _ _ _ _ _ _ _ _ hx hb _ _ _ _ k1 => lv_lor hx hb h (by have e := o64_b (Int64.ofInt a ||| Int64.ofInt b); rw [← e]; exact k1)) kk
theorem S_lcmp {a b : Int} (h : decode (bc mi) pc = .ok (.lcmp, 1)) (kk : TT G w0 w w2 k rc mi (pc + 1) ls (vi (lcmpI a b) :: st) σ Q) : TT G w0 w w2 k rc mi pc ls (vl b :: vl a :: st) σ Q :=
  TT_pure (fun h1 _ => wf_cons (wfi (lcmpI_I _ _)) (wf_tl (wf_tl h1))) (fun _ _ _ _ _ _ _ _ _ _ _ _ _ _ _ _ hx hb _ _ _ hw k1 => W.lcmp hx hb h (by rw [← o_cmp (wf_hd (wf_tl hw)) (wf_hd hw)]; exact k1)) kk
theorem S_i2l {a : Int} (h : decode (bc mi) pc = .ok (.i2l, 1)) (kk : TT G w0 w w2 k rc mi (pc + 1) ls (vl a :: st) σ Q) : TT G w0 w w2 k rc mi pc ls (vi a :: st) σ Q :=
  TT_pure (fun h1 _ => wf_cons (wfl (I32_64 (wf_hd h1))) (wf_tl h1)) (fun _ _ _ _ _ _ _ _ _ _ _ _ _ _ _ _ hx hb _ _ _ hw k1 => lv_i2l hx hb h (o_i2l (wf_hd hw)) k1) kk
theorem S_l2i {a : Int} (h : decode (bc mi) pc = .ok (.l2i, 1)) (kk : TT G w0 w w2 k rc mi (pc + 1) ls (vi (w32 a) :: st) σ Q) : TT G w0 w w2 k rc mi pc ls (vl a :: st) σ Q :=
  TT_pure (fun h1 _ => wf_cons (wfi (w32_I _)) (wf_tl h1)) (fun _ _ _ _ _ _ _ _ _ _ _ _ _ _ _ _ hx hb _ _ _ hw k1 => lv_l2i hx hb h (o_l2i (wf_hd hw)) k1) kk
theorem S_i2b {a : Int} (h : decode (bc mi) pc = .ok (.i2b, 1)) (kk : TT G w0 w w2 k rc mi (pc + 1) ls (vi (w8 a) :: st) σ Q) : TT G w0 w w2 k rc mi pc ls (vi a :: st) σ Q :=
  TT_pure (fun h1 _ => wf_cons (wfi (w8_I _)) (wf_tl h1)) (fun _ _ _ _ _ _ _ _ _ _ _ _ _ _ _ _ hx hb _ _ _ hw k1 => lv_i2b hx hb h (o_i2b (wf_hd hw)) k1) kk
/-! the stack -/
def c1 (v : AV) : Prop := isLg (some v) = false
theorem cat1 {ob : Nat → Nat} {v : AV} (h : c1 v) : (val ob v).category = 1 := by rw [cat_val, if_neg (by rw [h]; decide)]
theorem cat2 {ob : Nat → Nat} {v : AV} (h : isLg (some v) = true) : (val ob v).category = 2 := by rw [cat_val, if_pos h]
theorem S_dup {v : AV} (h : decode (bc mi) pc = .ok (.dup, 1)) (hc : c1 v) (kk : TT G w0 w w2 k rc mi (pc + 1) ls (v :: v :: st) σ Q) : TT G w0 w w2 k rc mi pc ls (v :: st) σ Q :=
  TT_pure (fun h1 _ => wf_cons (wf_hd h1) h1) (fun _ _ _ _ _ _ _ _ _ _ _ _ _ _ _ _ hx hb _ _ _ _ k1 => lv_dup hx hb h (cat1 hc) k1) kk
theorem S_dup2 {v u : AV} (h : decode (bc mi) pc = .ok (.dup2, 1)) (hc : c1 v) (hu : c1 u) (kk : TT G w0 w w2 k rc mi (pc + 1) ls (v :: u :: v :: u :: st) σ Q) : TT G w0 w w2 k rc mi pc ls (v :: u :: st) σ Q :=
  TT_pure (fun h1 _ => wf_cons (wf_hd h1) (wf_cons (wf_hd (wf_tl h1)) h1)) (fun _ _ _ _ _ _ _ _ _ _ _ _ _ _ _ _ hx hb _ _ _ _ k1 => lv_dup2_11 hx hb h (cat1 hc) (cat1 hu) k1) kk
theorem S_dup2l {x : Int} (h : decode (bc mi) pc = .ok (.dup2, 1)) (kk : TT G w0 w w2 k rc mi (pc + 1) ls (vl x :: vl x :: st) σ Q) : TT G w0 w w2 k rc mi pc ls (vl x :: st) σ Q :=
  TT_pure (fun h1 _ => wf_cons (wf_hd h1) h1) (fun _ _ _ _ _ _ _ _ _ _ _ _ _ _ _ _ hx hb _ _ _ _ k1 => lv_dup2_2 hx hb h rfl k1) kk
theorem S_pop {v : AV} (h : decode (bc mi) pc = .ok (.pop, 1)) (hc : c1 v) (kk : TT G w0 w w2 k rc mi (pc + 1) ls st σ Q) : TT G w0 w w2 k rc mi pc ls (v :: st) σ Q :=
  TT_pure (fun h1 _ => wf_tl h1) (fun _ _ _ _ _ _ _ _ _ _ _ _ _ _ _ _ hx hb _ _ _ _ k1 => lv_pop hx hb h (cat1 hc) k1) kk
theorem S_pop2 {x : Int} (h : decode (bc mi) pc = .ok (.pop2, 1)) (kk : TT G w0 w w2 k rc mi (pc + 1) ls st σ Q) : TT G w0 w w2 k rc mi pc ls (vl x :: st) σ Q :=
  TT_pure (fun h1 _ => wf_tl h1) (fun _ _ _ _ _ _ _ _ _ _ _ _ _ _ _ _ hx hb _ _ _ _ k1 => lv_pop2_2 hx hb h rfl k1) kk
/-! branches -/
theorem S_goto {off : Int} {t : Nat} (h : decode (bc mi) pc = .ok (.goto off, 3)) (ht : (pc : Int) + off = (t : Int)) (kk : TT G w0 w w2 k rc mi t ls st σ Q) : TT G w0 w w2 k rc mi pc ls st σ Q :=
  TT_pure (fun h1 _ => h1) (fun _ _ _ _ _ _ _ _ _ _ _ _ _ _ _ _ hx hb _ _ _ _ k1 => lv_goto hx hb h ht k1) kk
def cmpI (c : ClassFile.Cond) (a b : Int) : Prop := match c with
  | .eq => a = b
  | .ne => a ≠ b
  | .lt => a < b
  | .ge => b ≤ a
  | .gt => b < a
  | .le => a ≤ b
theorem S_icmp {cd : ClassFile.Cond} {off a b : Int} {t : Nat} (h : decode (bc mi) pc = .ok (.if_icmp cd off, 3)) (ht : (pc : Int) + off = (t : Int)) (k1 : cmpI cd a b → TT G w0 w w2 k rc mi t ls st σ Q) (k2 : ¬ cmpI cd a b → TT G w0 w w2 k rc mi (pc + 3) ls st σ Q) : TT G w0 w w2 k rc mi pc ls (vi b :: vi a :: st) σ Q := by
  by_cases hc : cmpI cd a b
  · refine TT_pure (fun h1 _ => wf_tl (wf_tl h1)) (fun _ _ _ _ _ _ _ _ _ _ _ _ _ _ _ _ hx hb _ _ _ hw k9 => ?_) (k1 hc)
    have ha : I32 a := wf_hd (wf_tl hw)
    have hb' : I32 b := wf_hd hw
    cases cd with
    | eq => exact lv_icmp_eq hx hb h ht (fun _ => k9) (fun z => absurd ((i32_eq ha hb').mpr hc) z)
    | ne => exact lv_icmp_ne hx hb h ht (fun _ => k9) (fun z => absurd ((i32_eq ha hb').mp z) hc)
    | lt => exact lv_icmp_lt hx hb h ht (fun _ => k9) (fun z => absurd ((i32_lt ha hb').mpr hc) z)
    | ge => exact lv_icmp_ge hx hb h ht (fun _ => k9) (fun z => absurd ((i32_le hb' ha).mpr hc) z)
    | gt => exact lv_icmp_gt hx hb h ht (fun _ => k9) (fun z => absurd ((i32_lt hb' ha).mpr hc) z)
    | le => exact lv_icmp_le hx hb h ht (fun _ => k9) (fun z => absurd ((i32_le ha hb').mpr hc) z)
  · refine TT_pure (fun h1 _ => wf_tl (wf_tl h1)) (fun _ _ _ _ _ _ _ _ _ _ _ _ _ _ _ _ hx hb _ _ _ hw k9 => ?_) (k2 hc)
    have ha : I32 a := wf_hd (wf_tl hw)
    have hb' : I32 b := wf_hd hw
    cases cd with
    | eq => exact lv_icmp_eq hx hb h ht (fun z => absurd ((i32_eq ha hb').mp z) hc) (fun _ => k9)
    | ne => exact lv_icmp_ne hx hb h ht (fun z => absurd (fun q => z ((i32_eq ha hb').mpr q)) hc) (fun _ => k9)
    | lt => exact lv_icmp_lt hx hb h ht (fun z => absurd ((i32_lt ha hb').mp z) hc) (fun _ => k9)
    | ge => exact lv_icmp_ge hx hb h ht (fun z => absurd ((i32_le hb' ha).mp z) hc) (fun _ => k9)
    | gt => exact lv_icmp_gt hx hb h ht (fun z => absurd ((i32_lt hb' ha).mp z) hc) (fun _ => k9)
    | le => exact lv_icmp_le hx hb h ht (fun z => absurd ((i32_le ha hb').mp z) hc) (fun _ => k9)
theorem S_if {cd : ClassFile.Cond} {off a : Int} {t : Nat} (h : decode (bc mi) pc = .ok (.ifCond cd off, 3)) (ht : (pc : Int) + off = (t : Int)) (k1 : cmpI cd a 0 → TT G w0 w w2 k rc mi t ls st σ Q) (k2 : ¬ cmpI cd a 0 → TT G w0 w w2 k rc mi (pc + 3) ls st σ Q) : TT G w0 w w2 k rc mi pc ls (vi a :: st) σ Q := by
  have hb' := I32_0
  by_cases hc : cmpI cd a 0
  · refine TT_pure (fun h1 _ => wf_tl h1) (fun _ _ _ _ _ _ _ _ _ _ _ _ _ _ _ _ hx hb _ _ _ hw k9 => ?_) (k1 hc)
    have ha : I32 a := wf_hd hw
    cases cd with
    | eq => exact lv_if_eq hx hb h ht (fun _ => k9) (fun z => absurd ((i32_eq ha hb').mpr hc) z)
    | ne => exact lv_if_ne hx hb h ht (fun _ => k9) (fun z => absurd ((i32_eq ha hb').mp z) hc)
    | lt => exact lv_if_lt hx hb h ht (fun _ => k9) (fun z => absurd ((i32_lt ha hb').mpr hc) z)
    | ge => exact lv_if_ge hx hb h ht (fun _ => k9) (fun z => absurd ((i32_le hb' ha).mpr hc) z)
    | gt => exact lv_if_gt hx hb h ht (fun _ => k9) (fun z => absurd ((i32_lt hb' ha).mpr hc) z)
    | le => exact lv_if_le hx hb h ht (fun _ => k9) (fun z => absurd ((i32_le ha hb').mpr hc) z)
  · refine TT_pure (fun h1 _ => wf_tl h1) (fun _ _ _ _ _ _ _ _ _ _ _ _ _ _ _ _ hx hb _ _ _ hw k9 => ?_) (k2 hc)
    have ha : I32 a := wf_hd hw
    cases cd with
    | eq => exact lv_if_eq hx hb h ht (fun z => absurd ((i32_eq ha hb').mp z) hc) (fun _ => k9)
    | ne => exact lv_if_ne hx hb h ht (fun z => absurd (fun q => z ((i32_eq ha hb').mpr q)) hc) (fun _ => k9)
    | lt => exact lv_if_lt hx hb h ht (fun z => absurd ((i32_lt ha hb').mp z) hc) (fun _ => k9)
    | ge => exact lv_if_ge hx hb h ht (fun z => absurd ((i32_le hb' ha).mp z) hc) (fun _ => k9)
    | gt => exact lv_if_gt hx hb h ht (fun z => absurd ((i32_lt hb' ha).mp z) hc) (fun _ => k9)
    | le => exact lv_if_le hx hb h ht (fun z => absurd ((i32_le ha hb').mp z) hc) (fun _ => k9)
theorem S_ifnull {off : Int} {t : Nat} {q : Option (Nat × Nat × Nat)} (h : decode (bc mi) pc = .ok (.ifnull off, 3)) (ht : (pc : Int) + off = (t : Int)) (k1 : q = none → TT G w0 w w2 k rc mi t ls st σ Q) (k2 : ¬ q = none → TT G w0 w w2 k rc mi (pc + 3) ls st σ Q) : TT G w0 w w2 k rc mi pc ls (Sum.inr (Sum.inr q) :: st) σ Q := by
  cases q with
  | none => exact TT_pure (fun h1 _ => wf_tl h1) (fun _ _ _ _ _ _ _ _ _ _ _ _ _ _ _ _ hx hb _ _ _ hw k9 => lv_ifnullN hx hb h ht k9) (k1 rfl)
  | some q => exact TT_pure (fun h1 _ => wf_tl h1) (fun _ _ _ _ _ _ _ _ _ _ _ _ _ _ _ _ hx hb _ _ _ hw k9 => lv_ifnull hx hb h k9) (k2 (fun z => by cases z))
theorem S_ifnonnull {off : Int} {t : Nat} {q : Option (Nat × Nat × Nat)} (h : decode (bc mi) pc = .ok (.ifnonnull off, 3)) (ht : (pc : Int) + off = (t : Int)) (k1 : ¬ q = none → TT G w0 w w2 k rc mi t ls st σ Q) (k2 : q = none → TT G w0 w w2 k rc mi (pc + 3) ls st σ Q) : TT G w0 w w2 k rc mi pc ls (Sum.inr (Sum.inr q) :: st) σ Q := by
  cases q with
  | none => exact TT_pure (fun h1 _ => wf_tl h1) (fun _ _ _ _ _ _ _ _ _ _ _ _ _ _ _ _ hx hb _ _ _ hw k9 => lv_ifnonnullN hx hb h k9) (k2 rfl)
  | some q => exact TT_pure (fun h1 _ => wf_tl h1) (fun _ _ _ _ _ _ _ _ _ _ _ _ _ _ _ _ hx hb _ _ _ hw k9 => lv_ifnonnull hx hb h ht k9) (k1 (fun z => by cases z))
theorem S_table {dflt lo hi : Int} {offs : Array Int} {len : Nat} {a : Int} (h : decode (bc mi) pc = .ok (.tableswitch dflt lo hi offs, len)) (hlo : I32 lo ∧ I32 hi) (hsz : offs.toList.length = (hi - lo + 1).toNat) (hpos : ∀ o ∈ dflt :: offs.toList, 0 ≤ (pc : Int) + o)
    (k1 : ∀ (j : Nat) (o : Int), offs.toList[j]? = some o → a = lo + j → TT G w0 w w2 k rc mi ((pc : Int) + o).toNat ls st σ Q) (k2 : (a < lo ∨ hi < a) → TT G w0 w w2 k rc mi ((pc : Int) + dflt).toNat ls st σ Q) : TT G w0 w w2 k rc mi pc ls (vi a :: st) σ Q := by
  by_cases hc : a < lo ∨ hi < a
  · refine TT_pure (fun h1 _ => wf_tl h1) (fun _ _ _ _ _ _ _ _ _ _ _ _ _ _ _ _ hx hb _ _ _ hw k9 => ?_) (k2 hc)
    have ha : I32 a := wf_hd hw
    exact lv_tableOut hx hb h (by rw [t32 ha]; exact hc) (by have := hpos dflt List.mem_cons_self; omega) k9
  · have hj : (a - lo).toNat < offs.toList.length := by rw [hsz]; omega
    have he : offs.toList[(a - lo).toNat]? = some (offs.toList[(a - lo).toNat]'hj) := List.getElem?_eq_getElem hj
    refine TT_pure (fun h1 _ => wf_tl h1) (fun _ _ _ _ _ _ _ _ _ _ _ _ _ _ _ _ hx hb _ _ _ hw k9 => ?_) (k1 _ _ he (by omega))
    have ha : I32 a := wf_hd hw
    refine lv_tableIn hx hb h (by rw [t32 ha]; omega) (by rw [t32 ha]; omega) (off := offs.toList[(a - lo).toNat]'hj) (by rw [t32 ha, ← Array.getElem?_toList]; exact he) ?_ k9
    have := hpos _ (List.mem_cons_of_mem _ (List.getElem_mem hj))
    omega
end RUL

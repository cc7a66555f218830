/-! 38.copy: a stretch of one array laid into another (System.arraycopy from place 0 to place 0); a town copied -/
/-- the row of W of arraycopy of n values, both from place 0 -/
theorem W_cpy {p : Program} {l : Launch} {e : Env} {R : Room} {s : State} {m : MethodId} {args : Array Value} {below : List Frame} {meth : Method} {c : Code} {H : Heap} {locs : List Loc} {cells slots : Nat} {Q : State → Prop} {cc : ByteArray} {pc : Nat} {ls : Array Slot} {rest : List Value} {α : Type} (mk : α → Value)
    (hexec : p.tables.exec = Jvm.exec) (hb : c.code = cc) (hml : c.maxLocals = ls.size) {own : String} {index : Nat} (hown : s.vm.findClass own = some m.cls) (hlink : (Cond.methodLink own index arraycopyName).before args s = true) (hnat : (Cond.native arraycopyName).before args s = true) (hstat : (Cond.static arraycopyName).before args s = true) (hini : (Cond.initialized "java/lang/System").before args s = true)
    {a0 a n0 n1 : Nat} {c0 c1 : ClassId} {f g : Nat → α} {ty : FieldType} (hc0 : H[a0]? = some (arrV c0 n0 (fun j => mk (f j)))) (hc1 : H[a]? = some (arrV c1 n1 (fun j => mk (g j)))) (ht0 : ArrOfT s c0 ty) (ht1 : ArrOfT s c1 ty) (hprim : refKind ty = false)
    {n : Int32} (h3 : ¬ n < 0) (h4 : n.toInt ≤ n0) (h5 : n.toInt ≤ n1) (h6 : n.toNatClampNeg ≤ n0) (hfit : ∀ i, fits ty (mk (f i)) = true) (htk : ∀ (U : State) (d : ClassId) (x : α), U.takes d (mk x))
    (hframes : 1 ≤ R.frames) (hlocals : (rest.map fun v => v.category).sum + (nativeFrameWords "java/lang/System" "arraycopy" 5 + 11) ≤ R.locals) (hdg : decode cc pc = .ok (.invokestatic index, 3))
    (kk : ∀ (H1 : Heap) (locs1 : List Loc), H1[a]? = some (arrV c1 n1 (fun j => mk (va_cpy f g 0 0 n.toNatClampNeg j))) → H1.size = H.size → (∀ q, q ≠ a → H1[q]? = H[q]?) → (∀ q ∈ locs1, q ∈ locs ∨ q.base = a) → W p l e R s m args below meth c H1 locs1 cells slots Q (F0 m (pc + 3) ls rest)) :
    W p l e R s m args below meth c H locs cells slots Q (F0 m pc ls (.int n :: .int 0 :: .ref a :: .int 0 :: .ref a0 :: rest)) := by
  intro T hT X
  obtain ⟨-, k0, hk0, cm0, hkk0⟩ := ht0 n0 (fun j => mk (f j))
  obtain ⟨-, k1, hk1, cm1, hkk1⟩ := ht1 n1 (fun j => mk (g j))
  have z0 : (0 : Int32).toNatClampNeg = 0 := by decide
  have zi : (0 : Int32).toInt = 0 := by decide
  obtain ⟨vm', X', step⟩ := X.arraycopy hexec hown hlink hnat hstat hini (src := a0) (dst := a) (cs := arrV c0 n0 (fun j => mk (f j))) (cd := arrV c1 n1 (fun j => mk (g j))) (srcPos := 0) (destPos := 0) (n := n) (by rw [hT]; exact hc0) (by rw [hT]; exact hc1)
    (fun _ h => by cases h) (fun _ h => by cases h) (fun h => by cases h) (fun h => by cases h) hk0 hk1 hkk0 hkk1 (by simp [hprim]) (by decide) (by decide) h3
    (by rw [zi, arrV_size]; omega) (by rw [zi, arrV_size]; omega)
    (fun vm₁ _ i hi => by
      have e : (arrV c0 n0 (fun j => mk (f j))).slots.getD ((0 : Int32).toNatClampNeg + i) .null = mk (f i) := by
        rw [z0, Nat.zero_add, Array.getD_eq_getD_getElem?, arrV_read _ _ (by omega)]
        rfl
      rw [e]
      exact ⟨hfit i, htk _ _ _⟩)
    (g := F0 m pc ls (.int n :: .int 0 :: .ref a :: .int 0 :: .ref a0 :: rest)) rfl (by rw [hml]) (rest := rest) rfl (by rw [hb]; exact hdg) hframes (by show 2 * 0 + _ + _ ≤ _; omega)
  have e1 : copied (arrV c0 n0 (fun j => mk (f j))) (arrV c1 n1 (fun j => mk (g j))) 0 0 n = arrV c1 n1 (fun j => mk (va_cpy f g 0 0 n.toNatClampNeg j)) := va_copied mk c0 c1 f g (by omega)
  rw [e1] at X' step
  have hl : a < H.size := (Array.getElem?_eq_some_iff.mp hc1).1
  have hheap : ((T.setVm vm').setCell a (arrV c1 n1 (fun j => mk (va_cpy f g 0 0 n.toNatClampNeg j)))).heap = H.setIfInBounds a (arrV c1 n1 (fun j => mk (va_cpy f g 0 0 n.toNatClampNeg j))) := by rw [← hT]; rfl
  obtain ⟨t, a1, b1⟩ := kk _ _ (show (H.setIfInBounds a _)[a]? = some _ by simp [Array.getElem?_setIfInBounds, hl]) (by simp) (fun q hq => by simp [Array.getElem?_setIfInBounds, Ne.symm hq])
    (fun q hq => by
      rcases List.mem_append.mp hq with h | h
      · exact Or.inl h
      · obtain ⟨z, -, hz⟩ := List.mem_map.mp h
        right; rw [← hz]) _ hheap X'
  exact ⟨t, step t a1, b1⟩
def cpM (σ : Mem) (o1 f1 r1 o2 f2 r2 n : Nat) : Mem := fun o f r c => if (o = o2 ∧ f = f2 ∧ r = r2) ∧ c < n then σ o1 f1 r1 c else σ o f r c
theorem cpM_ne {σ : Mem} {o1 f1 r1 o2 f2 r2 n o f r c : Nat} (h : ¬ (o = o2 ∧ f = f2 ∧ r = r2)) : cpM σ o1 f1 r1 o2 f2 r2 n o f r c = σ o f r c := if_neg (fun z => h z.1)
theorem cpM_eq {σ : Mem} {o1 f1 r1 o2 f2 r2 n c : Nat} (h : c < n) : cpM σ o1 f1 r1 o2 f2 r2 n o2 f2 r2 c = σ o1 f1 r1 c := if_pos ⟨⟨rfl, rfl, rfl⟩, h⟩
section CPY
variable {G : Gl} {w0 w w2 : Wd} {k : Nat} {rc : Nat × Nat} {mi pc : Nat} {ls : List (Option AV)} {st : List AV} {σ : Mem} {Q : Option AV → Mem → Prop}
theorem Rep.cpR {ob : Nat → Nat} {H H1 : Heap} {o1 f1 r1 o f r n : Nat} (h : Rep G w ob σ H) (hb : born w o) (hf : 0 < f) (ha : arow (lay (cls o) (f - 1)) r)
    (hn : H1[adr ob o f r]? = some (arrV (G.2.1.2.2 (acd (lay (cls o) (f - 1)) r)) (akk (lay (cls o) (f - 1)) r).2 (elv ob (cpM σ o1 f1 r1 o f r n) o f r)))
    (oq : ∀ q, q ≠ adr ob o f r → H1[q]? = H[q]?) : Rep G w ob (cpM σ o1 f1 r1 o f r n) H1 := by
  obtain ⟨h1, h2, h3, h4⟩ := h
  have hv : vloc w o f r := ⟨hb, Or.inr ⟨hf, ha⟩⟩
  refine ⟨fun o' hb' => ?_, fun o' f' r' hb' hf' ha' => ?_, h3, h4⟩
  · have hne : ob o' ≠ adr ob o f r := fun e => by
      have := h3 o' 0 0 o f r ⟨hb', Or.inl ⟨rfl, rfl⟩⟩ hv (by unfold adr at e ⊢; simpa using e)
      omega
    refine ((h1 o' hb').kept (oq _ hne)).to (fun k hk => ?_)
    unfold fval
    by_cases e : o' = o ∧ k + 1 = f
    · obtain ⟨rfl, rfl⟩ := e
      have q10 : 10 ≤ (lay (cls o') k).1 := ha.1
      have e0 : ¬ (lay (cls o') k).1 = 0 := by omega
      have e1 : ¬ (lay (cls o') k).1 = 1 := by omega
      have e2 : ¬ (lay (cls o') k).1 = 2 := by omega
      have e3 : ¬ (lay (cls o') k).1 = 3 := by omega
      have e4 : ¬ (lay (cls o') k).1 = 4 := by omega
      simp only [gfv, e0, e1, e2, e3, e4, if_false]
    · have e5 : cpM σ o1 f1 r1 o f r n o' (k + 1) 0 0 = σ o' (k + 1) 0 0 := cpM_ne (fun z => e ⟨z.1, z.2.1⟩)
      unfold gfv
      rw [e5]
  · by_cases e : o' = o ∧ f' = f ∧ r' = r
    · obtain ⟨rfl, rfl, rfl⟩ := e
      exact hn
    · have hne : adr ob o' f' r' ≠ adr ob o f r := fun z => e (h3 o' f' r' o f r ⟨hb', Or.inr ⟨hf', ha'⟩⟩ hv z)
      have ee : elv ob (cpM σ o1 f1 r1 o f r n) o' f' r' = elv ob σ o' f' r' := by
        funext j
        unfold elv
        rw [cpM_ne e]
      rw [oq _ hne, ee]
      exact h2 o' f' r' hb' hf' ha'
theorem cp_clamp {n : Int} (h0 : 0 ≤ n) (hi : I32 n) : ¬ Int32.ofInt n < 0 ∧ (Int32.ofInt n).toInt = n ∧ (Int32.ofInt n).toNatClampNeg = n.toNat :=
  ⟨fun z => by have := (i32_lt hi I32_0).mp z; omega, t32 hi, clampI h0 hi⟩
theorem cp_words : nativeFrameWords "java/lang/System" "arraycopy" 5 ≤ 40 := by decide
theorem S_cpyi {ix o1 f1 r1 o2 f2 r2 : Nat} {n : Int} (h : decode (bc mi) pc = .ok (.invokestatic ix, 3)) (hl : Cond.methodLink (RN (own mi)) ix arraycopyName ∈ WT) (ho1 : o1 < 22) (hf1 : f1 ≠ 0) (hk1 : (akk (lay (cls o1) (f1 - 1)) r1).1 = 10) (ho2 : o2 < 22) (hf2 : f2 ≠ 0) (hk2 : (akk (lay (cls o2) (f2 - 1)) r2).1 = 10)
    (h0 : 0 ≤ n) (hn1 : n ≤ (akk (lay (cls o1) (f1 - 1)) r1).2) (hn2 : n ≤ (akk (lay (cls o2) (f2 - 1)) r2).2) (hk : 0 < k) (hs : csum st ≤ 8)
    (kk : TT G w0 w w2 k rc mi (pc + 3) ls st (cpM σ o1 f1 r1 o2 f2 r2 n.toNat) Q) : TT G w0 w w2 k rc mi pc ls (vi n :: vi 0 :: vr o2 f2 r2 :: vi 0 :: vr o1 f1 r1 :: st) σ Q := by
  intro p e s m args below meth c H locs cells slots mc ms lsr ob0 ob hE h1 h2
  obtain ⟨cx, kk1, ss, rep, wσ, wst, wls, lh, fr, ag⟩ := hE
  have hts := cx.2.2.2.2.2.1
  have hv1 : vloc w o1 f1 r1 := vld.loc (show vld w o1 f1 r1 from wf_hd (wf_tl (wf_tl (wf_tl (wf_tl wst))))) ho1
  have hv2 : vloc w o2 f2 r2 := vld.loc (show vld w o2 f2 r2 from wf_hd (wf_tl (wf_tl wst))) ho2
  obtain ⟨ha1, hc1⟩ := rep.at hv1 hf1
  obtain ⟨ha2, hc2⟩ := rep.at hv2 hf2
  have hi : I32 n := wf_hd wst
  obtain ⟨m1, m2, m3⟩ := cp_clamp h0 hi
  have hnl1 : ¬ isL o1 f1 := (isL_of ha1).2 (by omega) (by omega)
  have hnl2 : ¬ isL o2 f2 := (isL_of ha2).2 (by omega) (by omega)
  have ev : ∀ (σ : Mem) (o f r : Nat), (akk (lay (cls o) (f - 1)) r).1 = 10 → elv ob σ o f r = fun j => .int (Int32.ofInt (σ o f r j)) := fun σ o f r z => by
    funext j; unfold elv; rw [if_neg (by omega), if_neg (by omega), if_neg (by omega)]
  rw [ev _ _ _ _ hk1, acd10 ha1 hk1] at hc1
  have hc2' := hc2
  rw [ev _ _ _ _ hk2, acd10 ha2 hk2] at hc2'
  have ww : wfσ (cpM σ o1 f1 r1 o2 f2 r2 n.toNat) := fun o f r c => by
    unfold cpM
    split
    · rename_i z
      obtain ⟨⟨rfl, rfl, rfl⟩, _⟩ := z
      exact ⟨fun y => absurd y hnl2, fun _ => (wσ o1 f1 r1 c).2 hnl1⟩
    · exact wσ o f r c
  refine W_cpy (fun z : Int32 => .int z) cx.1 cx.2.1 (by rw [cx.2.2.2.1, lh.1]) cx.2.2.2.2.1 (hts _ hl) (hts _ js_spec.2.2.2.2.2.2.2.1) (hts _ js_spec.2.2.2.2.2.2.1) (hts _ js_spec.2.2.2.2.2.2.2.2) hc1 hc2' (ty_at kk1 0 rfl) (ty_at kk1 0 rfl) rfl m1 (by omega) (by omega) (by omega) (fun _ => rfl) (fun _ _ _ => trivial) (by show 1 ≤ k; omega) (by
    have := cp_words
    rw [csum_eq]; show csum st + _ ≤ 64 * k; omega) h (fun H1 locs1 e1 e2 e3 e4 => ?_)
  refine kk p e s m args below meth c H1 locs1 cells slots mc ms lsr ob0 ob ⟨cx, kk1, ss, rep.cpR hv2.1 (Nat.pos_of_ne_zero hf2) ha2 ?_ e3, ww, wf_tl (wf_tl (wf_tl (wf_tl (wf_tl wst)))), wls, lh, ?_, ag⟩ h1 h2
  · rw [e1, ev _ _ _ _ hk2, acd10 ha2 hk2, m3]
    congr 2
    funext j
    unfold va_cpy cpM
    by_cases z : j < n.toNat
    · rw [if_pos (by omega), if_pos ⟨⟨rfl, rfl, rfl⟩, z⟩]
      simp
    · rw [if_neg (by omega), if_neg (fun y => z y.2)]
  · obtain ⟨f1, f2, f3, f4⟩ := fr
    refine ⟨by rw [e2]; exact f1, f2, fun q hq => ?_, fun q hq => ?_⟩
    · have := rep.2.2.2 o2 _ r2 hv2
      rw [e3 q (fun e => by omega)]; exact f3 q hq
    · rcases e4 q hq with z | z
      · exact f4 q z
      · rw [z]; exact rep.2.2.2 o2 _ r2 hv2
theorem S_cpyl {ix o1 f1 r1 o2 f2 r2 : Nat} {n : Int} (h : decode (bc mi) pc = .ok (.invokestatic ix, 3)) (hl : Cond.methodLink (RN (own mi)) ix arraycopyName ∈ WT) (ho1 : o1 < 22) (hf1 : f1 ≠ 0) (hk1 : (akk (lay (cls o1) (f1 - 1)) r1).1 = 11) (ho2 : o2 < 22) (hf2 : f2 ≠ 0) (hk2 : (akk (lay (cls o2) (f2 - 1)) r2).1 = 11)
    (h0 : 0 ≤ n) (hn1 : n ≤ (akk (lay (cls o1) (f1 - 1)) r1).2) (hn2 : n ≤ (akk (lay (cls o2) (f2 - 1)) r2).2) (hk : 0 < k) (hs : csum st ≤ 8)
    (kk : TT G w0 w w2 k rc mi (pc + 3) ls st (cpM σ o1 f1 r1 o2 f2 r2 n.toNat) Q) : TT G w0 w w2 k rc mi pc ls (vi n :: vi 0 :: vr o2 f2 r2 :: vi 0 :: vr o1 f1 r1 :: st) σ Q := by
  intro p e s m args below meth c H locs cells slots mc ms lsr ob0 ob hE h1 h2
  obtain ⟨cx, kk1, ss, rep, wσ, wst, wls, lh, fr, ag⟩ := hE
  have hts := cx.2.2.2.2.2.1
  have hv1 : vloc w o1 f1 r1 := vld.loc (show vld w o1 f1 r1 from wf_hd (wf_tl (wf_tl (wf_tl (wf_tl wst))))) ho1
  have hv2 : vloc w o2 f2 r2 := vld.loc (show vld w o2 f2 r2 from wf_hd (wf_tl (wf_tl wst))) ho2
  obtain ⟨ha1, hc1⟩ := rep.at hv1 hf1
  obtain ⟨ha2, hc2⟩ := rep.at hv2 hf2
  have hi : I32 n := wf_hd wst
  obtain ⟨m1, m2, m3⟩ := cp_clamp h0 hi
  have hnl1 : isL o1 f1 := (isL_of ha1).1 hk1
  have hnl2 : isL o2 f2 := (isL_of ha2).1 hk2
  have ev : ∀ (σ : Mem) (o f r : Nat), (akk (lay (cls o) (f - 1)) r).1 = 11 → elv ob σ o f r = fun j => .long (Int64.ofInt (σ o f r j)) := fun σ o f r z => by
    funext j; unfold elv; rw [if_pos z]
  rw [ev _ _ _ _ hk1, acd11 ha1 hk1] at hc1
  have hc2' := hc2
  rw [ev _ _ _ _ hk2, acd11 ha2 hk2] at hc2'
  have ww : wfσ (cpM σ o1 f1 r1 o2 f2 r2 n.toNat) := fun o f r c => by
    unfold cpM
    split
    · rename_i z
      obtain ⟨⟨rfl, rfl, rfl⟩, _⟩ := z
      exact ⟨fun _ => (wσ o1 f1 r1 c).1 hnl1, fun y => absurd hnl2 y⟩
    · exact wσ o f r c
  refine W_cpy (fun z : Int64 => .long z) cx.1 cx.2.1 (by rw [cx.2.2.2.1, lh.1]) cx.2.2.2.2.1 (hts _ hl) (hts _ js_spec.2.2.2.2.2.2.2.1) (hts _ js_spec.2.2.2.2.2.2.1) (hts _ js_spec.2.2.2.2.2.2.2.2) hc1 hc2' (ty_at kk1 1 rfl) (ty_at kk1 1 rfl) rfl m1 (by omega) (by omega) (by omega) (fun _ => rfl) (fun _ _ _ => trivial) (by show 1 ≤ k; omega) (by
    have := cp_words
    rw [csum_eq]; show csum st + _ ≤ 64 * k; omega) h (fun H1 locs1 e1 e2 e3 e4 => ?_)
  refine kk p e s m args below meth c H1 locs1 cells slots mc ms lsr ob0 ob ⟨cx, kk1, ss, rep.cpR hv2.1 (Nat.pos_of_ne_zero hf2) ha2 ?_ e3, ww, wf_tl (wf_tl (wf_tl (wf_tl (wf_tl wst)))), wls, lh, ?_, ag⟩ h1 h2
  · rw [e1, ev _ _ _ _ hk2, acd11 ha2 hk2, m3]
    congr 2
    funext j
    unfold va_cpy cpM
    by_cases z : j < n.toNat
    · rw [if_pos (by omega), if_pos ⟨⟨rfl, rfl, rfl⟩, z⟩]
      simp
    · rw [if_neg (by omega), if_neg (fun y => z y.2)]
  · obtain ⟨f1, f2, f3, f4⟩ := fr
    refine ⟨by rw [e2]; exact f1, f2, fun q hq => ?_, fun q hq => ?_⟩
    · have := rep.2.2.2 o2 _ r2 hv2
      rw [e3 q (fun e => by omega)]; exact f3 q hq
    · rcases e4 q hq with z | z
      · exact f4 q z
      · rw [z]; exact rep.2.2.2 o2 _ r2 hv2
/-- arraycopy where a method stands -/
theorem TT_cpy (hM : okM mi = true) {ix : Nat} {x : Int} {z : Nat} (hq : ins mi pc = some (pc, .invokestatic ix, 3, x, 1006, z)) : decode (bc mi) pc = .ok (.invokestatic ix, 3) ∧ Cond.methodLink (RN (own mi)) ix arraycopyName ∈ WT := by
  have h := (ins_ok hM hq).2
  unfold okI at h
  simp only [Bool.and_eq_true, decide_eq_true_eq] at h
  obtain ⟨h1, h2, h3⟩ := h
  rw [if_neg (by decide)] at h3
  exact ⟨h1, okJ_of h3⟩
end CPY

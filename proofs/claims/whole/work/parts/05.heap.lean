/-! 05.heap: TT, an instruction each: fields, arrays, returns -/
theorem up_ne {σ : Mem} {o f r c o' f' r' c' : Nat} {x : Int} (h : ¬ (o' = o ∧ f' = f ∧ r' = r ∧ c' = c)) : up σ o f r c x o' f' r' c' = σ o' f' r' c' := if_neg h
theorem up_eq {σ : Mem} {o f r c : Nat} {x : Int} : up σ o f r c x o f r c = x := if_pos ⟨rfl, rfl, rfl, rfl⟩
theorem gfv_up {σ : Mem} {o f r c o' k' : Nat} {x : Int} (hk : ¬ (o' = o ∧ k' + 1 = f) ∨ 10 ≤ (lay (cls o') k').1) : gfv (lay (cls o') k') o' k' (up σ o f r c x) = gfv (lay (cls o') k') o' k' σ := by
  rcases hk with hk | hk
  · have e : up σ o f r c x o' (k' + 1) 0 0 = σ o' (k' + 1) 0 0 := up_ne (fun h => hk ⟨h.1, h.2.1⟩)
    unfold gfv
    rw [e]
  · have h0 : ¬ (lay (cls o') k').1 = 0 := by omega
    have h1 : ¬ (lay (cls o') k').1 = 1 := by omega
    have h2 : ¬ (lay (cls o') k').1 = 2 := by omega
    have h3 : ¬ (lay (cls o') k').1 = 3 := by omega
    have h4 : ¬ (lay (cls o') k').1 = 4 := by omega
    simp only [gfv, h0, h1, h2, h3, h4, if_false]
theorem elv_up {ob : Nat → Nat} {σ : Mem} {o f r c o' f' r' : Nat} {x : Int} (h : ¬ (o' = o ∧ f' = f ∧ r' = r)) : elv ob (up σ o f r c x) o' f' r' = elv ob σ o' f' r' := by
  funext j
  have e : up σ o f r c x o' f' r' j = σ o' f' r' j := up_ne (fun q => h ⟨q.1, q.2.1, q.2.2.1⟩)
  unfold elv
  rw [e]
/-- a store into an array of ours -/
theorem Rep.arr {G : Gl} {w : Wd} {ob : Nat → Nat} {σ : Mem} {H H1 : Heap} {o f r c : Nat} {x : Int} (h : Rep G w ob σ H) (hb : born w o) (hf : 0 < f) (ha : arow (lay (cls o) (f - 1)) r)
    (hn : H1[adr ob o f r]? = some (arrV (G.2.1.2.2 (acd (lay (cls o) (f - 1)) r)) (akk (lay (cls o) (f - 1)) r).2 (elv ob (up σ o f r c x) o f r)))
    (oq : ∀ q, q ≠ adr ob o f r → H1[q]? = H[q]?) : Rep G w ob (up σ o f r c x) H1 := by
  obtain ⟨h1, h2, h3, h4⟩ := h
  have hv : vloc w o f r := ⟨hb, Or.inr ⟨hf, ha⟩⟩
  refine ⟨fun o' hb' => ?_, fun o' f' r' hb' hf' ha' => ?_, h3, h4⟩
  · have hne : ob o' ≠ adr ob o f r := fun e => by
      have := h3 o' 0 0 o f r ⟨hb', Or.inl ⟨rfl, rfl⟩⟩ hv (by unfold adr at e ⊢; simpa using e)
      omega
    refine ((h1 o' hb').kept (oq _ hne)).to (fun k hk => ?_)
    unfold fval
    rw [gfv_up]
    by_cases e : o' = o ∧ k + 1 = f
    · right
      obtain ⟨rfl, rfl⟩ := e
      exact ha.1
    · exact Or.inl e
  · by_cases e : o' = o ∧ f' = f ∧ r' = r
    · obtain ⟨rfl, rfl, rfl⟩ := e
      exact hn
    · have hne : adr ob o' f' r' ≠ adr ob o f r := fun z => e (h3 o' f' r' o f r ⟨hb', Or.inr ⟨hf', ha'⟩⟩ hv z)
      rw [oq _ hne, elv_up e]
      exact h2 o' f' r' hb' hf' ha'
/-- a store into a field of ours -/
theorem Rep.fld {G : Gl} {w : Wd} {ob : Nat → Nat} {σ : Mem} {H H1 : Heap} {o k : Nat} {x : Int} (h : Rep G w ob σ H) (hb : born w o) (hk4 : (lay (cls o) k).1 < 4)
    (hn : t_OB (ob o) (G.2.1.1 (cls o)) (NF (cls o)) (G.2.1.2.1 (cls o)) H1 (fval ob (up σ o (k + 1) 0 0 x) o))
    (oq : ∀ q, q ≠ ob o → H1[q]? = H[q]?) : Rep G w ob (up σ o (k + 1) 0 0 x) H1 := by
  obtain ⟨h1, h2, h3, h4⟩ := h
  have hv : vloc w o 0 0 := ⟨hb, Or.inl ⟨rfl, rfl⟩⟩
  refine ⟨fun o' hb' => ?_, fun o' f' r' hb' hf' ha' => ?_, h3, h4⟩
  · by_cases e : o' = o
    · subst e; exact hn
    · have hne : ob o' ≠ ob o := fun z => e (h3 o' 0 0 o 0 0 ⟨hb', Or.inl ⟨rfl, rfl⟩⟩ hv (by unfold adr; simpa using z)).1
      refine ((h1 o' hb').kept (oq _ hne)).to (fun k' hk' => ?_)
      unfold fval
      rw [gfv_up (Or.inl (fun z => e z.1))]
  · have hne : adr ob o' f' r' ≠ ob o := fun z => by
      have := h3 o' f' r' o 0 0 ⟨hb', Or.inr ⟨hf', ha'⟩⟩ hv (by rw [z]; unfold adr; simp)
      omega
    rw [oq _ hne, elv_up]
    · exact h2 o' f' r' hb' hf' ha'
    · rintro ⟨rfl, rfl, rfl⟩
      have := ha'.1
      simp only [Nat.add_sub_cancel] at this
      omega
theorem wfσ.up {σ : Mem} {o f r c : Nat} {x : Int} (h : wfσ σ) (hx : (isL o f → I64 x) ∧ (¬ isL o f → I32 x)) : wfσ (up σ o f r c x) := by
  intro o' f' r' c'
  by_cases e : o' = o ∧ f' = f ∧ r' = r ∧ c' = c
  · obtain ⟨rfl, rfl, rfl, rfl⟩ := e
    rw [up_eq]; exact hx
  · rw [up_ne e]; exact h o' f' r' c'
theorem Fr.put {G : Gl} {s : State} {H H1 : Heap} {locs : List Loc} {a k : Nat} (h : Fr G s H locs) (z : H1.size = H.size) (oq : ∀ q, q ≠ a → H1[q]? = H[q]?) (ha : G.2.2.1 ≤ a) : Fr G s H1 (locs ++ [⟨a, k⟩]) := by
  obtain ⟨f1, f2, f3, f4⟩ := h
  refine ⟨by rw [z]; exact f1, f2, fun q hq => ?_, fun q hq => ?_⟩
  · rw [oq q (fun e => by omega)]; exact f3 q hq
  · rcases List.mem_append.mp hq with h1 | h1
    · exact f4 q h1
    · rw [List.mem_singleton.mp h1]; exact ha
theorem vld.loc {w : Wd} {o f r : Nat} (h : vld w o f r) (ho : o < 22) : vloc w o f r := by
  rcases h with h | h
  · omega
  · exact h
section HEA
variable {G : Gl} {w0 w w2 : Wd} {k : Nat} {rc : Nat × Nat} {mi pc : Nat} {ls : List (Option AV)} {st : List AV} {σ : Mem} {Q : Option AV → Mem → Prop}
/-- a step that leaves the heap and the locals: with all that holds there -/
theorem TT_read {pc' : Nat} {v : AV} {st' : List AV}
    (hrow : ∀ (p : Program) (e : Env) (R : Room) (s : State) (m : MethodId) (args : Array Value) (below : List Frame) (meth : Method) (c : Code) (H : Heap) (locs : List Loc) (cells slots : Nat) (lsr : Array Slot) (ob0 ob : Nat → Nat) (Q' : State → Prop),
      Ev G w0 w mi p s m args meth c H locs lsr ob0 ob ls st σ → wfv w v ∧ (∀ x ∈ st', wfv w x) ∧ (W p G.1 e R s m args below meth c H locs cells slots Q' (F0 m pc' lsr ((v :: st').map (val ob))) → W p G.1 e R s m args below meth c H locs cells slots Q' (F0 m pc lsr (st.map (val ob)))))
    (kk : TT G w0 w w2 k rc mi pc' ls (v :: st') σ Q) : TT G w0 w w2 k rc mi pc ls st σ Q := by
  intro p e s m args below meth c H locs cells slots mc ms lsr ob0 ob hE h1 h2
  obtain ⟨r1, r2, r3⟩ := hrow p e _ s m args below meth c H locs cells slots lsr ob0 ob _ hE
  obtain ⟨cx, kk1, ss, rep, wσ, wst, wls, lh, fr, ag⟩ := hE
  exact r3 (kk p e s m args below meth c H locs cells slots mc ms lsr ob0 ob ⟨cx, kk1, ss, rep, wσ, wf_cons r1 r2, wls, lh, fr, ag⟩ h1 h2)
/-- what a field's link says -/
def okF (mi ix c k : Nat) : Prop := ∃ r : vw_C, vwCl[c]? = some r ∧ k < r.2.2 ∧ r.2.2 = NF c ∧ Cond.fieldLink (RN (own mi)) ix (r.2.1 k).1 (r.2.1 k).2.1 (r.2.1 k).2.2.1 ∈ WT ∧ (∀ x ∈ u_ws r.1 r.2.1 r.2.2, x ∈ WT)
theorem S_getfield {ix o c0 k0 : Nat} (h : decode (bc mi) pc = .ok (.getfield ix, 3)) (hF : okF mi ix c0 k0) (hc : cls o = c0) (ho : o < 22) (hw : born w o → wfσ σ → wfv w (gfv (lay c0 k0) o k0 σ))
    (kk : TT G w0 w w2 k rc mi (pc + 3) ls (gfv (lay c0 k0) o k0 σ :: st) σ Q) : TT G w0 w w2 k rc mi pc ls (vr o 0 0 :: st) σ Q := by
  refine TT_read (fun p e R s m args below meth c H locs cells slots lsr ob0 ob Q' hE => ?_) kk
  obtain ⟨cx, kk1, ss, rep, wσ, wst, wls, lh, fr, ag⟩ := hE
  have hv : vloc w o 0 0 := vld.loc (show vld w o 0 0 from wf_hd wst) ho
  refine ⟨hw hv.1 wσ, wf_tl wst, fun k1 => ?_⟩
  subst hc
  obtain ⟨r, hr, hk, hN, hlink, hin⟩ := hF
  obtain ⟨cell, q1, q2, q3, q4⟩ := rep.1 o hv.1
  obtain ⟨hS, hfc, kC, hkC, hkind⟩ := kk1.1 (cls o) r hr
  obtain ⟨cf, kf, fi, f, hi, hsl⟩ := hS k0 hk
  have hts := cx.2.2.2.2.2.1
  have e0 : adr ob o 0 0 = ob o := by unfold adr; simp
  show W _ _ _ _ _ _ _ _ _ _ _ _ _ _ _ (F0 m pc lsr (Value.ref (adr ob o 0 0) :: st.map (val ob)))
  rw [e0]
  refine W.getf cx.1 cx.2.1 cx.2.2.2.2.1 (hts _ hlink) hi (u_facts hfc hkC (u_lays hts hin hk) hi).1 q1 (by rw [q3]; exact fun z => by cases z) (v := fval ob σ o k0) ?_ rfl rfl h k1
  rw [hsl]
  exact q4 k0 (by omega)
/-- a step that writes -/
theorem TT_write {pc' : Nat} {st' : List AV} {σ' : Mem}
    (hst : (∀ v ∈ st, wfv w v) → ∀ v ∈ st', wfv w v)
    (hrow : ∀ (p : Program) (e : Env) (R : Room) (s : State) (m : MethodId) (args : Array Value) (below : List Frame) (meth : Method) (c : Code) (H : Heap) (locs : List Loc) (cells slots : Nat) (lsr : Array Slot) (ob0 ob : Nat → Nat) (Q' : State → Prop),
      Ev G w0 w mi p s m args meth c H locs lsr ob0 ob ls st σ → wfσ σ' ∧ ((∀ (H1 : Heap) (locs1 : List Loc), Rep G w ob σ' H1 → Fr G s H1 locs1 → W p G.1 e R s m args below meth c H1 locs1 cells slots Q' (F0 m pc' lsr (st'.map (val ob)))) → W p G.1 e R s m args below meth c H locs cells slots Q' (F0 m pc lsr (st.map (val ob)))))
    (kk : TT G w0 w w2 k rc mi pc' ls st' σ' Q) : TT G w0 w w2 k rc mi pc ls st σ Q := by
  intro p e s m args below meth c H locs cells slots mc ms lsr ob0 ob hE h1 h2
  obtain ⟨r1, r3⟩ := hrow p e _ s m args below meth c H locs cells slots lsr ob0 ob _ hE
  obtain ⟨cx, kk1, ss, rep, wσ, wst, wls, lh, fr, ag⟩ := hE
  exact r3 (fun H1 locs1 rep1 fr1 => kk p e s m args below meth c H1 locs1 cells slots mc ms lsr ob0 ob ⟨cx, kk1, ss, rep1, r1, hst wst, wls, lh, fr1, ag⟩ h1 h2)
/-- a field that may be written: not final, of type ty -/
def okP (mi ix c k : Nat) (ty : FieldType) : Prop := okF mi ix c k ∧ ∃ r : vw_C, vwCl[c]? = some r ∧ (r.2.1 k).2.2.2 = false ∧ parseFieldDescriptor (r.2.1 k).2.2.1 = some ty ∧ (∀ a, a < r.2.2 → ∀ b, b < r.2.2 → a ≠ b → (r.2.1 a).2.1 ≠ (r.2.1 b).2.1) ∧ ∃ t : Nat → FieldType, ∀ a, a < r.2.2 → parseFieldDescriptor (r.2.1 a).2.2.1 = some (t a)
theorem S_putfield {ix o c0 k0 : Nat} {v : AV} {x : Int} {ty : FieldType} (h : decode (bc mi) pc = .ok (.putfield ix, 3)) (hP : okP mi ix c0 k0 ty) (hc : cls o = c0) (ho : o < 22) (hk4 : (lay c0 k0).1 < 4)
    (hv : ∀ ob, val ob (gfv (lay c0 k0) o k0 (up σ o (k0 + 1) 0 0 x)) = val ob v) (hfit : ∀ ob, wfv w v → narrow ty (val ob v) = val ob v ∧ fits ty (val ob v) = true) (hx : wfv w v → (isL o (k0 + 1) → I64 x) ∧ (¬ isL o (k0 + 1) → I32 x))
    (kk : TT G w0 w w2 k rc mi (pc + 3) ls st (up σ o (k0 + 1) 0 0 x) Q) : TT G w0 w w2 k rc mi pc ls (v :: vr o 0 0 :: st) σ Q := by
  refine TT_write (fun h1 => wf_tl (wf_tl h1)) (fun p e R s m args below meth c H locs cells slots lsr ob0 ob Q' hE => ?_) kk
  obtain ⟨cx, kk1, ss, rep, wσ, wst, wls, lh, fr, ag⟩ := hE
  have hv0 : wfv w v := wf_hd wst
  have hvl : vloc w o 0 0 := vld.loc (show vld w o 0 0 from wf_hd (wf_tl wst)) ho
  refine ⟨wσ.up (hx hv0), fun k1 => ?_⟩
  subst hc
  obtain ⟨⟨r, hr, hk, hN, hlink, hin⟩, r', hr', hfin, hd, hnm, t, hty⟩ := hP
  obtain rfl : r' = r := Option.some.inj (hr'.symm.trans hr)
  obtain ⟨cell, q1, q2, q3, q4⟩ := rep.1 o hvl.1
  have hts := cx.2.2.2.2.2.1
  have hap := va_apart (own := RN (own mi)) hts hin t hty hnm kk1 hr
  obtain ⟨hS, hfc, kC, hkC, hkind⟩ := kk1.1 (cls o) r' hr
  obtain ⟨cf, kf, fi, f, hi, hsl⟩ := hS k0 hk
  have hlay := hts _ (hin _ (u_in_lay hk))
  unfold u_lay at hlay
  rw [if_neg (by rw [hfin]; decide)] at hlay
  have hst := (u_facts hfc hkC (u_lays hts hin hk) hi).1
  obtain ⟨hn, hft⟩ := hfit ob hv0
  have h6 := u_store hfc hkC hkind hlay hi hd hn hft
  have e0 : adr ob o 0 0 = ob o := by unfold adr; simp
  show W _ _ _ _ _ _ _ _ _ _ _ _ _ _ _ (F0 m pc lsr (val ob v :: Value.ref (adr ob o 0 0) :: st.map (val ob)))
  rw [e0]
  have hlo : G.2.2.1 ≤ ob o := by have := rep.2.2.2 o 0 0 hvl; rwa [e0] at this
  refine W.putK cx.2.1 (hexec := cx.1) (f := f) ⟨cx.2.2.2.2.1, hts _ hlink, ⟨_, _, _, hi⟩, hst⟩ (by rw [q2]; exact h6) q1 q3 (by rw [hsl]; exact k2_hasslot (q4 k0 (by omega))) rfl rfl h fun H' e1 e2 e3 => ?_
  rw [hsl] at e1
  refine k1 H' _ (rep.fld hvl.1 hk4 ?_ e3) (fr.put e2 e3 hlo)
  refine t_OB.to (V := updV (fval ob σ o) k0 (val ob v)) ⟨_, e1, q2, q3, t_set (fun j hj => q4 j hj) (fun a b ha hb => hap a b (by omega) (by omega)) (by omega) (val ob v)⟩ (fun j _ => ?_)
  unfold updV
  by_cases ej : j = k0
  · subst ej
    rw [if_pos rfl]
    exact (hv ob).symm
  · rw [if_neg ej]
    unfold fval
    rw [gfv_up (Or.inl (fun z => ej (by omega)))]
theorem acd10 {q : Nat × Nat × Nat × Nat} {r : Nat} (ha : arow q r) (h : (akk q r).1 = 10) : acd q r = 0 := by
  obtain ⟨a1, a2, a3, a4⟩ := ha
  unfold akk at h
  unfold acd
  by_cases h20 : q.1 < 20
  · rw [if_pos h20] at h
    have h : q.1 = 10 := h
    rw [if_pos (by omega)]
    omega
  · rw [if_neg h20] at h
    by_cases hr : r = 0
    · rw [if_pos hr] at h
      have h : 15 = 10 := h
      omega
    · rw [if_neg hr] at h
      have h : q.1 - 10 = 10 := h
      rw [if_neg (by omega), if_neg (by omega), if_neg hr]
      omega
theorem acd11 {q : Nat × Nat × Nat × Nat} {r : Nat} (ha : arow q r) (h : (akk q r).1 = 11) : acd q r = 1 := by
  obtain ⟨a1, a2, a3, a4⟩ := ha
  unfold akk at h
  unfold acd
  by_cases h20 : q.1 < 20
  · rw [if_pos h20] at h
    have h : q.1 = 11 := h
    rw [if_pos (by omega)]
    omega
  · rw [if_neg h20] at h
    by_cases hr : r = 0
    · rw [if_pos hr] at h
      have h : 15 = 11 := h
      omega
    · rw [if_neg hr] at h
      have h : q.1 - 10 = 11 := h
      rw [if_neg (by omega), if_neg (by omega), if_neg hr]
      omega
theorem acd12 {q : Nat × Nat × Nat × Nat} {r : Nat} (ha : arow q r) (h : (akk q r).1 = 12) : acd q r = 2 := by
  obtain ⟨a1, a2, a3, a4⟩ := ha
  unfold akk at h
  unfold acd
  by_cases h20 : q.1 < 20
  · rw [if_pos h20] at h
    have h : q.1 = 12 := h
    rw [if_pos (by omega)]
    omega
  · rw [if_neg h20] at h
    by_cases hr : r = 0
    · rw [if_pos hr] at h
      have h : 15 = 12 := h
      omega
    · rw [if_neg hr] at h
      have h : q.1 - 10 = 12 := h
      rw [if_neg (by omega), if_neg (by omega), if_neg hr]
      omega
theorem acd13 {q : Nat × Nat × Nat × Nat} {r : Nat} (ha : arow q r) (h : (akk q r).1 = 13) : acd q r = 3 := by
  obtain ⟨a1, a2, a3, a4⟩ := ha
  unfold akk at h
  unfold acd
  by_cases h20 : q.1 < 20
  · rw [if_pos h20] at h
    have h : q.1 = 13 := h
    rw [if_pos (by omega)]
    omega
  · rw [if_neg h20] at h
    by_cases hr : r = 0
    · rw [if_pos hr] at h
      have h : 15 = 13 := h
      omega
    · rw [if_neg hr] at h
      have h : q.1 - 10 = 13 := h
      rw [if_neg (by omega), if_neg (by omega), if_neg hr]
      omega
theorem acd15 {q : Nat × Nat × Nat × Nat} {r : Nat} (ha : arow q r) (h : (akk q r).1 = 15) : acd q r = 4 ∨ acd q r = 5 ∨ q.1 = 15 := by
  obtain ⟨a1, a2, a3, a4⟩ := ha
  unfold akk at h
  unfold acd
  by_cases h20 : q.1 < 20
  · rw [if_pos h20] at h
    exact Or.inr (Or.inr h)
  · rw [if_neg h20] at h
    by_cases hr : r = 0
    · rw [if_neg (by omega), if_neg (by omega), if_pos hr]
      omega
    · rw [if_neg hr] at h
      have h : q.1 - 10 = 15 := h
      omega
theorem isL_of {q : Nat × Nat × Nat × Nat} {r : Nat} (ha : arow q r) : ((akk q r).1 = 11 → q.1 = 1 ∨ q.1 = 11 ∨ q.1 = 21) ∧ ((akk q r).1 ≠ 11 → (akk q r).1 ≠ 15 → ¬ (q.1 = 1 ∨ q.1 = 11 ∨ q.1 = 21)) := by
  obtain ⟨a1, a2, a3, a4⟩ := ha
  unfold akk
  by_cases h20 : q.1 < 20
  · rw [if_pos h20]
    show (q.1 = 11 → _) ∧ (q.1 ≠ 11 → q.1 ≠ 15 → _)
    omega
  · rw [if_neg h20]
    by_cases hr : r = 0
    · rw [if_pos hr]
      show (15 = 11 → _) ∧ (15 ≠ 11 → 15 ≠ 15 → _)
      omega
    · rw [if_neg hr]
      show (q.1 - 10 = 11 → _) ∧ (q.1 - 10 ≠ 11 → q.1 - 10 ≠ 15 → _)
      omega
theorem clampI {i : Int} (h0 : 0 ≤ i) (hi : I32 i) : (Int32.ofInt i).toNatClampNeg = i.toNat := by
  show (Int32.ofInt i).toInt.toNat = _
  rw [t32 hi]
theorem inI {i : Int} {n : Nat} (h0 : 0 ≤ i) (h1 : i < n) (hi : I32 i) : ¬ (Int32.ofInt i < 0 ∨ n ≤ (Int32.ofInt i).toNatClampNeg) := by
  rw [clampI h0 hi]
  rintro (z | z)
  · have := (i32_lt hi I32_0).mp z
    omega
  · omega
theorem ty_at {G : Gl} {s : State} (hK : KK G s) (t : Nat) {x : ClassId × FieldType} (h : (TYS G)[t]? = some x) : ArrOfT s x.1 x.2 := (hK.2 t x h).1
/-- an array of ours, as the heap has it -/
theorem Rep.at {H : Heap} {ob : Nat → Nat} (h : Rep G w ob σ H) {o f r : Nat} (hv : vloc w o f r) (hf : f ≠ 0) : arow (lay (cls o) (f - 1)) r ∧ H[adr ob o f r]? = some (arrV (G.2.1.2.2 (acd (lay (cls o) (f - 1)) r)) (akk (lay (cls o) (f - 1)) r).2 (elv ob σ o f r)) := by
  obtain ⟨hb, h1⟩ := hv
  rcases h1 with h1 | ⟨h1, h2⟩
  · omega
  · exact ⟨h2, h.2.1 o f r hb h1 h2⟩
theorem S_iaload {o f r : Nat} {i : Int} (h : decode (bc mi) pc = .ok (.iaload, 1)) (ho : o < 22) (hf : f ≠ 0) (hk : (akk (lay (cls o) (f - 1)) r).1 = 10) (h0 : 0 ≤ i) (h1 : i < (akk (lay (cls o) (f - 1)) r).2)
    (kk : TT G w0 w w2 k rc mi (pc + 1) ls (vi (σ o f r i.toNat) :: st) σ Q) : TT G w0 w w2 k rc mi pc ls (vi i :: vr o f r :: st) σ Q := by
  refine TT_read (fun p e R s m args below meth c H locs cells slots lsr ob0 ob Q' hE => ?_) kk
  obtain ⟨cx, kk1, ss, rep, wσ, wst, wls, lh, fr, ag⟩ := hE
  have hv : vloc w o f r := vld.loc (show vld w o f r from wf_hd (wf_tl wst)) ho
  obtain ⟨ha, hcell⟩ := rep.at hv hf
  have hi : I32 i := wf_hd wst
  have hnl : ¬ isL o f := (isL_of ha).2 (by omega) (by omega)
  refine ⟨(wσ o f r i.toNat).2 hnl, wf_tl (wf_tl wst), fun k1 => ?_⟩
  refine W.iald cx.1 cx.2.1 hcell (by rw [acd10 ha hk]; exact ty_at kk1 0 rfl _ _) (fun z => by cases z) (by rw [arrV_size]; exact inI h0 h1 hi) (v := .int (Int32.ofInt (σ o f r i.toNat))) ?_ rfl rfl h k1
  rw [clampI h0 hi, arrV_read _ _ (by omega)]
  unfold elv
  rw [if_neg (by omega), if_neg (by omega), if_neg (by omega)]
theorem S_laload {o f r : Nat} {i : Int} (h : decode (bc mi) pc = .ok (.laload, 1)) (ho : o < 22) (hf : f ≠ 0) (hk : (akk (lay (cls o) (f - 1)) r).1 = 11) (h0 : 0 ≤ i) (h1 : i < (akk (lay (cls o) (f - 1)) r).2)
    (kk : TT G w0 w w2 k rc mi (pc + 1) ls (vl (σ o f r i.toNat) :: st) σ Q) : TT G w0 w w2 k rc mi pc ls (vi i :: vr o f r :: st) σ Q := by
  refine TT_read (fun p e R s m args below meth c H locs cells slots lsr ob0 ob Q' hE => ?_) kk
  obtain ⟨cx, kk1, ss, rep, wσ, wst, wls, lh, fr, ag⟩ := hE
  have hv : vloc w o f r := vld.loc (show vld w o f r from wf_hd (wf_tl wst)) ho
  obtain ⟨ha, hcell⟩ := rep.at hv hf
  have hi : I32 i := wf_hd wst
  refine ⟨(wσ o f r i.toNat).1 ((isL_of ha).1 hk), wf_tl (wf_tl wst), fun k1 => ?_⟩
  refine W.lald cx.1 cx.2.1 hcell (by rw [acd11 ha hk]; exact ty_at kk1 1 rfl _ _) (fun z => by cases z) (by rw [arrV_size]; exact inI h0 h1 hi) (v := .long (Int64.ofInt (σ o f r i.toNat))) ?_ rfl rfl h k1
  rw [clampI h0 hi, arrV_read _ _ (by omega)]
  unfold elv
  rw [if_pos (by omega)]
theorem S_baload {o f r : Nat} {i : Int} (h : decode (bc mi) pc = .ok (.baload, 1)) (ho : o < 22) (hf : f ≠ 0) (hk : (akk (lay (cls o) (f - 1)) r).1 = 12 ∨ (akk (lay (cls o) (f - 1)) r).1 = 13) (h0 : 0 ≤ i) (h1 : i < (akk (lay (cls o) (f - 1)) r).2)
    (kk : TT G w0 w w2 k rc mi (pc + 1) ls (vi (σ o f r i.toNat) :: st) σ Q) : TT G w0 w w2 k rc mi pc ls (vi i :: vr o f r :: st) σ Q := by
  refine TT_read (fun p e R s m args below meth c H locs cells slots lsr ob0 ob Q' hE => ?_) kk
  obtain ⟨cx, kk1, ss, rep, wσ, wst, wls, lh, fr, ag⟩ := hE
  have hv : vloc w o f r := vld.loc (show vld w o f r from wf_hd (wf_tl wst)) ho
  obtain ⟨ha, hcell⟩ := rep.at hv hf
  have hi : I32 i := wf_hd wst
  have hnl : ¬ isL o f := (isL_of ha).2 (by omega) (by omega)
  refine ⟨(wσ o f r i.toNat).2 hnl, wf_tl (wf_tl wst), fun k1 => ?_⟩
  have hrd : (arrV (G.2.1.2.2 (acd (lay (cls o) (f - 1)) r)) (akk (lay (cls o) (f - 1)) r).2 (elv ob σ o f r)).slots[(Int32.ofInt i).toNatClampNeg]? = some (.int (Int32.ofInt (σ o f r i.toNat))) := by
    rw [clampI h0 hi, arrV_read _ _ (by omega)]
    unfold elv
    rw [if_neg (by omega), if_neg (by omega), if_neg (by omega)]
  rcases hk with hk | hk
  · exact W.zald cx.1 cx.2.1 hcell (by rw [acd12 ha hk]; exact ty_at kk1 2 rfl _ _) (fun z => by cases z) (by rw [arrV_size]; exact inI h0 h1 hi) hrd rfl rfl h k1
  · exact W.bald cx.1 cx.2.1 hcell (by rw [acd13 ha hk]; exact ty_at kk1 3 rfl _ _) (fun z => by cases z) (by rw [arrV_size]; exact inI h0 h1 hi) hrd rfl rfl h k1
theorem S_script {i : Int} (h : decode (bc mi) pc = .ok (.iaload, 1)) (h0 : 0 ≤ i) (h1 : i < G.2.2.2.1.1) (kk : TT G w0 w w2 k rc mi (pc + 1) ls (vi (G.2.2.2.1.2 i.toNat) :: st) σ Q) : TT G w0 w w2 k rc mi pc ls (vi i :: vr 999 999 0 :: st) σ Q := by
  refine TT_read (fun p e R s m args below meth c H locs cells slots lsr ob0 ob Q' hE => ?_) kk
  obtain ⟨cx, kk1, ss, rep, wσ, wst, wls, lh, fr, ag⟩ := hE
  obtain ⟨s1, ⟨scr, x1, x2, x3, x4, x5⟩, s3, s4, s5⟩ := ss
  have hi : I32 i := wf_hd wst
  refine ⟨s3 _, wf_tl (wf_tl wst), fun k1 => ?_⟩
  have e0 : adr ob 999 999 0 = ob 999 := by unfold adr; simp
  show W _ _ _ _ _ _ _ _ _ _ _ _ _ _ _ (F0 m pc lsr (Value.int (Int32.ofInt i) :: Value.ref (adr ob 999 999 0) :: st.map (val ob)))
  rw [e0]
  exact W.iald cx.1 cx.2.1 (by rw [fr.2.2.1 _ s1]; exact x1) x2 x3 (by rw [x4]; exact inI h0 h1 hi) (v := .int (Int32.ofInt (G.2.2.2.1.2 i.toNat))) (by rw [clampI h0 hi]; exact x5 _ (by omega)) rfl rfl h k1
theorem S_scriptlen (h : decode (bc mi) pc = .ok (.arraylength, 1)) (kk : TT G w0 w w2 k rc mi (pc + 1) ls (vi (G.2.2.2.1.1 : Nat) :: st) σ Q) : TT G w0 w w2 k rc mi pc ls (vr 999 999 0 :: st) σ Q := by
  refine TT_read (fun p e R s m args below meth c H locs cells slots lsr ob0 ob Q' hE => ?_) kk
  obtain ⟨cx, kk1, ss, rep, wσ, wst, wls, lh, fr, ag⟩ := hE
  obtain ⟨s1, ⟨scr, x1, x2, x3, x4, x5⟩, s3, s4, s5⟩ := ss
  refine ⟨by show I32 _; unfold I32; omega, wf_tl wst, fun k1 => ?_⟩
  have e0 : adr ob 999 999 0 = ob 999 := by unfold adr; simp
  show W _ _ _ _ _ _ _ _ _ _ _ _ _ _ _ (F0 m pc lsr (Value.ref (adr ob 999 999 0) :: st.map (val ob)))
  rw [e0]
  exact W.alen cx.1 cx.2.1 (by rw [fr.2.2.1 _ s1]; exact x1) x2 (n := Int32.ofInt (G.2.2.2.1.1 : Nat)) (by rw [x4]; exact (oi_n _).symm) rfl rfl h k1
theorem S_alen {o f r : Nat} (h : decode (bc mi) pc = .ok (.arraylength, 1)) (ho : o < 22) (hf : f ≠ 0) (hq : (lay (cls o) (f - 1)).1 ≠ 14 ∧ (lay (cls o) (f - 1)).1 < 14 ∨ 20 ≤ (lay (cls o) (f - 1)).1) (hL : (akk (lay (cls o) (f - 1)) r).2 < 2000000000)
    (kk : TT G w0 w w2 k rc mi (pc + 1) ls (vi ((akk (lay (cls o) (f - 1)) r).2 : Nat) :: st) σ Q) : TT G w0 w w2 k rc mi pc ls (vr o f r :: st) σ Q := by
  refine TT_read (fun p e R s m args below meth c H locs cells slots lsr ob0 ob Q' hE => ?_) kk
  obtain ⟨cx, kk1, ss, rep, wσ, wst, wls, lh, fr, ag⟩ := hE
  have hv : vloc w o f r := vld.loc (show vld w o f r from wf_hd wst) ho
  obtain ⟨ha, hcell⟩ := rep.at hv hf
  refine ⟨by show I32 _; unfold I32; omega, wf_tl wst, fun k1 => ?_⟩
  have hty : ∃ ty, ArrOfT s (G.2.1.2.2 (acd (lay (cls o) (f - 1)) r)) ty := by
    obtain ⟨a1, a2, a3, a4⟩ := ha
    have hac : acd (lay (cls o) (f - 1)) r < 6 := by
      unfold acd
      split
      · omega
      · split
        · omega
        · split <;> omega
    generalize acd (lay (cls o) (f - 1)) r = t at hac
    rcases (by omega : t = 0 ∨ t = 1 ∨ t = 2 ∨ t = 3 ∨ t = 4 ∨ t = 5) with rfl | rfl | rfl | rfl | rfl | rfl
    · exact ⟨_, ty_at kk1 0 rfl⟩
    · exact ⟨_, ty_at kk1 1 rfl⟩
    · exact ⟨_, ty_at kk1 2 rfl⟩
    · exact ⟨_, ty_at kk1 3 rfl⟩
    · exact ⟨_, ty_at kk1 4 rfl⟩
    · exact ⟨_, ty_at kk1 5 rfl⟩
  obtain ⟨ty, hty⟩ := hty
  exact W.alen cx.1 cx.2.1 hcell (hty _ _) (n := Int32.ofInt ((akk (lay (cls o) (f - 1)) r).2 : Nat)) (by rw [arrV_size]; exact (oi_n _).symm) rfl rfl h k1
end HEA

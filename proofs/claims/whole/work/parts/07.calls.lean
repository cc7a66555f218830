/-! 07.calls: calls of our own methods, and of the JDK's numbers; a contract out of its body -/
theorem val_ag {w : Wd} {ob ob' : Nat → Nat} (h : ∀ o, born w o ∨ 999 ≤ o → ob' o = ob o) {v : AV} (hv : wfv w v) : val ob' v = val ob v := by
  rcases v with x | x | _ | ⟨o, f, r⟩
  · rfl
  · rfl
  · rfl
  · have e : ob' o = ob o := by
      rcases (hv : vld w o f r) with z | z
      · exact h o (Or.inr z.1)
      · exact h o (Or.inl z.1)
    show Value.ref (adr ob' o f r) = Value.ref (adr ob o f r)
    unfold adr
    rw [e]
theorem map_ag {w : Wd} {ob ob' : Nat → Nat} (h : ∀ o, born w o ∨ 999 ≤ o → ob' o = ob o) {l : List AV} (hl : ∀ v ∈ l, wfv w v) : l.map (val ob') = l.map (val ob) := List.map_congr_left (fun v hv => val_ag h (hl v hv))
theorem EX.word {a : Nat} {U : State} {as : Array Value} (h : EX a U U.heap) (h0 : as[0]? = some (.ref a)) : (Cond.exactly (.arg 0) "java/lang/String").before as U = true := by
  obtain ⟨cell, k, h1, h2, h3, h4, h5⟩ := h
  have hv : (Term.arg 0).eval as U none [] U = some (.ref a) := h0
  simp only [Cond.before, Cond.holds, Cond.value, hv]
  simp [h1, h2, h3, h4]
  cases hk : k.kind <;> simp
  exact h5 hk
theorem EX.moved {a : Nat} {s U : State} (h : EX a s s.heap) (hW : s.WarmedH U.vm) (hq : U.heap[a]? = s.heap[a]?) : EX a U U.heap := by
  have h1 := h.word (as := #[.ref a]) rfl
  have h2 := Cond.before_warmed hW _ (by show Cond.keeps _ = true; decide) h1
  obtain ⟨a', c, cell, k, g1, g2, g3, g4, g5, g6, g7⟩ := Cond.exactly_spec h2
  have ea : a' = a := by
    have : (Term.arg 0).eval #[.ref a] (s.setVm U.vm) none [] (s.setVm U.vm) = some (.ref a) := rfl
    rw [this] at g1
    cases g1; rfl
  subst ea
  exact ⟨cell, k, hq.trans g3, g5, by rw [g6]; exact g2, by rw [g6]; exact g4, g7⟩
theorem FA.word {n d : String} {v : Value} {a : Nat} {U : State} {as : Array Value} (h : FA n d v a U U.heap) (h0 : as[0]? = some (.ref a)) : (Term.field (.arg 0) "java/lang/String" n d).eval as U none [] U = some v := by
  obtain ⟨cf, k, i, f, cell, h1, h2, h3, h4, h5, h6, h7⟩ := h
  have hv : (Term.arg 0).eval as U none [] U = some (.ref a) := h0
  exact Term.field_eval h1 hv h2 h3 h4 h5 h6 h7
theorem FA.moved {n d : String} {v : Value} {a : Nat} {s U : State} (h : FA n d v a s s.heap) (hW : s.WarmedH U.vm) (hv : (∃ z, v = .int z) ∨ ∃ t, v = .ref t) (hq : U.heap[a]? = s.heap[a]?) : FA n d v a U U.heap := by
  have h1 := h.word (as := #[.ref a, v]) rfl
  have h2 : (Term.arg 1).eval #[.ref a, v] s none [] s = some v := rfl
  have h3 : (Cond.eq (.field (.arg 0) "java/lang/String" n d) (.arg 1)).before #[.ref a, v] s = true := by
    simp only [Cond.before, Cond.holds, Cond.value, h1, h2]
    rcases hv with ⟨z, rfl⟩ | ⟨t, rfl⟩ <;> simp
  have h4 := Cond.before_warmed hW _ (by show Cond.keeps _ = true; rfl) h3
  have h5 : (Term.field (.arg 0) "java/lang/String" n d).eval #[.ref a, v] (s.setVm U.vm) none [] (s.setVm U.vm) = some v := by
    have e2 : (Term.arg 1).eval #[.ref a, v] (s.setVm U.vm) none [] (s.setVm U.vm) = some v := rfl
    simp only [Cond.before, Cond.holds, Cond.value, e2] at h4
    cases e : (Term.field (.arg 0) "java/lang/String" n d).eval #[.ref a, v] (s.setVm U.vm) none [] (s.setVm U.vm) with
    | none => rw [e] at h4; simp at h4
    | some u =>
      rw [e] at h4
      rcases hv with ⟨z, rfl⟩ | ⟨t, rfl⟩ <;> cases u <;> simp at h4 <;> rw [h4]
  have e0 : (Term.arg 0).eval #[.ref a, v] (s.setVm U.vm) none [] (s.setVm U.vm) = some (.ref a) := rfl
  cases hf : (s.setVm U.vm).fieldFound? "java/lang/String" n d with
  | none => simp [Term.eval, State.fieldOf?, State.fieldNamed?, hf] at h5
  | some x =>
    obtain ⟨cf, k, i, f⟩ := x
    obtain ⟨g1, cell, g2, g3, g4, g5, g6⟩ := Term.field_spec hf e0 h5
    exact ⟨cf, k, i, f, cell, hf, g1, hq.trans g2, g3, g4, g5, g6⟩
theorem KX.to {G : Gl} {s U : State} (h : KX G s) (hW : s.WarmedH U.vm) : KX G U := by
  obtain ⟨⟨⟨k1, a1, a2⟩, ⟨k2, b1, b2⟩⟩, h2, h3, h4⟩ := h
  have hv := hW.alike
  obtain ⟨k1', c1, c2⟩ := hv.2.2 _ _ a1
  obtain ⟨k2', d1, d2⟩ := hv.2.2 _ _ b1
  exact ⟨⟨⟨k1', c1, by rw [c2]; exact a2⟩, ⟨k2', d1, by rw [d2]; exact b2⟩⟩, fun q hq => (h2 q hq).warmM hW, h3.moved hv, h4.moved hv⟩
theorem KX.calling {G : Gl} {U : State} (h : KX G U) (g : JFrame) (mk : MethodId) (a : Array Value) : KX G (U.calling g mk a) :=
  ⟨⟨h.1.1, h.1.2⟩, fun q hq => va_Nw.same (u := U) (U := U.calling g mk a) rfl rfl (h.2.1 q hq), va_AO.moved (u := U) (U := U.calling g mk a) (Vm.Alike.refl U.vm) h.2.2.1, va_AO.moved (u := U) (U := U.calling g mk a) (Vm.Alike.refl U.vm) h.2.2.2⟩
theorem SS.ag {G : Gl} {ob ob' : Nat → Nat} {s : State} {H : Heap} (hs : SS G ob s H) (h : ∀ o, 999 ≤ o → ob' o = ob o) : SS G ob' s H := by
  have e : (fun i => ob' (1000 + i)) = (fun i => ob (1000 + i)) := funext (fun i => h _ (by omega))
  have e2 : ∀ i, ob' (1000 + i) = ob (1000 + i) := fun i => h _ (by omega)
  unfold SS at hs ⊢
  rw [h 999 (by omega), e]
  refine ⟨hs.1, hs.2.1, hs.2.2.1, hs.2.2.2.1, hs.2.2.2.2.1, fun i hi => ?_, hs.2.2.2.2.2.2.1, hs.2.2.2.2.2.2.2.1, fun i hi => ?_, hs.2.2.2.2.2.2.2.2.2⟩
  · rw [e2 i]
    exact hs.2.2.2.2.2.1 i hi
  · rw [e2 i]
    exact hs.2.2.2.2.2.2.2.2.1 i hi
theorem SS.to {G : Gl} {ob : Nat → Nat} {s U : State} (hs : SS G ob s s.heap) (hW : s.WarmedH U.vm) (hq : ∀ q : Nat, q < G.2.2.1 → U.heap[q]? = s.heap[q]?) : SS G ob U U.heap := by
  obtain ⟨h1, h2, h3, h4, h5, h6, h7, ⟨t, tz, h8⟩, h9, hx⟩ := hs
  exact ⟨h1, (va_X.moved hW.alike h2).kept (hq _ h1), h3, h4, (vk_S.moved hW.alike h5).kept (fun a _ ha => hq a (Nat.lt_of_not_le ha)), fun i hi => (h6 i hi).warm hW, (va_Z.moved hW.alike h7).kept (fun a _ ha => hq a (Nat.lt_of_not_le ha)), ⟨t, tz, (va_Z.moved hW.alike h8).kept (fun a _ ha => hq a (Nat.lt_of_not_le ha))⟩, fun i hi => ⟨(h9 i hi).1, (h9 i hi).2.1.moved hW (hq _ (h9 i hi).1), (h9 i hi).2.2.1.moved hW (Or.inl ⟨0, rfl⟩) (hq _ (h9 i hi).1), (h9 i hi).2.2.2.moved hW (Or.inr ⟨_, rfl⟩) (hq _ (h9 i hi).1)⟩, hx.to hW⟩
theorem PP.blind {G : Gl} {w : Wd} {ob : Nat → Nat} {as : List AV} {σ : Mem} : FrameBlind (PP G w ob as σ) := by
  intro a U g mk h
  obtain ⟨h1, h2, h3, h4, h5, h6⟩ := h
  obtain ⟨s1, s2, s3, s4, s5, s6, s7, ⟨t, tz, s8⟩, s9⟩ := h4
  exact ⟨h1, h2, va_K.moved (u := U) (U := U.calling g mk a) (Vm.Alike.refl U.vm) h3, ⟨s1, va_X.moved (u := U) (U := U.calling g mk a) (Vm.Alike.refl U.vm) s2, s3, s4, vk_S.moved (u := U) (U := U.calling g mk a) (Vm.Alike.refl U.vm) s5, fun i hi => vk_R.same (u := U) (U := U.calling g mk a) rfl (s6 i hi), va_Z.moved (u := U) (U := U.calling g mk a) (Vm.Alike.refl U.vm) s7, ⟨t, tz, va_Z.moved (u := U) (U := U.calling g mk a) (Vm.Alike.refl U.vm) s8⟩, s9.1, s9.2.calling g mk a⟩, h5, h6⟩
def okY (y : Nat) : Prop := Cond.code (yn y) (bc y) (nL y) (rt y) ∈ WT ∧ nL y ≤ 45 ∧ (yn y).cls = RN (own y) ∧ (yn y).cls ≠ "java/lang/invoke/MethodHandle" ∧ (yn y).cls ≠ "java/lang/invoke/VarHandle" ∧ (parseMethodDescriptor (yn y).desc).map (fun d => d.parameters.length) = some (nA y) ∧ Cond.initialized (RN (own y)) ∈ WT ∧ plainName (yn y).cls = true
def okV (y : Nat) : Prop := Cond.instanceMethod (yn y) ∈ WT ∧ Cond.selects (RN (own y)) (yn y) (yn y) ∈ WT ∧ ∃ r : vw_C, vwCl[own y]? = some r ∧ r.1 = RN (own y)
theorem GoodIn_WT {l : List Cond} (h : ∀ x ∈ l, x ∈ WT) : GoodIn WT l := fun x hx => ⟨h x hx, good_of_word (List.all_eq_true.mp WT_good x (h x hx))⟩
theorem wsm_in {y : Nat} (h : okY y) : ∀ x ∈ wsm y, x ∈ WT := fun x hx => by
  rcases List.mem_cons.mp hx with rfl | hx
  · exact h.1
  · exact hx
section CAL
variable {G : Gl} {w0 w w2 : Wd} {k : Nat} {rc : Nat × Nat} {mi pc : Nat} {ls : List (Option AV)} {st : List AV} {σ : Mem} {Q : Option AV → Mem → Prop}
def ps : Option AV → List AV → List AV
  | none, r => r
  | some v, r => v :: r
theorem ps_map (ob : Nat → Nat) (rv : Option AV) (st : List AV) : (ps rv st).map (val ob) = (rv.map (val ob)).toList ++ st.map (val ob) := by cases rv <;> rfl
/-- behind a call of ours -/
theorem W_run {p : Program} {e : Env} {R : Room} {s : State} {m : MethodId} {args : Array Value} {below : List Frame} {meth : Method} {c : Code} {H : Heap} {locs : List Loc} {cells slots mc ms : Nat} {lsr : Array Slot} {ob : Nat → Nat} {w' : Wd} {Qz : State → Prop} {Q' : Option AV → Mem → Prop} {st0 rest : List Value} {a : Array Value}
    (hr : va_Run p G.1 e R s m args below meth c H locs cells slots mc ms (F0 m pc lsr st0) rest (QQ G w ob w' Q' a) (fun q => G.2.2.1 ≤ q)) (fr : Fr G s H locs)
    (kk : ∀ (rv : Option AV) (σ' : Mem) (ob' : Nat → Nat) (H1 : Heap) (locs1 : List Loc), (∀ o, born w o ∨ 999 ≤ o → ob' o = ob o) → Rep G w' ob' σ' H1 → wfσ σ' → (∀ v, rv = some v → wfv w' v) → Q' rv σ' → Fr G s H1 locs1 →
      W p G.1 e R s m args below meth c H1 locs1 (cells + mc) (slots + ms) Qz (F0 m (pc + 3) lsr ((rv.map (val ob')).toList ++ rest))) : W p G.1 e R s m args below meth c H locs cells slots Qz (F0 m pc lsr st0) := by
  intro T hT X
  obtain ⟨v, st₀, t, T', L, h0, X', hL, e1, e2, ⟨ob', rv, σ', q1, q2, q3, q4, q5, q6, q7, q8⟩, go⟩ := hr T hT X
  have ev : v = rv.map (val ob') := by cases q1; rfl
  subst ev
  rw [h0] at q7 q8
  obtain ⟨f1, f2, f3, f4⟩ := fr
  obtain ⟨t2, a1, b1⟩ := kk rv σ' ob' T'.heap (locs ++ L) q2 (by rw [e1]; exact q3) q4 q5 q6 ⟨by rw [e1]; omega, f2, fun q hq => by rw [e1, q8 q hq]; exact f3 q hq, fun q hq => by
    rcases List.mem_append.mp hq with h | h
    · exact f4 q h
    · exact hL q h⟩ T' rfl X'
  exact ⟨t2, go t2 a1, b1⟩
/-- goes on in the caller -/
theorem Ev.after {p : Program} {s : State} {m : MethodId} {args : Array Value} {meth : Method} {c : Code} {H H1 : Heap} {locs locs1 : List Loc} {lsr : Array Slot} {ob0 ob ob' : Nat → Nat} {w' : Wd} {σ' : Mem} {st' st'' : List AV}
    (hE : Ev G w0 w mi p s m args meth c H locs lsr ob0 ob ls st σ) (hww : ∀ o, born w o → born w' o) (hww0 : ∀ o, born w0 o → born w o) (ag : ∀ o, born w o ∨ 999 ≤ o → ob' o = ob o) (rep : Rep G w' ob' σ' H1) (wσ : wfσ σ') (fr : Fr G s H1 locs1) (hst : ∀ v ∈ st', wfv w' v) : Ev G w0 w' mi p s m args meth c H1 locs1 lsr ob0 ob' ls st' σ' := by
  obtain ⟨cx, kk1, ss, rep0, wσ0, wst, wls, lh, fr0, ag0⟩ := hE
  have up : ∀ v, wfv w v → wfv w' v := fun v hv => by
    rcases v with x | x | _ | ⟨o, f, r⟩
    · exact hv
    · exact hv
    · trivial
    · rcases (hv : vld w o f r) with z | z
      · exact Or.inl z
      · exact Or.inr ⟨hww o z.1, z.2⟩
  refine ⟨cx, kk1, ss.ag (fun o h => ag o (Or.inr h)), rep, wσ, hst, fun i v h => up v (wls i v h), ⟨lh.1, lh.2.1, lh.2.2.1, fun i v h => ?_⟩, fr, fun o h => ?_⟩
  · rw [val_ag ag (wls i v h)]
    exact lh.2.2.2 i v h
  · rw [ag o (h.imp (hww0 o) id), ag0 o h]
theorem wfv.mono {w' : Wd} (hww : ∀ o, born w o → born w' o) {v : AV} (hv : wfv w v) : wfv w' v := by
  rcases v with x | x | _ | ⟨o, f, r⟩
  · exact hv
  · exact hv
  · trivial
  · rcases (hv : vld w o f r) with z | z
    · exact Or.inl z
    · exact Or.inr ⟨hww o z.1, z.2⟩
def csum : List AV → Nat
  | [] => 0
  | v :: l => (if isLg (some v) = true then 2 else 1) + csum l
theorem csum_eq (ob : Nat → Nat) : ∀ l : List AV, ((l.map (val ob)).map fun v => v.category).sum = csum l
  | [] => rfl
  | v :: l => by
    simp only [List.map_cons, List.sum_cons, csum, cat_val]
    rw [csum_eq ob l]
/-- a call of an instance method of ours -/
theorem S_invV {ix y o : Nat} {As : List AV} {w' : Wd} {rc' rc2 : Nat × Nat} (h : decode (bc mi) pc = .ok (.invokevirtual ix, 3)) (hl : Cond.methodLink (RN (own mi)) ix (yn y) ∈ WT) (hy : okY y) (hv : okV y) (ho : o < 22) (hc : cls o = own y) (hn : As.length = nA y) (hs : csum st ≤ 8) (hrc : rc.1 = rc'.1 + rc2.1 ∧ rc.2 = rc'.2 + rc2.2)
    (hww : ∀ x, born w x → born w' x) (hww0 : ∀ x, born w0 x → born w x)
    (kk : CC G w w' k rc' y (vr o 0 0 :: As) σ (fun rv σ' => TT G w0 w' w2 (k + 1) rc2 mi (pc + 3) ls (ps rv st) σ' Q)) : TT G w0 w w2 (k + 1) rc mi pc ls (As.reverse ++ vr o 0 0 :: st) σ Q := by
  intro p e s m args below meth c H locs cells slots mc ms lsr ob0 ob hE h1 h2
  have hE2 := hE
  obtain ⟨cx, kk1, ss, rep, wσ, wst, wls, lh, fr, ag⟩ := hE
  have wA : ∀ v ∈ As, wfv w v := fun v hv => wst v (List.mem_append_left _ (List.mem_reverse.mpr hv))
  have wr : wfv w (vr o 0 0) := wst _ (List.mem_append_right _ List.mem_cons_self)
  have wt : ∀ v ∈ st, wfv w v := fun v hv => wst v (List.mem_append_right _ (List.mem_cons_of_mem _ hv))
  have hvl : vloc w o 0 0 := vld.loc (show vld w o 0 0 from wr) ho
  have hts := cx.2.2.2.2.2.1
  obtain ⟨y1, y2, y3, y4, y5, y6, y7, y8⟩ := hy
  obtain ⟨v1, v2, r, v3, v4⟩ := hv
  have hM := kk ob (wf_cons wr wA)
  have e0 : adr ob o 0 0 = ob o := by unfold adr; simp
  have est : (As.reverse ++ vr o 0 0 :: st).map (val ob) = (As.map (val ob)).reverse ++ Value.ref (ob o) :: st.map (val ob) := by
    rw [List.map_append, List.map_reverse, List.map_cons, ← e0]; rfl
  rw [est]
  have hG : GoodIn WT (wsV (RN (own mi)) ix (RN (own y)) (yn y) (wsm y)) := GoodIn_WT (fun x hx => by
    unfold wsV at hx
    rcases List.mem_append.mp hx with hx | hx
    · simp only [List.mem_cons, List.not_mem_nil, or_false] at hx
      rcases hx with rfl | rfl | rfl | rfl
      · exact hl
      · exact v1
      · exact v2
      · exact y7
    · exact wsm_in ⟨y1, y2, y3, y4, y5, y6, y7, y8⟩ x hx)
  have hcls := (kk1.1 (own y) r v3).2
  obtain ⟨cell, q1, q2, q3, q4⟩ := rep.1 o hvl.1
  refine W_run (va_runV (nL := nL mi) (cc := bc mi) (As := As.map (val ob)) (rest := st.map (val ob)) (b := ob o) ⟨cx.1, cx.2.1, cx.2.2.2.1, cx.2.2.2.2.1, hts⟩ hM
    (cwV (nA y) hts hG rfl rfl rfl ⟨y3, y4, y5, y6⟩ ⟨Nat.le_refl _, by show 8 + (nL y + 11) + 64 * k ≤ 64 * (k + 1); omega⟩)
    ⟨PP.blind, ⟨cell, q1, by rw [q3]; rfl, by rw [q2, hc, ← v4]; exact hcls.1⟩, fun U hU hW => ⟨by rw [List.map_cons, ← e0]; rfl, by rw [hU]; exact rep, va_K.moved hW.alike kk1, ss.to hW (fun q hq => by rw [hU]; exact fr.2.2.1 q hq), wσ, by rw [hU]; exact Nat.le_trans fr.2.1 fr.1⟩⟩
    rfl (by rw [List.length_map]; exact hn) lh.1 rfl (lv_room (by rw [csum_eq]; exact hs)) h ⟨by show cells + rc'.1 ≤ mc; omega, by show slots + rc'.2 ≤ ms; omega⟩) fr (fun rv σ' ob' H1 locs1 ag1 rep1 wσ1 wr1 hQ fr1 => ?_)
  have hst1 : ∀ v ∈ ps rv st, wfv w' v := fun v hv => by
    cases rv with
    | none => exact wfv.mono hww (wt v hv)
    | some u =>
      rcases List.mem_cons.mp hv with rfl | hv
      · exact wr1 _ rfl
      · exact wfv.mono hww (wt v hv)
  have hE3 := hE2.after (st'' := st) hww hww0 ag1 rep1 wσ1 fr1 hst1
  have := hQ p e s m args below meth c H1 locs1 (cells + rc'.1) (slots + rc'.2) mc ms lsr ob0 ob' hE3 (by omega) (by omega)
  rw [ps_map, map_ag ag1 wt] at this
  exact this
/-- a call of a static method of ours -/
theorem S_invS {ix y : Nat} {As : List AV} (h : decode (bc mi) pc = .ok (.invokestatic ix, 3)) (hl : Cond.methodLink (RN (own mi)) ix (yn y) ∈ WT) (hy : okY y) (hv : Cond.static (yn y) ∈ WT) (hn : As.length = nA y) (hs : csum st ≤ 8) (hww0 : ∀ x, born w0 x → born w x)
    (kk : CC G w w k (0, 0) y As σ (fun rv σ' => TT G w0 w w2 (k + 1) rc mi (pc + 3) ls (ps rv st) σ' Q)) : TT G w0 w w2 (k + 1) rc mi pc ls (As.reverse ++ st) σ Q := by
  intro p e s m args below meth c H locs cells slots mc ms lsr ob0 ob hE h1 h2
  have hE2 := hE
  obtain ⟨cx, kk1, ss, rep, wσ, wst, wls, lh, fr, ag⟩ := hE
  have wA : ∀ v ∈ As, wfv w v := fun v hv => wst v (List.mem_append_left _ (List.mem_reverse.mpr hv))
  have wt : ∀ v ∈ st, wfv w v := fun v hv => wst v (List.mem_append_right _ hv)
  have hts := cx.2.2.2.2.2.1
  obtain ⟨y1, y2, y3, y4, y5, y6, y7, y8⟩ := hy
  have hM := kk ob wA
  have est : (As.reverse ++ st).map (val ob) = (As.map (val ob)).reverse ++ st.map (val ob) := by
    rw [List.map_append, List.map_reverse]
  rw [est]
  have hG : GoodIn WT (va_wsS (RN (own mi)) ix (yn y) (wsm y)) := GoodIn_WT (fun x hx => by
    unfold va_wsS at hx
    rcases List.mem_append.mp hx with hx | hx
    · simp only [List.mem_cons, List.not_mem_nil, or_false] at hx
      rcases hx with rfl | rfl | rfl
      · exact hl
      · exact hv
      · rw [y3]; exact y7
    · exact wsm_in ⟨y1, y2, y3, y4, y5, y6, y7, y8⟩ x hx)
  refine W_run (va_runS (nL := nL mi) (cc := bc mi) (As := As.map (val ob)) (rest := st.map (val ob)) ⟨cx.1, cx.2.1, cx.2.2.2.1, cx.2.2.2.2.1, hts⟩ hM
    (va_cwS (nA y) hts hG rfl rfl rfl ⟨y4, y5, y6⟩ ⟨Nat.le_refl _, by show 8 + (nL y + 11) + 64 * k ≤ 64 * (k + 1); omega⟩)
    ⟨PP.blind, fun U hU hW => ⟨rfl, by rw [hU]; exact rep, va_K.moved hW.alike kk1, ss.to hW (fun q hq => by rw [hU]; exact fr.2.2.1 q hq), wσ, by rw [hU]; exact Nat.le_trans fr.2.1 fr.1⟩⟩
    rfl (by rw [List.length_map]; exact hn) lh.1 rfl (lv_room (by rw [csum_eq]; exact hs)) h ⟨by show cells + 0 ≤ mc; omega, by show slots + 0 ≤ ms; omega⟩) fr (fun rv σ' ob' H1 locs1 ag1 rep1 wσ1 wr1 hQ fr1 => ?_)
  have hst1 : ∀ v ∈ ps rv st, wfv w v := fun v hv => by
    cases rv with
    | none => exact wt v hv
    | some u =>
      rcases List.mem_cons.mp hv with rfl | hv
      · exact wr1 _ rfl
      · exact wt v hv
  have hE3 := hE2.after (st'' := st) (fun _ z => z) hww0 ag1 rep1 wσ1 fr1 hst1
  have := hQ p e s m args below meth c H1 locs1 (cells + 0) (slots + 0) mc ms lsr ob0 ob' hE3 (by omega) (by omega)
  rw [ps_map, map_ag ag1 wt] at this
  exact this
/-! the JDK's numbers -/
def mlink (ow ix : Nat) (y : MethodName) (b : ByteArray) (n : Nat) (r : Option FieldType) : Prop := Cond.methodLink (RN ow) ix y ∈ WT ∧ Cond.static y ∈ WT ∧ Cond.initialized y.cls ∈ WT ∧ Cond.code y b n r ∈ WT
theorem S_mmax {ix : Nat} {a b : Int} (h : decode (bc mi) pc = .ok (.invokestatic ix, 3)) (hl : mlink (own mi) ix Lib.Math.max.name Lib.Math.max.code 2 (some .int)) (hs : csum st ≤ 8)
    (kk : TT G w0 w w2 (k + 1) rc mi (pc + 3) ls (vi (max a b) :: st) σ Q) : TT G w0 w w2 (k + 1) rc mi pc ls (vi b :: vi a :: st) σ Q := by
  intro p e s m args below meth c H locs cells slots mc ms lsr ob0 ob hE h1 h2
  obtain ⟨cx, kk1, ss, rep, wσ, wst, wls, lh, fr, ag⟩ := hE
  have hts := cx.2.2.2.2.2.1
  have ha : I32 a := wf_hd (wf_tl wst)
  have hb : I32 b := wf_hd wst
  refine va_mmax cx.1 cx.2.1 (by rw [cx.2.2.2.1, lh.1]) cx.2.2.2.2.1 (hts _ hl.1) (hts _ hl.2.1) (hts _ hl.2.2.1) (hts _ hl.2.2.2) (by show 1 ≤ k + 1; omega) (by rw [csum_eq]; show csum st + 13 ≤ 64 * (k + 1); omega) (by show cells ≤ mc; omega) (by show slots ≤ ms; omega) h ?_
  have hm : I32 (max a b) := by unfold I32 at ha hb ⊢; omega
  have e9 : (if Int32.ofInt a < Int32.ofInt b then Int32.ofInt b else Int32.ofInt a) = Int32.ofInt (max a b) := by
    by_cases z : a < b
    · rw [if_pos ((i32_lt ha hb).mpr z), show max a b = b by omega]
    · rw [if_neg (fun q => z ((i32_lt ha hb).mp q)), show max a b = a by omega]
  rw [e9]
  exact kk p e s m args below meth c H locs cells slots mc ms lsr ob0 ob ⟨cx, kk1, ss, rep, wσ, wf_cons (wfi hm) (wf_tl (wf_tl wst)), wls, lh, fr, ag⟩ h1 h2
theorem S_mmin {ix : Nat} {a b : Int} (h : decode (bc mi) pc = .ok (.invokestatic ix, 3)) (hl : mlink (own mi) ix Lib.Math.min.name Lib.Math.min.code 2 (some .int)) (hs : csum st ≤ 8)
    (kk : TT G w0 w w2 (k + 1) rc mi (pc + 3) ls (vi (min a b) :: st) σ Q) : TT G w0 w w2 (k + 1) rc mi pc ls (vi b :: vi a :: st) σ Q := by
  intro p e s m args below meth c H locs cells slots mc ms lsr ob0 ob hE h1 h2
  obtain ⟨cx, kk1, ss, rep, wσ, wst, wls, lh, fr, ag⟩ := hE
  have hts := cx.2.2.2.2.2.1
  have ha : I32 a := wf_hd (wf_tl wst)
  have hb : I32 b := wf_hd wst
  refine va_mmin cx.1 cx.2.1 (by rw [cx.2.2.2.1, lh.1]) cx.2.2.2.2.1 (hts _ hl.1) (hts _ hl.2.1) (hts _ hl.2.2.1) (hts _ hl.2.2.2) (by show 1 ≤ k + 1; omega) (by rw [csum_eq]; show csum st + 13 ≤ 64 * (k + 1); omega) (by show cells ≤ mc; omega) (by show slots ≤ ms; omega) h ?_
  have hm : I32 (min a b) := by unfold I32 at ha hb ⊢; omega
  have e9 : (if Int32.ofInt b < Int32.ofInt a then Int32.ofInt b else Int32.ofInt a) = Int32.ofInt (min a b) := by
    by_cases z : b < a
    · rw [if_pos ((i32_lt hb ha).mpr z), show min a b = b by omega]
    · rw [if_neg (fun q => z ((i32_lt hb ha).mp q)), show min a b = a by omega]
  rw [e9]
  exact kk p e s m args below meth c H locs cells slots mc ms lsr ob0 ob ⟨cx, kk1, ss, rep, wσ, wf_cons (wfi hm) (wf_tl (wf_tl wst)), wls, lh, fr, ag⟩ h1 h2
/-- a contract out of its body -/
def lat : List AV → List (Option AV)
  | [] => []
  | v :: l => if isLg (some v) = true then some v :: none :: lat l else some v :: lat l
def lpad (l : List (Option AV)) (n : Nat) : List (Option AV) := l ++ List.replicate (n - l.length) none
theorem lg_some : ∀ (l : List (Option AV)) (i : Nat) (v : AV), lg l i = some v → l[i]? = some (some v)
  | [], i, v, h => by simp [lg] at h
  | x :: t, 0, v, h => by simp [lg] at h; simp [h]
  | x :: t, i + 1, v, h => by simpa [lg] using lg_some t i v (by simpa [lg] using h)
theorem lat_in (ob : Nat → Nat) : ∀ (l : List AV) (n i : Nat) (v : AV), (lat l)[i]? = some (some v) → (n + i, val ob v) ∈ lv_args n (l.map (val ob))
  | [], n, i, v, h => by simp [lat] at h
  | u :: l, n, i, v, h => by
    simp only [List.map_cons, lv_args, cat_val]
    by_cases hc : isLg (some u) = true
    · simp only [lat, hc, if_true] at h ⊢
      match i, h with
      | 0, h => simp at h; subst h; exact List.mem_cons_self
      | 1, h => simp at h
      | i + 2, h =>
        have := lat_in ob l (n + 2) i v (by simpa using h)
        rw [show n + (i + 2) = n + 2 + i by omega]
        exact List.mem_cons_of_mem _ this
    · simp only [lat, hc, if_false] at h ⊢
      match i, h with
      | 0, h => simp at h; subst h; exact List.mem_cons_self
      | i + 1, h =>
        have := lat_in ob l (n + 1) i v (by simpa using h)
        rw [show n + (i + 1) = n + 1 + i by omega]
        exact List.mem_cons_of_mem _ this
theorem lat_len (ob : Nat → Nat) : ∀ l : List AV, (lat l).length = (lg_sl (l.map (val ob))).length
  | [] => rfl
  | u :: l => by
    have ih := lat_len ob l
    have e : lg_sl ((u :: l).map (val ob)) = (if (val ob u).category = 2 then [Slot.val (val ob u), Slot.second] else [Slot.val (val ob u)]) ++ lg_sl (l.map (val ob)) := rfl
    rw [e, List.length_append, ← ih, cat_val]
    by_cases hc : isLg (some u) = true
    · simp [lat, hc]; omega
    · simp [lat, hc]; omega
theorem lat_wf : ∀ (l : List AV) (i : Nat) (v : AV), (lat l)[i]? = some (some v) → v ∈ l
  | [], i, v, h => by simp [lat] at h
  | u :: l, i, v, h => by
    by_cases hc : isLg (some u) = true
    · simp only [lat, hc, if_true] at h
      match i, h with
      | 0, h => simp at h; subst h; exact List.mem_cons_self
      | 1, h => simp at h
      | i + 2, h => exact List.mem_cons_of_mem _ (lat_wf l i v (by simpa using h))
    · simp only [lat, hc, if_false] at h
      match i, h with
      | 0, h => simp at h; subst h; exact List.mem_cons_self
      | i + 1, h => exact List.mem_cons_of_mem _ (lat_wf l i v (by simpa using h))
theorem lpad_in {l : List (Option AV)} {n i : Nat} {v : AV} (h : lg (lpad l n) i = some v) : l[i]? = some (some v) := by
  have h1 := lg_some _ _ _ h
  unfold lpad at h1
  by_cases hi : i < l.length
  · rwa [List.getElem?_append_left hi] at h1
  · rw [List.getElem?_append_right (by omega)] at h1
    have := List.eq_of_mem_replicate (List.mem_of_getElem? h1)
    cases this
theorem CC_of {as : List AV} (hy : okY mi) (hn : (lat as).length ≤ nL mi) (kk : TT G w w w2 k rc mi 0 (lpad (lat as) (nL mi)) [] σ Q) : CC G w w2 k rc mi as σ Q := by
  intro ob has
  refine Met.ofW (cc := bc mi) (maxL := nL mi) (ret := rt mi) hy.2.2.2.2.2.2.2 rfl ?_
  intro p e s m args below meth c s₁ B hml hv
  obtain ⟨rfl, h2, h3, h4, h5, h6⟩ := hv
  have hts0 := atoms_spec (ws := wsm mi) B.pre
  have hown : s.vm.findClass (RN (own mi)) = some m.cls := by rw [← hy.2.2.1]; exact findClass_of_methodNamed B.named
  have hl := lv_entry (as.map (val ob)) (n := nL mi) (by rw [← lat_len ob]; exact hn)
  rw [lg_entry_eq]
  generalize (lg_sl (as.map (val ob)) ++ List.replicate (nL mi - (lg_sl (as.map (val ob))).length) Slot.unset).toArray = lsr at hl ⊢
  refine kk p e s m _ below meth c s.heap [] 0 0 rc.1 rc.2 lsr ob ob ⟨⟨B.exec, B.bytes, B.returns, hml, hown, fun x hx => hts0 x (List.mem_cons_of_mem _ hx), B.notSynchronized⟩, h3, h4, h2, h5, fun v hv => (by cases hv), fun i v h => has v (lat_wf as i v (lpad_in h)), ⟨hl.1, ?_, hl.2.1, fun i v h => ?_⟩, ⟨Nat.le_refl _, h6, fun _ _ => rfl, fun q hq => (by cases hq)⟩, fun _ _ => rfl⟩ (by omega) (by omega)
  · unfold lpad; rw [List.length_append, List.length_replicate]; omega
  · have := lat_in ob as 0 i v (lpad_in h)
    rw [Nat.zero_add] at this
    exact hl.2.2 _ this
end CAL

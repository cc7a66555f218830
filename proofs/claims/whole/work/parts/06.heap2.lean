/-! 06.heap2: stores into arrays, references in arrays, string constants, returns -/
/-- a wide load of a String constant, as a row of W -/
theorem va_ldcSw {p : Program} {l : Launch} {e : Env} {R : Room} {s : State} {m : MethodId} {args : Array Value} {below : List Frame} {meth : Method} {c : Code} {H : Heap} {locs : List Loc} {cells slots : Nat} {Q : State → Prop} {cc : ByteArray} {pc : Nat} {ls : Array Slot} {rest : List Value} (hexec : p.tables.exec = Jvm.exec) (hb : c.code = cc) {own tx : String} {index q : Nat} (hown : s.vm.findClass own = some m.cls) (hZ : vk_R own index tx q s) (hdg : decode cc pc = .ok (.ldc_w index, 3))
    (k : W p l e R s m args below meth c H locs cells slots Q (F0 m (pc + 3) ls (.ref q :: rest))) : W p l e R s m args below meth c H locs cells slots Q (F0 m pc ls rest) := by
  intro T hT X
  obtain ⟨t, a1, b1⟩ := k T hT X
  obtain ⟨k, cf, i, a', hk, hcf, hcp, -, hr, hev'⟩ := Cond.stringRef_spec hown hZ.1
  cases hZ.2.symm.trans hev'
  obtain ⟨k', hk', he⟩ := X.warmed.alike.2.2 _ _ hk
  have hr' : k'.resolved[index]? = some (some (.string q)) := by
    rcases X.warmed.entry hk hk' index with h | ⟨h, -⟩
    · rw [h]; exact hr
    · rw [hr] at h; cases h
  refine ⟨t, ?_, b1⟩
  have hd' : decode c.code pc = .ok (.ldc_w index, 3) := by rw [hb]; exact hdg
  jvm_step X.here [hexec, hd', Op.ldc_w.wp_string (e := e) (s := T) (f := F0 m pc ls rest) X.here.top hk' (by rw [he]; exact hcf) hcp hr']
  exact a1
section HE2
variable {G : Gl} {w0 w w2 : Wd} {k : Nat} {rc : Nat × Nat} {mi pc : Nat} {ls : List (Option AV)} {st : List AV} {σ : Mem} {Q : Option AV → Mem → Prop}
theorem updE {ob : Nat → Nat} {σ : Mem} {o f r c : Nat} {x : Int} {v : Value} (hv : elv ob (up σ o f r c x) o f r c = v) : updV (elv ob σ o f r) c v = elv ob (up σ o f r c x) o f r := by
  funext j
  unfold updV
  by_cases e : j = c
  · rw [if_pos e, e]; exact hv.symm
  · rw [if_neg e]
    have e2 : up σ o f r c x o f r j = σ o f r j := up_ne (fun q => e q.2.2.2)
    unfold elv
    rw [e2]
/-- what the three stores of numbers share -/
theorem stored {w : Wd} {ob : Nat → Nat} {s : State} {H H1 : Heap} {locs : List Loc} {o f r : Nat} {i x : Int} {v : Value} (rep : Rep G w ob σ H) (fr : Fr G s H locs) (hv : vloc w o f r) (hf : f ≠ 0) (h0 : 0 ≤ i) (hi : I32 i)
    (hev : elv ob (up σ o f r i.toNat x) o f r i.toNat = v)
    (e1 : H1[adr ob o f r]? = some ((arrV (G.2.1.2.2 (acd (lay (cls o) (f - 1)) r)) (akk (lay (cls o) (f - 1)) r).2 (elv ob σ o f r)).setSlot (Int32.ofInt i).toNatClampNeg v)) (e2 : H1.size = H.size) (e3 : ∀ q, q ≠ adr ob o f r → H1[q]? = H[q]?) :
    Rep G w ob (up σ o f r i.toNat x) H1 ∧ Fr G s H1 (locs ++ [⟨adr ob o f r, (Int32.ofInt i).toNatClampNeg⟩]) := by
  obtain ⟨ha, -⟩ := rep.at hv hf
  rw [clampI h0 hi, arrV_store, updE hev] at e1
  exact ⟨rep.arr hv.1 (Nat.pos_of_ne_zero hf) ha e1 e3, fr.put e2 e3 (rep.2.2.2 o f r hv)⟩
theorem S_iastore {o f r : Nat} {i x : Int} (h : decode (bc mi) pc = .ok (.iastore, 1)) (ho : o < 22) (hf : f ≠ 0) (hk : (akk (lay (cls o) (f - 1)) r).1 = 10) (h0 : 0 ≤ i) (h1 : i < (akk (lay (cls o) (f - 1)) r).2)
    (kk : TT G w0 w w2 k rc mi (pc + 1) ls st (up σ o f r i.toNat x) Q) : TT G w0 w w2 k rc mi pc ls (vi x :: vi i :: vr o f r :: st) σ Q := by
  refine TT_write (fun h1 => wf_tl (wf_tl (wf_tl h1))) (fun p e R s m args below meth c H locs cells slots lsr ob0 ob Q' hE => ?_) kk
  obtain ⟨cx, kk1, ss, rep, wσ, wst, wls, lh, fr, ag⟩ := hE
  have hv : vloc w o f r := vld.loc (show vld w o f r from wf_hd (wf_tl (wf_tl wst))) ho
  obtain ⟨ha, hcell⟩ := rep.at hv hf
  have hi : I32 i := wf_hd (wf_tl wst)
  have hx : I32 x := wf_hd wst
  refine ⟨wσ.up ⟨fun z => absurd z ((isL_of ha).2 (by omega) (by omega)), fun _ => hx⟩, fun k1 => ?_⟩
  refine W.iast cx.1 cx.2.1 hcell (by rw [acd10 ha hk]; exact ty_at kk1 0 rfl _ _) (fun z => by cases z) (by rw [arrV_size]; exact inI h0 h1 hi) rfl rfl h (fun H' e1 e2 e3 => ?_)
  obtain ⟨r1, f1⟩ := stored rep fr hv hf h0 hi (x := x) (v := .int (Int32.ofInt x)) (by unfold elv; rw [if_neg (by omega), if_neg (by omega), if_neg (by omega), up_eq]) e1 e2 e3
  exact k1 H' _ r1 f1
theorem S_lastore {o f r : Nat} {i x : Int} (h : decode (bc mi) pc = .ok (.lastore, 1)) (ho : o < 22) (hf : f ≠ 0) (hk : (akk (lay (cls o) (f - 1)) r).1 = 11) (h0 : 0 ≤ i) (h1 : i < (akk (lay (cls o) (f - 1)) r).2)
    (kk : TT G w0 w w2 k rc mi (pc + 1) ls st (up σ o f r i.toNat x) Q) : TT G w0 w w2 k rc mi pc ls (vl x :: vi i :: vr o f r :: st) σ Q := by
  refine TT_write (fun h1 => wf_tl (wf_tl (wf_tl h1))) (fun p e R s m args below meth c H locs cells slots lsr ob0 ob Q' hE => ?_) kk
  obtain ⟨cx, kk1, ss, rep, wσ, wst, wls, lh, fr, ag⟩ := hE
  have hv : vloc w o f r := vld.loc (show vld w o f r from wf_hd (wf_tl (wf_tl wst))) ho
  obtain ⟨ha, hcell⟩ := rep.at hv hf
  have hi : I32 i := wf_hd (wf_tl wst)
  have hx : I64 x := wf_hd wst
  refine ⟨wσ.up ⟨fun _ => hx, fun z => absurd ((isL_of ha).1 hk) z⟩, fun k1 => ?_⟩
  refine W.last cx.1 cx.2.1 hcell (by rw [acd11 ha hk]; exact ty_at kk1 1 rfl _ _) (fun z => by cases z) (by rw [arrV_size]; exact inI h0 h1 hi) rfl rfl h (fun H' e1 e2 e3 => ?_)
  obtain ⟨r1, f1⟩ := stored rep fr hv hf h0 hi (x := x) (v := .long (Int64.ofInt x)) (by unfold elv; rw [if_pos hk, up_eq]) e1 e2 e3
  exact k1 H' _ r1 f1
theorem narrow_by {x : Int} (h : -128 ≤ x ∧ x ≤ 127) : narrow .byte (.int (Int32.ofInt x)) = .int (Int32.ofInt x) := by
  have hx : I32 x := by unfold I32; omega
  have e : narrow .byte (.int (Int32.ofInt x)) = .int (Int32.ofInt x).toInt8.toInt32 := rfl
  rw [e, o_i2b hx]
  have : w8 x = x := by unfold w8; omega
  rw [this]
theorem narrow_bo {x : Int} (h : x = 0 ∨ x = 1) : narrow .boolean (.int (Int32.ofInt x)) = .int (Int32.ofInt x) := by
  rcases h with rfl | rfl <;> rfl
theorem S_bastore {o f r : Nat} {i x : Int} (h : decode (bc mi) pc = .ok (.bastore, 1)) (ho : o < 22) (hf : f ≠ 0) (hk : ((akk (lay (cls o) (f - 1)) r).1 = 12 ∧ (x = 0 ∨ x = 1)) ∨ ((akk (lay (cls o) (f - 1)) r).1 = 13 ∧ -128 ≤ x ∧ x ≤ 127)) (h0 : 0 ≤ i) (h1 : i < (akk (lay (cls o) (f - 1)) r).2)
    (kk : TT G w0 w w2 k rc mi (pc + 1) ls st (up σ o f r i.toNat x) Q) : TT G w0 w w2 k rc mi pc ls (vi x :: vi i :: vr o f r :: st) σ Q := by
  refine TT_write (fun h1 => wf_tl (wf_tl (wf_tl h1))) (fun p e R s m args below meth c H locs cells slots lsr ob0 ob Q' hE => ?_) kk
  obtain ⟨cx, kk1, ss, rep, wσ, wst, wls, lh, fr, ag⟩ := hE
  have hv : vloc w o f r := vld.loc (show vld w o f r from wf_hd (wf_tl (wf_tl wst))) ho
  obtain ⟨ha, hcell⟩ := rep.at hv hf
  have hi : I32 i := wf_hd (wf_tl wst)
  have hx : I32 x := wf_hd wst
  have hev : elv ob (up σ o f r i.toNat x) o f r i.toNat = .int (Int32.ofInt x) := by unfold elv; rw [if_neg (by omega), if_neg (by omega), if_neg (by omega), up_eq]
  refine ⟨wσ.up ⟨fun z => absurd z ((isL_of ha).2 (by omega) (by omega)), fun _ => hx⟩, fun k1 => ?_⟩
  rcases hk with ⟨hk, hx2⟩ | ⟨hk, hx2⟩
  · refine W.zast cx.1 cx.2.1 hcell (by rw [acd12 ha hk]; exact ty_at kk1 2 rfl _ _) (fun z => by cases z) (by rw [arrV_size]; exact inI h0 h1 hi) rfl rfl h (fun H' e1 e2 e3 => ?_)
    rw [narrow_bo hx2] at e1
    obtain ⟨r1, f1⟩ := stored rep fr hv hf h0 hi (x := x) (v := .int (Int32.ofInt x)) hev e1 e2 e3
    exact k1 H' _ r1 f1
  · refine W.bast cx.1 cx.2.1 hcell (by rw [acd13 ha hk]; exact ty_at kk1 3 rfl _ _) (fun z => by cases z) (by rw [arrV_size]; exact inI h0 h1 hi) rfl rfl h (fun H' e1 e2 e3 => ?_)
    rw [narrow_by hx2] at e1
    obtain ⟨r1, f1⟩ := stored rep fr hv hf h0 hi (x := x) (v := .int (Int32.ofInt x)) hev e1 e2 e3
    exact k1 H' _ r1 f1
/-- a row of an array of arrays -/
theorem S_aaload {o f : Nat} {i : Int} (h : decode (bc mi) pc = .ok (.aaload, 1)) (ho : o < 22) (hf : f ≠ 0) (hq : 20 ≤ (lay (cls o) (f - 1)).1) (h0 : 0 ≤ i) (h1 : i < (lay (cls o) (f - 1)).2.1)
    (kk : TT G w0 w w2 k rc mi (pc + 1) ls (vr o f (i.toNat + 1) :: st) σ Q) : TT G w0 w w2 k rc mi pc ls (vi i :: vr o f 0 :: st) σ Q := by
  refine TT_read (fun p e R s m args below meth c H locs cells slots lsr ob0 ob Q' hE => ?_) kk
  obtain ⟨cx, kk1, ss, rep, wσ, wst, wls, lh, fr, ag⟩ := hE
  have hv : vloc w o f 0 := vld.loc (show vld w o f 0 from wf_hd (wf_tl wst)) ho
  obtain ⟨ha, hcell⟩ := rep.at hv hf
  have hi : I32 i := wf_hd wst
  have hk : (akk (lay (cls o) (f - 1)) 0).1 = 15 := by unfold akk; rw [if_neg (by omega), if_pos rfl]
  have hn : (akk (lay (cls o) (f - 1)) 0).2 = (lay (cls o) (f - 1)).2.1 := by unfold akk; rw [if_neg (by omega), if_pos rfl]
  have hvr : vld w o f (i.toNat + 1) := Or.inr ⟨hv.1, Or.inr ⟨Nat.pos_of_ne_zero hf, ha.1, ha.2.1, fun z => by omega, fun z => by omega⟩⟩
  refine ⟨hvr, wf_tl (wf_tl wst), fun k1 => ?_⟩
  · have hrd : (arrV (G.2.1.2.2 (acd (lay (cls o) (f - 1)) 0)) (akk (lay (cls o) (f - 1)) 0).2 (elv ob σ o f 0)).slots[(Int32.ofInt i).toNatClampNeg]? = some (.ref (adr ob o f (i.toNat + 1))) := by
      rw [clampI h0 hi, arrV_read _ _ (by omega)]
      unfold elv
      rw [if_neg (by omega), if_neg (by omega), if_pos hk]
    rcases acd15 ha hk with e | e | e
    · exact W.aald cx.1 cx.2.1 hcell (ty := .array .int) (by rw [e]; exact ty_at kk1 4 rfl _ _) rfl (fun z => by cases z) (by rw [arrV_size]; exact inI h0 (by omega) hi) hrd rfl rfl h k1
    · exact W.aald cx.1 cx.2.1 hcell (ty := .array .long) (by rw [e]; exact ty_at kk1 5 rfl _ _) rfl (fun z => by cases z) (by rw [arrV_size]; exact inI h0 (by omega) hi) hrd rfl rfl h k1
    · omega
theorem acd14 {q : Nat × Nat × Nat × Nat} {r : Nat} (h : q.1 = 14) : acd q r = q.2.2.1 ∧ akk q r = (14, q.2.1) := by
  unfold acd akk
  rw [if_neg (by omega), if_pos h, if_pos (by omega), h]
  exact ⟨rfl, rfl⟩
/-- an object out of an array of objects -/
theorem S_aaloadq {o f : Nat} {i : Int} (h : decode (bc mi) pc = .ok (.aaload, 1)) (ho : o < 22) (hf : f ≠ 0) (hq : (lay (cls o) (f - 1)).1 = 14) (hq2 : (lay (cls o) (f - 1)).2.2.1 = 6 ∨ (lay (cls o) (f - 1)).2.2.1 = 7) (h0 : 0 ≤ i) (h1 : i < (lay (cls o) (f - 1)).2.1) (hw : wfv w (dec (σ o f 0 i.toNat)))
    (kk : TT G w0 w w2 k rc mi (pc + 1) ls (dec (σ o f 0 i.toNat) :: st) σ Q) : TT G w0 w w2 k rc mi pc ls (vi i :: vr o f 0 :: st) σ Q := by
  refine TT_read (fun p e R s m args below meth c H locs cells slots lsr ob0 ob Q' hE => ?_) kk
  obtain ⟨cx, kk1, ss, rep, wσ, wst, wls, lh, fr, ag⟩ := hE
  have hv : vloc w o f 0 := vld.loc (show vld w o f 0 from wf_hd (wf_tl wst)) ho
  obtain ⟨ha, hcell⟩ := rep.at hv hf
  have hi : I32 i := wf_hd wst
  obtain ⟨hac, hak⟩ := acd14 (r := 0) hq
  refine ⟨hw, wf_tl (wf_tl wst), fun k1 => ?_⟩
  rw [hac, hak] at hcell
  have hrd : (arrV (G.2.1.2.2 (lay (cls o) (f - 1)).2.2.1) (lay (cls o) (f - 1)).2.1 (elv ob σ o f 0)).slots[(Int32.ofInt i).toNatClampNeg]? = some (val ob (dec (σ o f 0 i.toNat))) := by
    rw [clampI h0 hi, arrV_read _ _ (by omega)]
    unfold elv
    rw [hak]
    rfl
  rcases hq2 with e | e
  · exact W.aald cx.1 cx.2.1 hcell (ty := .object "DarkStreet$Town") (by rw [e]; exact ty_at kk1 6 rfl _ _) rfl (fun z => by cases z) (by rw [arrV_size]; exact inI h0 h1 hi) hrd rfl rfl h k1
  · exact W.aald cx.1 cx.2.1 hcell (ty := .object "DarkStreet$Rule") (by rw [e]; exact ty_at kk1 7 rfl _ _) rfl (fun z => by cases z) (by rw [arrV_size]; exact inI h0 h1 hi) hrd rfl rfl h k1
/-- an object into an array of objects -/
theorem S_aastoreq {o f q : Nat} {i : Int} (h : decode (bc mi) pc = .ok (.aastore, 1)) (ho : o < 22) (hf : f ≠ 0) (hq : (lay (cls o) (f - 1)).1 = 14) (hq2 : ((lay (cls o) (f - 1)).2.2.1 = 6 ∧ cls q = 4) ∨ ((lay (cls o) (f - 1)).2.2.1 = 7 ∧ cls q = 3)) (hq3 : q < 22) (h0 : 0 ≤ i) (h1 : i < (lay (cls o) (f - 1)).2.1)
    (kk : TT G w0 w w2 k rc mi (pc + 1) ls st (up σ o f 0 i.toNat (enc q 0 0)) Q) : TT G w0 w w2 k rc mi pc ls (vr q 0 0 :: vi i :: vr o f 0 :: st) σ Q := by
  refine TT_write (fun h1 => wf_tl (wf_tl (wf_tl h1))) (fun p e R s m args below meth c H locs cells slots lsr ob0 ob Q' hE => ?_) kk
  obtain ⟨cx, kk1, ss, rep, wσ, wst, wls, lh, fr, ag⟩ := hE
  have hv : vloc w o f 0 := vld.loc (show vld w o f 0 from wf_hd (wf_tl (wf_tl wst))) ho
  have hvq : vloc w q 0 0 := vld.loc (show vld w q 0 0 from wf_hd wst) hq3
  obtain ⟨ha, hcell⟩ := rep.at hv hf
  have hi : I32 i := wf_hd (wf_tl wst)
  obtain ⟨hac, hak⟩ := acd14 (r := 0) hq
  have hnl : ¬ isL o f := by unfold isL; omega
  refine ⟨wσ.up ⟨fun z => absurd z hnl, fun _ => by unfold I32 enc; omega⟩, fun k1 => ?_⟩
  have hev : elv ob (up σ o f 0 i.toNat (enc q 0 0)) o f 0 i.toNat = .ref (ob q) := by
    unfold elv
    rw [hak, up_eq, dec_enc q 0 0 (by omega) (by omega)]
    have e0 : adr ob q 0 0 = ob q := by unfold adr; simp
    show Value.ref (adr ob q 0 0) = _
    rw [e0]
  have e0 : adr ob q 0 0 = ob q := by unfold adr; simp
  show W _ _ _ _ _ _ _ _ _ _ _ _ _ _ _ (F0 m pc lsr (Value.ref (adr ob q 0 0) :: Value.int (Int32.ofInt i) :: Value.ref (adr ob o f 0) :: st.map (val ob)))
  rw [e0]
  obtain ⟨cell, q1, q2, q3, q4⟩ := rep.1 q hvq.1
  have fin : ∀ (t ci : Nat) (C : String) (r : vw_C), (lay (cls o) (f - 1)).2.2.1 = t → cls q = ci → vwCl[ci]? = some r → r.1 = C → (TYS G)[t]? = some (G.2.1.2.2 t, .object C) → W p G.1 e R s m args below meth c H locs cells slots Q' (F0 m pc lsr (Value.ref (ob q) :: Value.int (Int32.ofInt i) :: Value.ref (adr ob o f 0) :: st.map (val ob))) := by
    intro t ci C r e1 e2 hr hC hT
    have hcls := (kk1.1 ci r hr).2
    obtain ⟨kA, comp, k1', k2, k3, -⟩ := (kk1.2 t _ hT).2
    rw [hC] at hcls
    have hcomp : comp = G.2.1.1 ci := Option.some.inj (k3.symm.trans hcls.1)
    subst hcomp
    obtain ⟨kC, hkC, -⟩ := hcls.2
    refine W.aast cx.1 cx.2.1 hcell (fun z hz => by cases z <;> cases hz) (fun z => by cases z) (by rw [hac, e1]; exact k1') k2 rfl hkC ⟨fun z => by have := (i32_lt hi I32_0).mp z; omega, by rw [arrV_size, clampI h0 hi, hak]; show i.toNat < (lay (cls o) (f - 1)).2.1; omega⟩ q1 (fun z hz => by rw [q3] at hz; cases hz) (by rw [q2, e2]; exact hkC) (by rw [q2, e2]; exact va_assign hcls) rfl rfl h (fun H' f1 f2 f3 => ?_)
    obtain ⟨r1, g1⟩ := stored rep fr hv hf h0 hi (x := enc q 0 0) (v := .ref (ob q)) hev f1 f2 f3
    exact k1 H' _ r1 g1
  rcases hq2 with ⟨e1, e2⟩ | ⟨e1, e2⟩
  · exact fin 6 4 _ _ e1 e2 rfl rfl rfl
  · exact fin 7 3 _ _ e1 e2 rfl rfl rfl
/-! returns -/
theorem TT_ret {rv : Option AV} (hw : w = w2) (hQ : Q rv σ)
    (row : ∀ (p : Program) (e : Env) (R : Room) (s : State) (m : MethodId) (args : Array Value) (below : List Frame) (meth : Method) (c : Code) (H : Heap) (locs : List Loc) (mc ms : Nat) (lsr : Array Slot) (ob0 ob : Nat → Nat),
      Ev G w0 w mi p s m args meth c H locs lsr ob0 ob ls st σ → (∀ v, rv = some v → wfv w v) ∧ ((∀ t : State, t.heap = H → s.WarmedH t.vm → QQ G w0 ob0 w2 Q args s (.returned (rv.map (val ob))) t) → W p G.1 e R s m args below meth c H locs mc ms (MQ below (QQ G w0 ob0 w2 Q) args s mc ms (fun q => G.2.2.1 ≤ q)) (F0 m pc lsr (st.map (val ob))))) : TT G w0 w w2 k rc mi pc ls st σ Q := by
  intro p e s m args below meth c H locs cells slots mc ms lsr ob0 ob hE h1 h2
  obtain ⟨r1, r2⟩ := row p e (rmk k mc ms) s m args below meth c H locs mc ms lsr ob0 ob hE
  obtain ⟨cx, kk1, ss, rep, wσ, wst, wls, lh, fr, ag⟩ := hE
  refine W.widen (k := mc) (n := ms) (by omega) (by omega) (r2 (fun t ht hW => ?_))
  subst hw
  exact ⟨ob, rv, σ, rfl, ag, by rw [ht]; exact rep, wσ, r1, hQ, by rw [ht]; exact fr.1, fun q hq => by rw [ht]; exact fr.2.2.1 q hq⟩
theorem S_ireturn {x : Int} (h : decode (bc mi) pc = .ok (.ireturn, 1)) (hw : w = w2) (hr : rt mi = some .int ∨ (rt mi = some .boolean ∧ (x = 0 ∨ x = 1))) (hQ : Q (some (vi x)) σ) : TT G w0 w w2 k rc mi pc ls [vi x] σ Q := by
  refine TT_ret (rv := some (vi x)) hw hQ (fun p e R s m args below meth c H locs mc ms lsr ob0 ob hE => ?_)
  obtain ⟨cx, kk1, ss, rep, wσ, wst, wls, lh, fr, ag⟩ := hE
  refine ⟨fun v hv => by cases hv; exact wf_hd wst, fun k1 => ?_⟩
  have hlocks := cx.2.2.2.2.2.2
  rcases hr with hr | ⟨hr, hx⟩
  · exact W.iret cx.1 cx.2.1 (cx.2.2.1.trans hr) k1 fr.2.2.2 h hlocks
  · exact W.zret cx.1 cx.2.1 (cx.2.2.1.trans hr) (narrow_bo hx) k1 fr.2.2.2 h hlocks
theorem S_lreturn {x : Int} (h : decode (bc mi) pc = .ok (.lreturn, 1)) (hw : w = w2) (hr : rt mi = some .long) (hQ : Q (some (vl x)) σ) : TT G w0 w w2 k rc mi pc ls [vl x] σ Q := by
  refine TT_ret (rv := some (vl x)) hw hQ (fun p e R s m args below meth c H locs mc ms lsr ob0 ob hE => ?_)
  obtain ⟨cx, kk1, ss, rep, wσ, wst, wls, lh, fr, ag⟩ := hE
  exact ⟨fun v hv => by cases hv; exact wf_hd wst, fun k1 => W.lret cx.1 cx.2.1 (cx.2.2.1.trans hr) k1 fr.2.2.2 h cx.2.2.2.2.2.2⟩
theorem S_return (h : decode (bc mi) pc = .ok (.return_, 1)) (hw : w = w2) (hr : rt mi = none) (hQ : Q none σ) : TT G w0 w w2 k rc mi pc ls [] σ Q := by
  refine TT_ret (rv := none) hw hQ (fun p e R s m args below meth c H locs mc ms lsr ob0 ob hE => ?_)
  obtain ⟨cx, kk1, ss, rep, wσ, wst, wls, lh, fr, ag⟩ := hE
  exact ⟨fun v hv => (by cases hv), fun k1 => W.vret cx.1 cx.2.1 (cx.2.2.1.trans hr) k1 fr.2.2.2 h cx.2.2.2.2.2.2⟩
theorem S_areturn {q : Option (Nat × Nat × Nat)} (h : decode (bc mi) pc = .ok (.areturn, 1)) (hw : w = w2) (hr : ∃ C, rt mi = some (.object C)) (hQ : Q (some (Sum.inr (Sum.inr q))) σ) : TT G w0 w w2 k rc mi pc ls [Sum.inr (Sum.inr q)] σ Q := by
  refine TT_ret (rv := some (Sum.inr (Sum.inr q))) hw hQ (fun p e R s m args below meth c H locs mc ms lsr ob0 ob hE => ?_)
  obtain ⟨cx, kk1, ss, rep, wσ, wst, wls, lh, fr, ag⟩ := hE
  obtain ⟨C, hr⟩ := hr
  refine ⟨fun v hv => by cases hv; exact wf_hd wst, fun k1 => ?_⟩
  have hlocks := cx.2.2.2.2.2.2
  cases q with
  | none => exact W.aret (v := .null) cx.1 cx.2.1 (cx.2.2.1.trans hr) (Or.inl ⟨C, rfl⟩) (Or.inl rfl) k1 fr.2.2.2 h hlocks
  | some q => exact W.aret (v := .ref (adr ob q.1 q.2.1 q.2.2)) cx.1 cx.2.1 (cx.2.2.1.trans hr) (Or.inl ⟨C, rfl⟩) (Or.inr ⟨_, rfl⟩) k1 fr.2.2.2 h hlocks
/-- a string constant -/
theorem S_ldcS {ix i : Nat} {tx : String} (h : decode (bc mi) pc = .ok (.ldc ix, 2)) (hi : i < 24) (ho : strO.getD i ("", 0, "") = (RN (own mi), ix, tx))
    (kk : TT G w0 w w2 k rc mi (pc + 2) ls (vr (1000 + i) 0 0 :: st) σ Q) : TT G w0 w w2 k rc mi pc ls st σ Q := by
  refine TT_read (fun p e R s m args below meth c H locs cells slots lsr ob0 ob Q' hE => ?_) kk
  obtain ⟨cx, kk1, ss, rep, wσ, wst, wls, lh, fr, ag⟩ := hE
  refine ⟨Or.inl ⟨by omega, Or.inl rfl, rfl⟩, wst, fun k1 => ?_⟩
  have hz := ss.2.2.2.2.2.1 i hi
  rw [ho] at hz
  refine va_ldcS cx.1 cx.2.1 cx.2.2.2.2.1 hz h ?_
  have e0 : adr ob (1000 + i) 0 0 = ob (1000 + i) := by unfold adr; simp
  rw [← e0]
  exact k1
theorem S_ldcwS {ix i : Nat} {tx : String} (h : decode (bc mi) pc = .ok (.ldc_w ix, 3)) (hi : i < 24) (ho : strO.getD i ("", 0, "") = (RN (own mi), ix, tx))
    (kk : TT G w0 w w2 k rc mi (pc + 3) ls (vr (1000 + i) 0 0 :: st) σ Q) : TT G w0 w w2 k rc mi pc ls st σ Q := by
  refine TT_read (fun p e R s m args below meth c H locs cells slots lsr ob0 ob Q' hE => ?_) kk
  obtain ⟨cx, kk1, ss, rep, wσ, wst, wls, lh, fr, ag⟩ := hE
  refine ⟨Or.inl ⟨by omega, Or.inl rfl, rfl⟩, wst, fun k1 => ?_⟩
  have hz := ss.2.2.2.2.2.1 i hi
  rw [ho] at hz
  refine va_ldcSw cx.1 cx.2.1 cx.2.2.2.2.1 hz h ?_
  have e0 : adr ob (1000 + i) 0 0 = ob (1000 + i) := by unfold adr; simp
  rw [← e0]
  exact k1
end HE2

/-! 9zl.open: the law's first steps: the street and the check come to be -/
theorem W_room {p : Program} {l : Launch} {e : Env} {R R' : Room} {s : State} {m : MethodId} {args : Array Value} {below : List Frame} {meth : Method} {c : Code} {H : Heap} {locs : List Loc} {cells slots : Nat} {Q : State → Prop} {g : JFrame} (h : R'.frames ≤ R.frames ∧ R'.cells ≤ R.cells ∧ R'.slots ≤ R.slots ∧ R'.locals ≤ R.locals) (k : W p l e R' s m args below meth c H locs cells slots Q g) : W p l e R s m args below meth c H locs cells slots Q g := by
  intro T hT X
  have hr : s.hasRoom e.platform R' = true := by
    have z := X.room
    unfold State.hasRoom at z ⊢
    simp only [Bool.and_eq_true, decide_eq_true_eq] at z ⊢
    obtain ⟨⟨⟨⟨z1, z2, z3, z4, z5, z6⟩, z7⟩, z8⟩, z9⟩ := z
    obtain ⟨h1, h2, h3, h4⟩ := h
    exact ⟨⟨⟨⟨by omega, by omega, by omega, by omega, by omega, z6⟩, by omega⟩, by omega⟩, z9⟩
  exact k T hT { X with room := hr }
section OPN
variable {G : Gl} {mi : Nat} {p : Program} {e : Env} {R : Room} {s : State} {m : MethodId} {args : Array Value} {below : List Frame} {meth : Method} {c' : Code} {H : Heap} {locs : List Loc} {cells slots : Nat} {Q : State → Prop}
theorem W_initL (hx : p.tables.exec = Jvm.exec) (hbc : c'.code = bc mi) (hown : s.vm.findClass (RN (own mi)) = some m.cls) (hts : ∀ w ∈ WT, w.before args s = true) (kk1 : KK G s) (kx : KX G s) {pc ix ix2 c y i1 i2 i3 i4 k mc ms : Nat} {IQ : Nat → Heap → Heap → Prop} (hw : mkW (own mi) ix ix2 c y i1 i2 i3 i4 = true)
    (hM : Met G.1 (yn y) (wsm y) (rmk k mc ms) (IPre G c) (IPg IQ) mc ms (fun q => G.2.2.1 ≤ q)) (hl : Cond.methodLink (RN (own mi)) ix2 (yn y) ∈ WT) (hK : k + 1 ≤ R.frames ∧ 64 * k + 64 ≤ R.locals) {a : Nat} (ha : G.2.2.1 ≤ a) (hsa : H.size = a + 1) (tb : t_OB a (G.2.1.1 c) (NF c) (G.2.1.2.1 c) H (dV c))
    (hlo : ∀ q ∈ locs, G.2.2.1 ≤ q.base) {ls : Array Slot} {rest : List Value} (hsz : ls.size = c'.maxLocals) (hr : (rest.map fun v => v.category).sum ≤ 8) (hd : decode (bc mi) pc = .ok (.invokespecial ix2, 3)) (hcells : cells + mc ≤ R.cells) (hslots : slots + ms ≤ R.slots)
    (kk : ∀ (H2 : Heap) (locs' : List Loc), IQ a H H2 → (∀ q ∈ locs', G.2.2.1 ≤ q.base) → W p G.1 e R s m args below meth c' H2 locs' (cells + mc) (slots + ms) Q (F0 m (pc + 3) ls rest)) :
    W p G.1 e R s m args below meth c' H locs cells slots Q (F0 m pc ls (.ref a :: rest)) := by
  unfold mkW at hw
  simp only [Bool.and_eq_true, decide_eq_true_eq] at hw
  obtain ⟨⟨⟨⟨⟨⟨w1, w2⟩, w3⟩, w4⟩, w5⟩, w6⟩, w7⟩ := hw
  have hy := okY_of (y := y) w6.1 w6.2.1
  obtain ⟨y1, y2, y3, y4, y5, y6, y7, y8⟩ := hy
  rw [w5.2.2.1] at y1
  have hWs : wsm y = Cond.code (yn y) (bc y) (nL y) none :: WT := by unfold wsm; rw [w5.2.2.1]
  intro T hT X
  obtain ⟨v, st₀, t, T', L, h0, X', hL, e1, e2, hq, go⟩ := va_runI (nL := c'.maxLocals) (cc := bc mi) (As := []) (rest := rest) (b := a) (g := F0 m pc ls (.ref a :: rest)) ⟨hx, hbc, rfl, hown, hts⟩ hM
    (cwI (maxL := nL y) (bytes := bc y) 0 hts (GoodIn_WT (wsm_in (okY_of (y := y) w6.1 w6.2.1))) hWs rfl rfl (by rw [y3]; exact hts _ y7) (hts _ hl) (hts _ (atW_in w4)) w5.2.1 ⟨y4, y5, by rw [y6, w5.2.2.2]⟩ ⟨hK.1, by show 8 + (nL y + 11) + 64 * k ≤ R.locals; omega⟩)
    ⟨IPre.blind, fun U hU hW => ⟨a, rfl, va_K.moved hW.alike kk1, kx.to hW, ha, by rw [hU]; exact hsa, by rw [hU]; exact tb⟩⟩ rfl rfl hsz rfl (by show 2 * 0 + (rest.map fun v => v.category).sum ≤ 8; omega) hd ⟨hcells, hslots⟩ T hT X
  obtain ⟨hv, b, hb, hiq⟩ := hq
  have hv2 : v = none := by cases hv; rfl
  have hb2 : a = b := by
    have := congrArg (fun z : Array Value => z[0]?) hb
    simpa using this
  subst hv2; subst hb2
  rw [h0] at hiq
  obtain ⟨t2, a1, b1⟩ := kk T'.heap (locs ++ L) (by rw [e1]; exact hiq) (fun q hq => by
    rcases List.mem_append.mp hq with h | h
    · exact hlo q h
    · exact hL q h) T' rfl X'
  exact ⟨t2, go t2 a1, b1⟩
end OPN
theorem mk248 : mkW 9 7 9 7 75 113 114 97 116 = true ∧ mkW 9 10 12 8 127 977 978 105 980 = true := by decide +kernel
theorem lk248 : Cond.methodLink (RN 9) 9 (yn 75) ∈ WT ∧ Cond.methodLink (RN 9) 12 (yn 127) ∈ WT := ⟨atW_in (i := 115) (by decide +kernel), atW_in (i := 979) (by decide +kernel)⟩
theorem d248 : (decode (bc 248) 0 = .ok (.new 7, 3) ∧ decode (bc 248) 3 = .ok (.dup, 1) ∧ decode (bc 248) 4 = .ok (.invokespecial 9, 3) ∧ decode (bc 248) 7 = .ok (.astore_n 1, 1)) ∧ (decode (bc 248) 8 = .ok (.new 10, 3) ∧ decode (bc 248) 11 = .ok (.dup, 1) ∧ decode (bc 248) 12 = .ok (.invokespecial 12, 3) ∧ decode (bc 248) 15 = .ok (.astore_n 2, 1)) ∧ decode (bc 248) 16 = .ok (.iconst 0, 1) ∧ decode (bc 248) 17 = .ok (.istore_n 3, 1) := by decide +kernel
theorem law_open {G : Gl} {p : Program} {e : Env} {s : State} {m : MethodId} {b : Nat} {below : List Frame} {meth : Method} {c : Code} {k mc ms : Nat} {Q : State → Prop} {ob : Nat → Nat} {lsr : Array Slot} (cx : Cx 248 p s m #[.ref b] meth c) (kk1 : KK G s) (kx : KX G s) (hbase : G.2.2.1 ≤ s.heap.size) (hmc : 428 ≤ mc) (hms : 65624 ≤ ms)
    (lh : LH (obF ob s.heap.size) [some (vr 999 0 0), none, none, none] lsr 4)
    (kk : ∀ (H3 : Heap) (locs : List Loc) (lsr' : Array Slot), Rep G w00 (obF ob s.heap.size) σ00 H3 → s.heap.size ≤ H3.size → (∀ q, q < s.heap.size → H3[q]? = s.heap[q]?) → (∀ q ∈ locs, G.2.2.1 ≤ q.base) → LH (obF ob s.heap.size) [some (vr 999 0 0), some (vr 0 0 0), some (vr 21 0 0), some (vi 0)] lsr' 4 → W p G.1 e (rmk (k + 4) mc ms) s m #[.ref b] below meth c H3 locs 428 65624 Q (F0 m 18 lsr' [])) :
    W p G.1 e (rmk (k + 4) mc ms) s m #[.ref b] below meth c s.heap [] 0 0 Q (F0 m 0 lsr []) := by
  obtain ⟨⟨d0, d3, d4, d7⟩, ⟨d8, d11, d12, d15⟩, d16, d17⟩ := d248
  have hts := cx.2.2.2.2.2.1
  have hml : c.maxLocals = 4 := cx.2.2.2.1
  have hsz := lh.1
  refine W_new (mi := 248) cx.1 cx.2.1 cx.2.2.2.2.1 hts kk1 mk248.1 d0 (by show 0 + 1 ≤ mc; omega) (by show 0 + 12 ≤ ms; omega) (fun H1 z1 o1 tb => ?_)
  refine lv_dup cx.1 cx.2.1 d3 rfl ?_
  refine W_initL (mi := 248) cx.1 cx.2.1 cx.2.2.2.2.1 hts kk1 kx mk248.1 (ci_75 (G := G) (k := k)) lk248.1 ⟨by show k + 3 + 1 ≤ k + 4; omega, by show 64 * (k + 3) + 64 ≤ 64 * (k + 4); omega⟩ hbase z1 tb (fun q hq => by cases hq) (by rw [hml]; exact hsz) (show (1 + 0 : Nat) ≤ 8 by decide) d4 (by show 0 + 1 + 361 ≤ mc; omega) (by show 0 + 12 + 3837 ≤ ms; omega) (fun H2 locs2 q1 hlo2 => ?_)
  refine lv_astore_n cx.1 cx.2.1 d7 rfl lh.has (by decide) rfl (fun l1 h1 => ?_)
  have lh1 := lh.st1 (v := vr 0 0 0) h1
  refine W_new (mi := 248) cx.1 cx.2.1 cx.2.2.2.2.1 hts kk1 mk248.2 d8 (by show 0 + 1 + 361 + 1 ≤ mc; omega) (by show 0 + 12 + 3837 + 78 ≤ ms; omega) (fun H3 z3 o3 tb3 => ?_)
  refine lv_dup cx.1 cx.2.1 d11 rfl ?_
  have s2 : H2.size = s.heap.size + 362 := q1.1
  rw [s2] at tb3 z3 o3 ⊢
  refine W_initL (mi := 248) cx.1 cx.2.1 cx.2.2.2.2.1 hts kk1 kx mk248.2 (ci_127 (G := G) (k := k)) lk248.2 ⟨by show k + 1 + 1 ≤ k + 4; omega, by show 64 * (k + 1) + 64 ≤ 64 * (k + 4); omega⟩ (by omega) z3 tb3 hlo2 (by rw [hml]; exact lh1.1) (show (1 + 0 : Nat) ≤ 8 by decide) d12 (by show 0 + 1 + 361 + 1 + 65 ≤ mc; omega) (by show 0 + 12 + 3837 + 78 + 61697 ≤ ms; omega) (fun H4 locs4 q4 hlo4 => ?_)
  refine lv_astore_n cx.1 cx.2.1 d15 rfl lh1.has (by decide) rfl (fun l2 h2 => ?_)
  have lh2 := lh1.st1 (v := vr 21 0 0) h2
  refine lv_iconst cx.1 cx.2.1 d16 rfl ?_
  refine lv_istore_n cx.1 cx.2.1 d17 rfl lh2.has (by decide) rfl (fun l3 h3 => ?_)
  have lh3 := lh2.st1 (v := vi 0) h3
  have q4' : IQm G (s.heap.size + 362) H2 H4 := ⟨q4.1, fun q hq => (q4.2.1 q hq).trans (o3 q hq), q4.2.2⟩
  refine kk H4 locs4 l3 (rep_first hbase q1 q4') (by have := q4.1; omega) (fun q hq => ?_) hlo4 lh3
  rw [q4'.2.1 q (by omega), q1.2.1 q hq, o1 q hq]

/-! 9u.make: a new object: 'new', and the call of its constructor -/
theorem tyD_of {c : Nat} {r : vw_C} (h : vwCl[c]? = some r) {k : Nat} {t : FieldType} (ht : parseFieldDescriptor (r.2.1 k).2.2.1 = some t) : tyD c k = t := by
  unfold tyD
  rw [h]
  show (parseFieldDescriptor (r.2.1 k).2.2.1).getD .int = t
  rw [ht]
  rfl
theorem IPre.blind {G : Gl} {c : Nat} : FrameBlind (IPre G c) := by
  intro a U g mk h
  obtain ⟨x, h1, h2, h3, h4, h5, h6⟩ := h
  exact ⟨x, h1, va_K.moved (u := U) (U := U.calling g mk a) (Vm.Alike.refl U.vm) h2, h3.calling g mk a, h4, h5, h6⟩
/-- what 'new' and the constructor's call ask of the words -/
def mkW (ow ix ix2 c y i1 i2 i3 i4 : Nat) : Bool := atW i1 (.classLink (RN ow) ix (RN c)) && atW i2 (.instantiable (RN c) (NF c)) && atW i3 (.initialized (RN c)) && atW i4 (.instanceMethod (yn y)) && decide (own y = c ∧ (yn y).name = "<init>" ∧ rt y = none ∧ nA y = 0) && decide (y < 250 ∧ y ≠ 248 ∧ c < 9) && (match vwCl[c]? with
  | some r => decide (r.1 = RN c)
  | none => false)
/-- a constructor's end, told by what it makes of the heap -/
def IPg (IQ : Nat → Heap → Heap → Prop) : Array Value → State → Outcome → State → Prop := fun args st oc t => oc = .returned none ∧ ∃ a : Nat, args = #[.ref a] ∧ IQ a st.heap t.heap
section MAK
variable {G : Gl} {mi : Nat} {p : Program} {e : Env} {R : Room} {s : State} {m : MethodId} {args : Array Value} {below : List Frame} {meth : Method} {c' : Code} {H : Heap} {locs : List Loc} {cells slots : Nat} {Q : State → Prop}
/-- 'new' and its answer: fields as they are at first -/
theorem W_new (hx : p.tables.exec = Jvm.exec) (hbc : c'.code = bc mi) (hown : s.vm.findClass (RN (own mi)) = some m.cls) (hts : ∀ w ∈ WT, w.before args s = true) (kk1 : KK G s) {pc ix ix2 c y i1 i2 i3 i4 : Nat} (hw : mkW (own mi) ix ix2 c y i1 i2 i3 i4 = true)
    (hd : decode (bc mi) pc = .ok (.new ix, 3)) (hcells : cells + 1 ≤ R.cells) (hslots : slots + NF c ≤ R.slots) {ls : Array Slot} {rest : List Value}
    (kk : ∀ H1 : Heap, H1.size = H.size + 1 → (∀ q, q < H.size → H1[q]? = H[q]?) → t_OB H.size (G.2.1.1 c) (NF c) (G.2.1.2.1 c) H1 (dV c) → W p G.1 e R s m args below meth c' H1 locs (cells + 1) (slots + NF c) Q (F0 m (pc + 3) ls (.ref H.size :: rest))) :
    W p G.1 e R s m args below meth c' H locs cells slots Q (F0 m pc ls rest) := by
  unfold mkW at hw
  simp only [Bool.and_eq_true, decide_eq_true_eq] at hw
  obtain ⟨⟨⟨⟨⟨⟨w1, w2⟩, w3⟩, w4⟩, w5⟩, w6⟩, w7⟩ := hw
  split at w7
  · rename_i r hr
    have w8 : r.1 = RN c := of_decide_eq_true w7
    obtain ⟨hin, hN, hnm, ty, hty⟩ := uX_of hr
    have hK := kk1.1 c r hr
    have hfc : s.vm.findClass (RN c) = some (G.2.1.1 c) := by rw [← w8]; exact hK.2.1
    refine W.newcK hx hbc hown (hts _ (atW_in w1)) (hts _ (atW_in w2)) (hts _ (atW_in w3)) rfl hd hcells hslots hfc rfl (fun H1 kC hkC e1 z1 o1 => ?_)
    have tb := u_born ty hts hin hK hkC e1 hty
    rw [hN] at tb
    exact kk H1 z1 o1 (tb.to (fun k hk => by unfold dV; rw [tyD_of hr (hty k (by omega))]))
  · cases w7
/-- its constructor's call -/
theorem W_init (hx : p.tables.exec = Jvm.exec) (hbc : c'.code = bc mi) (hown : s.vm.findClass (RN (own mi)) = some m.cls) (hts : ∀ w ∈ WT, w.before args s = true) (kk1 : KK G s) (kx : KX G s) {pc ix ix2 c y i1 i2 i3 i4 k mc ms : Nat} {IQ : Nat → Heap → Heap → Prop} (hw : mkW (own mi) ix ix2 c y i1 i2 i3 i4 = true)
    (hM : Met G.1 (yn y) (wsm y) (rmk k mc ms) (IPre G c) (IPg IQ) mc ms (fun q => G.2.2.1 ≤ q)) (hl : (RN (own mi), ix2, yn y) ∈ nstL) (hK : k + 1 ≤ R.frames ∧ 64 * k + 64 ≤ R.locals) {a : Nat} (ha : G.2.2.1 ≤ a) (hsa : H.size = a + 1) (tb : t_OB a (G.2.1.1 c) (NF c) (G.2.1.2.1 c) H (dV c))
    (hlo : ∀ q ∈ locs, G.2.2.1 ≤ q.base) {ls : Array Slot} {rest : List Value} (hsz : ls.size = c'.maxLocals) (hr : (rest.map fun v => v.category).sum ≤ 8) (hd : decode (bc mi) pc = .ok (.invokespecial ix2, 3)) (hcells : cells + mc ≤ R.cells) (hslots : slots + ms ≤ R.slots)
    (kk : ∀ (H2 : Heap) (locs' : List Loc), IQ a H H2 → (∀ q ∈ locs', G.2.2.1 ≤ q.base) → W p G.1 e R s m args below meth c' H2 locs' (cells + mc) (slots + ms) Q (F0 m (pc + 3) ls rest)) :
    W p G.1 e R s m args below meth c' H locs cells slots Q (F0 m pc ls (.ref a :: rest)) := by
  unfold mkW at hw
  simp only [Bool.and_eq_true, decide_eq_true_eq] at hw
  obtain ⟨⟨⟨⟨⟨⟨w1, w2⟩, w3⟩, w4⟩, w5⟩, w6⟩, w7⟩ := hw
  have hy := okY_of (y := y) w6.1 w6.2.1
  obtain ⟨y1, y2, y3, y4, y5, y6, y7, y8⟩ := hy
  rw [w5.2.2.1] at y1
  have hWs : wsm y = Cond.code (yn y) (bc y) (nL y) none :: WT := by unfold wsm; rw [w5.2.2.1]
  intro T hT X
  obtain ⟨v, st₀, t, T', L, h0, X', hL, e1, e2, hq, go⟩ := va_runIN (nL := c'.maxLocals) (cc := bc mi) (As := []) (rest := rest) (b := a) (g := F0 m pc ls (.ref a :: rest)) ⟨hx, hbc, rfl, hown, hts⟩ hM
    ⟨va_cnB (host := "DarkStreet") (maxL := nL y) (bytes := bc y) 0 hts (GoodIn_WT (wsm_in (okY_of (y := y) w6.1 w6.2.1))) hWs rfl rfl (kx.2.1 _ hl) (by rw [y3]; exact hts _ y7) ⟨y4, y5, by rw [y6, w5.2.2.2]⟩ ⟨hK.1, by show 8 + (nL y + 11) + 64 * k ≤ R.locals; omega⟩, w5.2.1, hts _ (atW_in w4)⟩
    ⟨IPre.blind, fun U hU hW => ⟨a, rfl, va_K.moved hW.alike kk1, kx.to hW, ha, by rw [hU]; exact hsa, by rw [hU]; exact tb⟩⟩ rfl rfl hsz rfl (by show 2 * 0 + (rest.map fun v => v.category).sum ≤ 8; omega) hd ⟨hcells, hslots⟩ T hT X
  obtain ⟨hv, b, hb, hiq⟩ := hq
  have hv2 : v = none := by cases hv; rfl
  have hb2 : a = b := by
    have := congrArg (fun z : Array Value => z[0]?) hb
    simpa using this
  subst hv2; subst hb2
  rw [h0] at hiq
  obtain ⟨t2, a1, b1⟩ := kk T'.heap (locs ++ L) (by rw [e1]; exact hiq) (fun q hq => by
    rcases List.mem_append.mp hq with h | h
    · exact hlo q h
    · exact hL q h) T' rfl X'
  exact ⟨t2, go t2 a1, b1⟩
/-- new C(); dup; its constructor -/
theorem W_make (hx : p.tables.exec = Jvm.exec) (hbc : c'.code = bc mi) (hown : s.vm.findClass (RN (own mi)) = some m.cls) (hts : ∀ w ∈ WT, w.before args s = true) (kk1 : KK G s) (kx : KX G s) {pc ix ix2 c y i1 i2 i3 i4 k mc ms : Nat} {IQ : Nat → Heap → Heap → Prop} (hw : mkW (own mi) ix ix2 c y i1 i2 i3 i4 = true)
    (hM : Met G.1 (yn y) (wsm y) (rmk k mc ms) (IPre G c) (IPg IQ) mc ms (fun q => G.2.2.1 ≤ q)) (hl : (RN (own mi), ix2, yn y) ∈ nstL) (hK : k + 1 ≤ R.frames ∧ 64 * k + 64 ≤ R.locals) (ha : G.2.2.1 ≤ H.size)
    (hlo : ∀ q ∈ locs, G.2.2.1 ≤ q.base) {ls : Array Slot} {rest : List Value} (hsz : ls.size = c'.maxLocals) (hr : (rest.map fun v => v.category).sum ≤ 7) (hd : decode (bc mi) pc = .ok (.new ix, 3) ∧ decode (bc mi) (pc + 3) = .ok (.dup, 1) ∧ decode (bc mi) (pc + 4) = .ok (.invokespecial ix2, 3)) (hcells : cells + 1 + mc ≤ R.cells) (hslots : slots + NF c + ms ≤ R.slots)
    (kk : ∀ (H1 H2 : Heap) (locs' : List Loc), H1.size = H.size + 1 → (∀ q, q < H.size → H1[q]? = H[q]?) → IQ H.size H1 H2 → (∀ q ∈ locs', G.2.2.1 ≤ q.base) → W p G.1 e R s m args below meth c' H2 locs' (cells + 1 + mc) (slots + NF c + ms) Q (F0 m (pc + 7) ls (.ref H.size :: rest))) :
    W p G.1 e R s m args below meth c' H locs cells slots Q (F0 m pc ls rest) := by
  refine W_new hx hbc hown hts kk1 hw hd.1 (by omega) (by omega) (fun H1 z1 o1 tb => ?_)
  refine lv_dup hx hbc hd.2.1 rfl ?_
  refine W_init hx hbc hown hts kk1 kx hw hM hl hK ha z1 tb hlo hsz (by show (1 + (rest.map fun v => v.category).sum : Nat) ≤ 8; omega) hd.2.2 hcells hslots (fun H2 locs' hq hlo' => ?_)
  exact kk H1 H2 locs' z1 o1 hq hlo'
end MAK

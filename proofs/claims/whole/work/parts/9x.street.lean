/-! 9x.street: a new street: its towns, rows, reader and helpers, one after another -/
def KpH (a n : Nat) (P : Heap → Prop) : Prop := ∀ H H' : Heap, (∀ q, a < q → q < a + n → H'[q]? = H[q]?) → P H → P H'
/-- n cells of the street at a stand: itself with the fields V, and what P says of the others -/
def STr (G : Gl) (a n : Nat) (V : Nat → Value) (P : Heap → Prop) (H0 H : Heap) : Prop := H.size = a + n ∧ (∀ q, q < a → H[q]? = H0[q]?) ∧ t_OB a (G.2.1.1 7) (NF 7) (G.2.1.2.1 7) H V ∧ P H ∧ KpH a n P
theorem KpH.and {a n n' : Nat} {P D : Heap → Prop} (h : KpH a n P) (hn : 1 ≤ n) (hd : ∀ H H' : Heap, (∀ q, a + n ≤ q → q < a + (n + n') → H'[q]? = H[q]?) → D H → D H') : KpH a (n + n') (fun H => P H ∧ D H) :=
  fun H H' hq z => ⟨h H H' (fun q h1 h2 => hq q h1 (by omega)) z.1, hd H H' (fun q h1 h2 => hq q (by omega) h2) z.2⟩
section STT
variable {G : Gl} {p : Program} {e : Env} {R : Room} {s : State} {m : MethodId} {args : Array Value} {below : List Frame} {meth : Method} {c' : Code} {H : Heap} {locs : List Loc} {cells slots : Nat} {Q : State → Prop}
theorem D_make (B : CB G 75 p s m args meth c') {a n : Nat} {V : Nat → Value} {P : Heap → Prop} {H0 : Heap} (X : STr G a n V P H0 H) (hn : 1 ≤ n) (ha : G.2.2.1 ≤ a) {ls : Array Slot} (hl0 : ls[0]? = some (.val (.ref a))) (hsz : ls.size = c'.maxLocals) (hlo : ∀ q ∈ locs, G.2.2.1 ≤ q.base)
    {pc ix ix2 ix3 kf c y i1 i2 i3 i4 k mc ms nb : Nat} {C : String} {IQ : Nat → Heap → Heap → Prop} {D : Nat → Heap → Prop} (hw : mkW 7 ix ix2 c y i1 i2 i3 i4 = true)
    (hM : Met G.1 (yn y) (wsm y) (rmk k mc ms) (IPre G c) (IPg IQ) mc ms (fun q => G.2.2.1 ≤ q)) (hl : (RN 7, ix2, yn y) ∈ nstL) (hK : k + 1 ≤ R.frames ∧ 64 * k + 64 ≤ R.locals)
    (hI : ∀ b H H', IQ b H H' → H'.size = b + nb ∧ (∀ q, q < b → H'[q]? = H[q]?) ∧ D b H') (hD : ∀ (b : Nat) (H H' : Heap), (∀ q, b ≤ q → q < b + nb → H'[q]? = H[q]?) → D b H → D b H')
    (hf : hasF 7 ix3 7 kf = true) (hb : fldB 7 kf (.object C) = true)
    (hd : decode (bc 75) pc = .ok (.aload_n 0, 1) ∧ decode (bc 75) (pc + 1) = .ok (.new ix, 3) ∧ decode (bc 75) (pc + 4) = .ok (.dup, 1) ∧ decode (bc 75) (pc + 5) = .ok (.invokespecial ix2, 3) ∧ decode (bc 75) (pc + 8) = .ok (.putfield ix3, 3))
    (hcells : cells + 1 + mc ≤ R.cells) (hslots : slots + NF c + ms ≤ R.slots)
    (kk : ∀ (H' : Heap) (locs' : List Loc), STr G a (n + nb) (updV V kf (.ref (a + n))) (fun H => P H ∧ D (a + n) H) H0 H' → (∀ q ∈ locs', G.2.2.1 ≤ q.base) → W p G.1 e R s m args below meth c' H' locs' (cells + 1 + mc) (slots + NF c + ms) Q (F0 m (pc + 11) ls [])) :
    W p G.1 e R s m args below meth c' H locs cells slots Q (F0 m pc ls []) := by
  have B' := B
  obtain ⟨hx, hbc, hown, hts, hin0, kk1, kx⟩ := B
  obtain ⟨x1, x2, x3, x4, x5⟩ := X
  obtain ⟨d1, d2, d3, d4, d5⟩ := hd
  refine lv_aload_n hx hbc d1 rfl hl0 ?_
  refine W_make (mi := 75) hx hbc hown hts kk1 kx hw hM hl hK (by omega) hlo hsz (show (1 + 0 : Nat) ≤ 7 by decide) ⟨d2, d3, d4⟩ hcells hslots (fun H1 H2 locs' z1 z2 z3 hlo' => ?_)
  obtain ⟨i1, i2, i3⟩ := hI _ _ _ z3
  rw [x1] at i1 i2 i3 z1 z2 ⊢
  have e1 : H2[a]? = H[a]? := (i2 a (by omega)).trans (z2 a (by omega))
  refine W_put B' hf (by decide) rfl (fldB_of hb) rfl rfl (x3.kept e1) d5 (fun H5 j5 w1 w2 w3 => ?_)
  refine kk H5 _ ⟨by omega, fun q hq => ?_, w1, ⟨?_, ?_⟩, x5.and hn (fun H H' hq => hD (a + n) H H' (fun q h1 h2 => hq q h1 (by omega)))⟩ (fun q hq => ?_)
  · rw [w3 q (by omega), i2 q (by omega), z2 q (by omega)]; exact x2 q hq
  · exact x5 H H5 (fun q h1 h2 => by rw [w3 q (by omega), i2 q (by omega), z2 q (by omega)]) x4
  · exact hD (a + n) H2 H5 (fun q h1 h2 => w3 q (by omega)) i3
  · rcases List.mem_append.mp hq with h | h
    · exact hlo' q h
    · rw [List.mem_singleton.mp h]; exact ha
/-- a row is set into a field -/
theorem D_put (B : CB G 75 p s m args meth c') {a n : Nat} {V : Nat → Value} {P : Heap → Prop} {H0 : Heap} (X : STr G a n V P H0 H) (hn : 1 ≤ n) (ha : G.2.2.1 ≤ a) {H1 : Heap} {cel : Cell} (g1 : H1[a + n]? = some cel) (g2 : H1.size = a + n + 1) (g3 : ∀ q : Nat, q < a + n → H1[q]? = H[q]?) {ls : Array Slot} (hlo : ∀ q ∈ locs, G.2.2.1 ≤ q.base)
    {pc ix3 kf : Nat} {ty : FieldType} (hf : hasF 7 ix3 7 kf = true) (hb : fldB 7 kf (.array ty) = true) (hd : decode (bc 75) pc = .ok (.putfield ix3, 3))
    (kk : ∀ (H' : Heap) (locs' : List Loc), STr G a (n + 1) (updV V kf (.ref (a + n))) (fun H => P H ∧ H[a + n]? = some cel) H0 H' → (∀ q ∈ locs', G.2.2.1 ≤ q.base) → W p G.1 e R s m args below meth c' H' locs' cells slots Q (F0 m (pc + 3) ls [])) :
    W p G.1 e R s m args below meth c' H1 locs cells slots Q (F0 m pc ls [.ref (a + n), .ref a]) := by
  obtain ⟨x1, x2, x3, x4, x5⟩ := X
  refine W_put B hf (by decide) rfl (fldB_of hb) rfl rfl (x3.kept (g3 a (by omega))) hd (fun H5 j5 w1 w2 w3 => ?_)
  refine kk H5 _ ⟨by omega, fun q hq => ?_, w1, ⟨?_, ?_⟩, x5.and hn (fun H H' hq z => (hq (a + n) (Nat.le_refl _) (by omega)).trans z)⟩ (fun q hq => ?_)
  · rw [w3 q (by omega), g3 q (by omega)]; exact x2 q hq
  · exact x5 H H5 (fun q h1 h2 => by rw [w3 q (by omega), g3 q (by omega)]) x4
  · rw [w3 _ (by omega)]; exact g1
  · rcases List.mem_append.mp hq with h | h
    · exact hlo q h
    · rw [List.mem_singleton.mp h]; exact ha
end STT

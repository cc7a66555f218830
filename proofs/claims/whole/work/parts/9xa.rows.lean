/-! 9xa.rows: a street's rows of objects, and its tape -/
section SRW
variable {G : Gl} {p : Program} {e : Env} {R : Room} {s : State} {m : MethodId} {args : Array Value} {below : List Frame} {meth : Method} {c' : Code} {H : Heap} {locs : List Loc} {cells slots : Nat} {Q : State → Prop}
theorem D_anew (B : CB G 75 p s m args meth c') {a n : Nat} {V : Nat → Value} {P : Heap → Prop} {H0 : Heap} (X : STr G a n V P H0 H) (hn : 1 ≤ n) (ha : G.2.2.1 ≤ a) {ls : Array Slot} (hl0 : ls[0]? = some (.val (.ref a))) (hlo : ∀ q ∈ locs, G.2.2.1 ≤ q.base)
    {pc pc2 ix ix3 kf N i1 t : Nat} {pk : Nat × Nat} {C : String} (hw : atW i1 (.classLink (RN 7) ix C) = true) (hao : va_AO C s) (ht : (TYS G)[t]? = some (G.2.1.2.2 t, .object C)) (hN : pushOK 75 (pc + 1) pk N = true) (hN2 : N ≤ 1000) (hpc : pc + 1 + pl pk = pc2)
    (hf : hasF 7 ix3 7 kf = true) (hb : fldB 7 kf (.array (.object C)) = true)
    (hd : decode (bc 75) pc = .ok (.aload_n 0, 1) ∧ decode (bc 75) pc2 = .ok (.anewarray ix, 3) ∧ decode (bc 75) (pc2 + 3) = .ok (.putfield ix3, 3))
    (hcells : cells + 1 ≤ R.cells) (hslots : slots + N ≤ R.slots)
    (kk : ∀ (H' : Heap) (locs' : List Loc), STr G a (n + 1) (updV V kf (.ref (a + n))) (fun H => P H ∧ H[a + n]? = some (arrV (G.2.1.2.2 t) N (fun _ => .null))) H0 H' → (∀ q ∈ locs', G.2.2.1 ≤ q.base) → W p G.1 e R s m args below meth c' H' locs' (cells + 1) (slots + N) Q (F0 m (pc2 + 6) ls [])) :
    W p G.1 e R s m args below meth c' H locs cells slots Q (F0 m pc ls []) := by
  have B' := B
  obtain ⟨hx, hbc, hown, hts, hin0, kk1, kx⟩ := B
  obtain ⟨d1, d2, d3⟩ := hd
  have x1 := X.1
  refine lv_aload_n hx hbc d1 rfl hl0 ?_
  refine B_push B' hN ?_
  rw [hpc]
  have eN : (Int32.ofInt ((N : Nat) : Int)).toNatClampNeg = N := by
    rw [Int32.toNatClampNeg, Int32.toInt_ofInt_of_le (by omega) (by omega)]
    exact Int.toNat_natCast N
  have n0 : ¬ Int32.ofInt ((N : Nat) : Int) < 0 := by
    rw [Int32.lt_iff_toInt_lt, Int32.toInt_ofInt_of_le (by omega) (by omega)]
    show ¬ ((N : Nat) : Int) < 0
    omega
  refine W.anew hx hbc hown (hts _ (atW_in hw)) (va_AO.use hao) rfl d2 rfl n0 (by rw [eN]; omega) hcells (by rw [eN]; exact hslots) (fun cA kA comp f1 f2 f3 f4 => ?_)
  obtain ⟨_, _, _, _, _, f5⟩ := (kk1.2 t _ ht).2
  have ecA : cA = G.2.1.2.2 t := Option.some.inj (f1.symm.trans f5)
  rw [eN, arrV_new, ecA]
  show W p G.1 e R s m args below meth c' (H.push (arrV (G.2.1.2.2 t) N (fun _ => Value.null))) locs (cells + 1) (slots + N) Q (F0 m (pc2 + 3) ls [.ref H.size, .ref a])
  rw [x1]
  exact D_put B' X hn ha (by rw [← x1]; simp) (by rw [Array.size_push, x1]) (fun q hq => by rw [Array.getElem?_push, if_neg (by omega)]) hlo hf hb d3 kk
theorem D_tape (B : CB G 75 p s m args meth c') {a n : Nat} {V : Nat → Value} {P : Heap → Prop} {H0 : Heap} (X : STr G a n V P H0 H) (hn : 1 ≤ n) (ha : G.2.2.1 ≤ a) {ls : Array Slot} (hl0 : ls[0]? = some (.val (.ref a))) (hlo : ∀ q ∈ locs, G.2.2.1 ≤ q.base)
    {pc pc2 ix3 kf N : Nat} {pk : Nat × Nat} (hN : pushOK 75 (pc + 1) pk N = true) (hN2 : N ≤ 1000) (hpc : pc + 1 + pl pk = pc2)
    (hf : hasF 7 ix3 7 kf = true) (hb : fldB 7 kf (.array .int) = true)
    (hd : decode (bc 75) pc = .ok (.aload_n 0, 1) ∧ decode (bc 75) pc2 = .ok (.newarray .int, 2) ∧ decode (bc 75) (pc2 + 2) = .ok (.putfield ix3, 3))
    (hcells : cells + 1 ≤ R.cells) (hslots : slots + N ≤ R.slots)
    (kk : ∀ (H' : Heap) (locs' : List Loc), STr G a (n + 1) (updV V kf (.ref (a + n))) (fun H => P H ∧ H[a + n]? = some (arrV (G.2.1.2.2 0) N (fun _ => .int 0))) H0 H' → (∀ q ∈ locs', G.2.2.1 ≤ q.base) → W p G.1 e R s m args below meth c' H' locs' (cells + 1) (slots + N) Q (F0 m (pc2 + 5) ls [])) :
    W p G.1 e R s m args below meth c' H locs cells slots Q (F0 m pc ls []) := by
  have B' := B
  obtain ⟨hx, hbc, hown, hts, hin0, kk1, kx⟩ := B
  obtain ⟨d1, d2, d3⟩ := hd
  have x1 := X.1
  refine lv_aload_n hx hbc d1 rfl hl0 ?_
  refine B_push B' hN ?_
  rw [hpc]
  have eN : (Int32.ofInt ((N : Nat) : Int)).toNatClampNeg = N := by
    rw [Int32.toNatClampNeg, Int32.toInt_ofInt_of_le (by omega) (by omega)]
    exact Int.toNat_natCast N
  have n0 : ¬ Int32.ofInt ((N : Nat) : Int) < 0 := by
    rw [Int32.lt_iff_toInt_lt, Int32.toInt_ofInt_of_le (by omega) (by omega)]
    show ¬ ((N : Nat) : Int) < 0
    omega
  obtain ⟨fc, aw⟩ := kind_ty kk1 (kd := 10) ⟨by decide, by decide⟩
  refine va_newaK hx hbc (hts _ aw) rfl d2 rfl n0 eN (by show N * 4 ≤ 536870912; omega) hcells hslots x1 (fun H1 cA g1 g2 g3 _ g5 => ?_)
  have ecA : cA = G.2.1.2.2 0 := Option.some.inj (g5.symm.trans fc)
  rw [ecA] at g1
  exact D_put B' X hn ha g1 g2 g3 hlo hf hb d3 kk
end SRW

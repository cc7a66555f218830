/-! 9q.rows: a constructor's groups: a row, a row of rows, a number -/
def pl (pk : Nat × Nat) : Nat := if pk.1 = 1 then 1 else if pk.1 = 3 then 3 else 2
/-- the number n is put on the stack at pc: by iconst, bipush, sipush or ldc -/
def pushOK (mi pc : Nat) (pk : Nat × Nat) (n : Int) : Bool :=
  if pk.1 = 1 then decide (decode (bc mi) pc = .ok (.iconst n, 1))
  else if pk.1 = 2 then decide (decode (bc mi) pc = .ok (.bipush n, 2)) && decide (-128 ≤ n ∧ n ≤ 127)
  else if pk.1 = 3 then decide (decode (bc mi) pc = .ok (.sipush n, 3)) && decide (-32768 ≤ n ∧ n ≤ 32767)
  else decide (decode (bc mi) pc = .ok (.ldc pk.2, 2)) && hasK (own mi) pk.2 0 n
def atc (kd : Nat) : ArrayType := if kd = 10 then .int else if kd = 11 then .long else if kd = 12 then .boolean else .byte
theorem aw_in : Cond.arrayClass .int ∈ WT ∧ Cond.arrayClass .long ∈ WT ∧ Cond.arrayClass .boolean ∈ WT ∧ Cond.arrayClass .byte ∈ WT :=
  ⟨atW_in (i := 228) (by decide +kernel), atW_in (i := 229) (by decide +kernel), atW_in (i := 374) (by decide +kernel), atW_in (i := 629) (by decide +kernel)⟩
def fldB (c k : Nat) (ty : FieldType) : Bool := match vwCl[c]? with
  | some r => decide (parseFieldDescriptor (r.2.1 k).2.2.1 = some ty)
  | none => false
theorem fldB_of {c k : Nat} {ty : FieldType} (h : fldB c k ty = true) : ∃ r, vwCl[c]? = some r ∧ parseFieldDescriptor (r.2.1 k).2.2.1 = some ty := by
  unfold fldB at h
  split at h
  · rename_i r hr
    exact ⟨r, hr, of_decide_eq_true h⟩
  · cases h
section BRW
variable {G : Gl} {mi : Nat} {p : Program} {e : Env} {R : Room} {s : State} {m : MethodId} {args : Array Value} {below : List Frame} {meth : Method} {c' : Code} {H : Heap} {locs : List Loc} {cells slots : Nat} {Q : State → Prop}
theorem B_push (B : CB G mi p s m args meth c') {pc : Nat} {pk : Nat × Nat} {n : Int} (h : pushOK mi pc pk n = true) {ls : Array Slot} {rest : List Value} (k : W p G.1 e R s m args below meth c' H locs cells slots Q (F0 m (pc + pl pk) ls (.int (Int32.ofInt n) :: rest))) :
    W p G.1 e R s m args below meth c' H locs cells slots Q (F0 m pc ls rest) := by
  obtain ⟨hx, hbc, hown, hts, hin0, kk1, ko⟩ := B
  unfold pushOK at h
  unfold pl at k
  by_cases p1 : pk.1 = 1
  · rw [if_pos p1] at h k
    exact lv_iconst hx hbc (of_decide_eq_true h) rfl k
  · rw [if_neg p1] at h k
    by_cases p2 : pk.1 = 2
    · rw [if_pos p2] at h
      rw [if_neg (by omega)] at k
      simp only [Bool.and_eq_true, decide_eq_true_eq] at h
      exact lv_bipush hx hbc h.1 (i8_of h.2.1 h.2.2) k
    · rw [if_neg p2] at h
      by_cases p3 : pk.1 = 3
      · rw [if_pos p3] at h k
        simp only [Bool.and_eq_true, decide_eq_true_eq] at h
        exact lv_sipush hx hbc h.1 (i16_of h.2.1 h.2.2) k
      · rw [if_neg p3] at h k
        simp only [Bool.and_eq_true, decide_eq_true_eq] at h
        exact lv_ldc hx hbc hown (hts _ (okK_of h.2).1) h.1 k
/-- the types of rows, by their kind -/
theorem kind_ty (kk1 : KK G s) {kd : Nat} (h : 10 ≤ kd ∧ kd ≤ 13) : s.vm.findClass ("[" ++ (newarray.typeOf (atc kd)).toString) = some (G.2.1.2.2 (kd - 10)) ∧ Cond.arrayClass (newarray.typeOf (atc kd)) ∈ WT := by
  have z : kd = 10 ∨ kd = 11 ∨ kd = 12 ∨ kd = 13 := by omega
  rcases z with rfl | rfl | rfl | rfl
  · exact ⟨(kk1.2 0 _ rfl).2, aw_in.1⟩
  · exact ⟨(kk1.2 1 _ rfl).2, aw_in.2.1⟩
  · exact ⟨(kk1.2 2 _ rfl).2, aw_in.2.2.1⟩
  · exact ⟨(kk1.2 3 _ rfl).2, aw_in.2.2.2⟩
theorem kind_df {kd : Nat} (h : 10 ≤ kd ∧ kd ≤ 13) (b j : Nat) : defaultValue (newarray.typeOf (atc kd)) = zel (kd, 0) b j := by
  have z : kd = 10 ∨ kd = 11 ∨ kd = 12 ∨ kd = 13 := by omega
  rcases z with rfl | rfl | rfl | rfl <;> rfl
/-- what is asked of a row's group at pc: field k gets N zeros -/
def okR (mi c pc : Nat) (pk : Nat × Nat) (N k ix : Nat) : Bool :=
  decide (decode (bc mi) pc = .ok (.aload_n 0, 1)) && pushOK mi (pc + 1) pk N && decide (decode (bc mi) (pc + 1 + pl pk) = .ok (.newarray (atc (lay c k).1), 2)) && decide (decode (bc mi) (pc + 1 + pl pk + 2) = .ok (.putfield ix, 3)) && hasF (own mi) ix c k &&
  decide (10 ≤ (lay c k).1 ∧ (lay c k).1 ≤ 13 ∧ (lay c k).2.1 = N ∧ N ≤ 60000000 ∧ k < NF c) && fldB c k (.array (newarray.typeOf (atc (lay c k).1)))
theorem B_row (B : CB G mi p s m args meth c') {c a n pc : Nat} {pk : Nat × Nat} {N k ix : Nat} (hc9 : c < 9) (ho : own mi = c) (hg : okR mi c pc pk N k ix = true) {V : Nat → Value} {H0 : Heap} (X : BE G c a n V H0 H) (hn : (lay c k).2.2.2 = n) (hn1 : 1 ≤ n) {ls : Array Slot} (hl : ls[0]? = some (.val (.ref a)))
    (hcells : cells + 1 ≤ R.cells) (hslots : slots + N ≤ R.slots)
    (kk : ∀ (H' : Heap) (j : Nat), BE G c a (n + 1) (updV V k (.ref (a + n))) H0 H' → W p G.1 e R s m args below meth c' H' (locs ++ [⟨a, j⟩]) (cells + 1) (slots + N) Q (F0 m (pc + 1 + pl pk + 5) ls [])) :
    W p G.1 e R s m args below meth c' H locs cells slots Q (F0 m pc ls []) := by
  unfold okR at hg
  simp only [Bool.and_eq_true, decide_eq_true_eq] at hg
  obtain ⟨⟨⟨⟨⟨⟨h1, h2⟩, h3⟩, h4⟩, h5⟩, h6⟩, h7⟩ := hg
  have B' := B
  obtain ⟨hx, hbc, hown, hts, hin0, kk1, ko⟩ := B
  obtain ⟨x1, x2, x3, x4⟩ := X
  obtain ⟨fc, aw⟩ := kind_ty kk1 (kd := (lay c k).1) ⟨h6.1, h6.2.1⟩
  refine lv_aload_n hx hbc h1 rfl hl ?_
  refine B_push B' h2 ?_
  have eN : (Int32.ofInt ((N : Nat) : Int)).toNatClampNeg = N := by
    rw [Int32.toNatClampNeg, Int32.toInt_ofInt_of_le (by omega) (by omega)]
    exact Int.toNat_natCast N
  have n0 : ¬ Int32.ofInt ((N : Nat) : Int) < 0 := by
    rw [Int32.lt_iff_toInt_lt, Int32.toInt_ofInt_of_le (by omega) (by omega)]
    show ¬ ((N : Nat) : Int) < 0
    omega
  refine va_newaK hx hbc (hts _ aw) rfl h3 rfl n0 eN ?_ hcells hslots x1 (fun H1 cA g1 g2 g3 _ g5 => ?_)
  · have z : (lay c k).1 = 10 ∨ (lay c k).1 = 11 ∨ (lay c k).1 = 12 ∨ (lay c k).1 = 13 := by omega
    rcases z with z | z | z | z <;> rw [z]
    · show N * 4 ≤ 536870912; omega
    · show N * 8 ≤ 536870912; omega
    · show N * 1 ≤ 536870912; omega
    · show N * 1 ≤ 536870912; omega
  have ecA : cA = G.2.1.2.2 ((lay c k).1 - 10) := Option.some.inj (g5.symm.trans fc)
  have lt20 : (lay c k).1 < 20 := by omega
  have ea : akk (lay c k) 0 = ((lay c k).1, N) := by unfold akk; rw [if_pos lt20, h6.2.2.1]
  have cel : celG G c a k 0 = arrV cA N (fun _ => defaultValue (newarray.typeOf (atc (lay c k).1))) := by
    unfold celG
    rw [ea, ecA, show acd (lay c k) 0 = (lay c k).1 - 10 by unfold acd; rw [if_pos (by omega)]]
    refine arr_ext (fun j _ => ?_)
    rw [kind_df ⟨h6.1, h6.2.1⟩ (a + (lay c k).2.2.2) j]
    unfold zel
    rfl
  obtain ⟨cell, q1, q2, q3, q4⟩ := x3
  have alt : a < a + n := by omega
  refine W_put B' h5 hc9 ho (fldB_of h7) rfl rfl ⟨cell, (g3 a alt).trans q1, q2, q3, q4⟩ h4 (fun H2 j y1 y2 y3 => ?_)
  refine kk H2 j ⟨by rw [y2, g2]; omega, fun q hq => by rw [y3 q (by omega), g3 q (by omega)]; exact x2 q hq, y1, fun k' r hk' hr hlt => ?_⟩
  have pos := lay_pos c hc9 k' hk' (arow_lt hr).2
  rw [y3 _ (by omega)]
  by_cases z : (lay c k').2.2.2 + r < n
  · rw [g3 _ (by omega)]
    exact x4 k' r hk' hr z
  · have ar0 : arow (lay c k) 0 := ⟨h6.1, by omega, fun _ => rfl, fun h => by omega⟩
    obtain ⟨e1, e2⟩ := arow_inj hc9 hk' h6.2.2.2.2 hr ar0 (by omega)
    subst e1 e2
    rw [show (lay c k').2.2.2 + 0 = n by omega, g1, cel]
end BRW

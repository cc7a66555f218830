/-! 9r.group: rows of rows, numbers; a constructor's groups one behind another -/
/-- the class link of new T[n][k] -/
def clk (c ix kd : Nat) : Bool := (c == 4 && ix == 15 && kd == 20) || (c == 4 && ix == 47 && kd == 21) || (c == 5 && ix == 9 && kd == 20)
def el2 (kd : Nat) : FieldType := if kd = 20 then .int else .long
theorem clk_of {c ix kd : Nat} (h : clk c ix kd = true) : Cond.classLink (RN c) ix ("[" ++ (FieldType.array (el2 kd)).toString) ∈ WT := by
  unfold clk at h
  simp only [Bool.or_eq_true, Bool.and_eq_true, beq_iff_eq] at h
  rcases h with (⟨⟨rfl, rfl⟩, rfl⟩ | ⟨⟨rfl, rfl⟩, rfl⟩) | ⟨⟨rfl, rfl⟩, rfl⟩
  · exact atW_in (i := 127) (by decide +kernel)
  · exact atW_in (i := 129) (by decide +kernel)
  · exact atW_in (i := 341) (by decide +kernel)
section BGR
variable {G : Gl} {mi : Nat} {p : Program} {e : Env} {R : Room} {s : State} {m : MethodId} {args : Array Value} {below : List Frame} {meth : Method} {c' : Code} {H : Heap} {locs : List Loc} {cells slots : Nat} {Q : State → Prop}
theorem pushN {N : Nat} (h : N ≤ 60000000) : (Int32.ofInt ((N : Nat) : Int)).toNatClampNeg = N ∧ ¬ Int32.ofInt ((N : Nat) : Int) < 0 := by
  constructor
  · rw [Int32.toNatClampNeg, Int32.toInt_ofInt_of_le (by omega) (by omega)]
    exact Int.toNat_natCast N
  · rw [Int32.lt_iff_toInt_lt, Int32.toInt_ofInt_of_le (by omega) (by omega)]
    show ¬ ((N : Nat) : Int) < 0
    omega
def okT (mi c pc : Nat) (pk pk2 : Nat × Nat) (k ix ix2 : Nat) : Bool :=
  decide (decode (bc mi) pc = .ok (.aload_n 0, 1)) && pushOK mi (pc + 1) pk (lay c k).2.1 && pushOK mi (pc + 1 + pl pk) pk2 (lay c k).2.2.1 && decide (decode (bc mi) (pc + 1 + pl pk + pl pk2) = .ok (.multianewarray ix2 2, 4)) && decide (decode (bc mi) (pc + 1 + pl pk + pl pk2 + 4) = .ok (.putfield ix, 3)) && hasF (own mi) ix c k &&
  decide ((lay c k).1 = 20 ∨ (lay c k).1 = 21) && decide ((lay c k).2.1 ≤ 1000 ∧ (lay c k).2.2.1 ≤ 1000 ∧ k < NF c) && clk c ix2 (lay c k).1 && fldB c k (.array (.array (el2 (lay c k).1)))
theorem B_two (B : CB G mi p s m args meth c') {c a n pc : Nat} {pk pk2 : Nat × Nat} {k ix ix2 : Nat} (hc9 : c < 9) (ho : own mi = c) (hg : okT mi c pc pk pk2 k ix ix2 = true) {V : Nat → Value} {H0 : Heap} (X : BE G c a n V H0 H) (hn : (lay c k).2.2.2 = n) (hn1 : 1 ≤ n) {ls : Array Slot} (hl : ls[0]? = some (.val (.ref a)))
    (hcells : cells + (1 + (lay c k).2.1) ≤ R.cells) (hslots : slots + ((lay c k).2.1 + (lay c k).2.1 * (lay c k).2.2.1) ≤ R.slots)
    (kk : ∀ (H' : Heap) (j : Nat), BE G c a (n + (1 + (lay c k).2.1)) (updV V k (.ref (a + n))) H0 H' → W p G.1 e R s m args below meth c' H' (locs ++ [⟨a, j⟩]) (cells + 1 + (lay c k).2.1) (slots + (lay c k).2.1 + (lay c k).2.1 * (lay c k).2.2.1) Q (F0 m (pc + 1 + pl pk + pl pk2 + 7) ls [])) :
    W p G.1 e R s m args below meth c' H locs cells slots Q (F0 m pc ls []) := by
  unfold okT at hg
  simp only [Bool.and_eq_true, decide_eq_true_eq] at hg
  obtain ⟨⟨⟨⟨⟨⟨⟨⟨⟨h1, h2⟩, h3⟩, h4⟩, h5⟩, h6⟩, h7⟩, h8⟩, h9⟩, h10⟩ := hg
  have B' := B
  obtain ⟨hx, hbc, hown, hts, hin0, kk1, ko⟩ := B
  obtain ⟨x1, x2, x3, x4⟩ := X
  have n1 := pushN (N := (lay c k).2.1) (by omega)
  have n2 := pushN (N := (lay c k).2.2.1) (by omega)
  have key : ∃ kA, s.vm.classes[G.2.1.2.2 ((lay c k).1 - 16)]? = some kA ∧ kA.kind = .array (G.2.1.2.2 ((lay c k).1 - 20)) (.array (el2 (lay c k).1)) ∧ s.vm.findClass (FieldType.array (el2 (lay c k).1)).toString = some (G.2.1.2.2 ((lay c k).1 - 20)) ∧ s.vm.findClass ("[" ++ (FieldType.array (el2 (lay c k).1)).toString) = some (G.2.1.2.2 ((lay c k).1 - 16)) ∧ Cond.arrayClass (el2 (lay c k).1) ∈ WT := by
    rcases h7 with z | z <;> rw [z]
    · obtain ⟨kA, a1, a2⟩ := ko.1.1
      exact ⟨kA, a1, a2, (kk1.2 0 _ rfl).2, (kk1.2 4 _ rfl).2, aw_in.1⟩
    · obtain ⟨kA, a1, a2⟩ := ko.1.2
      exact ⟨kA, a1, a2, (kk1.2 1 _ rfl).2, (kk1.2 5 _ rfl).2, aw_in.2.1⟩
  obtain ⟨kA, a1, a2, a3, a4, a5⟩ := key
  have ty3 : (el2 (lay c k).1 = .int ∧ (lay c k).1 = 20) ∨ (el2 (lay c k).1 = .long ∧ (lay c k).1 = 21) := by
    rcases h7 with z | z
    · left; exact ⟨by rw [z]; rfl, z⟩
    · right; exact ⟨by rw [z]; rfl, z⟩
  refine lv_aload_n hx hbc h1 rfl hl ?_
  refine B_push B' h2 ?_
  refine B_push B' h3 ?_
  refine W_multi hx hbc hown (by rw [ho]; exact hts _ (clk_of h9)) (hts _ a5) a3 a1 a2 a4 h4 n1.2 n2.2 n1.1 n2.1 (by omega) ?_ (by omega) ?_ ?_ hcells hslots (fun H1 g1 g2 g3 g4 => ?_)
  · rcases ty3 with ⟨t, _⟩ | ⟨t, _⟩ <;> rw [t]
    · show (lay c k).2.2.1 * 4 ≤ 536870912; omega
    · show (lay c k).2.2.1 * 8 ≤ 536870912; omega
  · rcases ty3 with ⟨t, _⟩ | ⟨t, _⟩ <;> rw [t] <;> rfl
  · rcases ty3 with ⟨t, _⟩ | ⟨t, _⟩ <;> rw [t] <;> rfl
  have n20 : ¬ (lay c k).1 < 20 := by omega
  have n14 : ¬ (lay c k).1 < 14 := by omega
  have ne14 : ¬ (lay c k).1 = 14 := by omega
  have ea : akk (lay c k) 0 = (15, (lay c k).2.1) := by unfold akk; rw [if_neg n20, if_pos rfl]
  have cel0 : celG G c a k 0 = arrV (G.2.1.2.2 ((lay c k).1 - 16)) (lay c k).2.1 (fun j => if j < (lay c k).2.1 then .ref (H.size + 1 + j) else .null) := by
    unfold celG
    rw [ea, show acd (lay c k) 0 = (lay c k).1 - 16 by unfold acd; rw [if_neg n14, if_neg ne14, if_pos rfl]]
    refine arr_ext (fun j hj => ?_)
    rw [if_pos hj]
    show (if (15 : Nat) = 11 then (Value.long 0) else if (15 : Nat) = 14 then .null else if (15 : Nat) = 15 then .ref (a + (lay c k).2.2.2 + (j + 1)) else .int 0) = _
    rw [if_neg (show ¬ (15 : Nat) = 11 by decide), if_neg (show ¬ (15 : Nat) = 14 by decide), if_pos rfl, show a + (lay c k).2.2.2 + (j + 1) = H.size + 1 + j by omega]
  have celr : ∀ r, 0 < r → celG G c a k r = arrV (G.2.1.2.2 ((lay c k).1 - 20)) (lay c k).2.2.1 (fun _ => defaultValue (el2 (lay c k).1)) := fun r hr => by
    unfold celG
    rw [show akk (lay c k) r = ((lay c k).1 - 10, (lay c k).2.2.1) by unfold akk; rw [if_neg n20, if_neg (by omega)], show acd (lay c k) r = (lay c k).1 - 20 by unfold acd; rw [if_neg n14, if_neg ne14, if_neg (by omega)]]
    refine arr_ext (fun j hj => ?_)
    rcases ty3 with ⟨t, z⟩ | ⟨t, z⟩ <;> rw [t, z] <;> rfl
  obtain ⟨cell, q1, q2, q3, q4⟩ := x3
  have alt : a < H.size := by omega
  rw [x1]
  refine W_put B' h6 hc9 ho (fldB_of h10) rfl rfl ⟨cell, (g2 a alt).trans q1, q2, q3, q4⟩ h5 (fun H2 j y1 y2 y3 => ?_)
  refine kk H2 j ⟨by rw [y2, g1]; omega, fun q hq => by rw [y3 q (by omega), g2 q (by omega)]; exact x2 q hq, y1, fun k' r hk' hr hlt => ?_⟩
  have pos := lay_pos c hc9 k' hk' (arow_lt hr).2
  rw [y3 _ (by omega)]
  by_cases z : (lay c k').2.2.2 + r < n
  · rw [g2 _ (by omega)]
    exact x4 k' r hk' hr z
  · have arr0 : arow (lay c k) ((lay c k').2.2.2 + r - n) := ⟨by omega, by omega, fun h => by omega, fun _ => by omega⟩
    obtain ⟨e1, e2⟩ := arow_inj hc9 hk' h8.2.2 hr arr0 (by omega)
    subst e1
    by_cases r0 : r = 0
    · rw [r0, show (lay c k').2.2.2 + 0 = n by omega, ← x1, g3, cel0]
    · have z4 := g4 (r - 1) (by omega)
      rw [celr r (by omega), ← z4]
      congr 1
      omega
/-! a number is set -/
def okN (mi c pc : Nat) (pk : Nat × Nat) (v : Int) (k ix : Nat) : Bool :=
  decide (decode (bc mi) pc = .ok (.aload_n 0, 1)) && pushOK mi (pc + 1) pk v && decide (decode (bc mi) (pc + 1 + pl pk) = .ok (.putfield ix, 3)) && hasF (own mi) ix c k && fldB c k .int
theorem B_num (B : CB G mi p s m args meth c') {c a n pc : Nat} {pk : Nat × Nat} {v : Int} {k ix : Nat} (hc9 : c < 9) (ho : own mi = c) (hg : okN mi c pc pk v k ix = true) {V : Nat → Value} {H0 : Heap} (X : BE G c a n V H0 H) (hn1 : 1 ≤ n) {ls : Array Slot} (hl : ls[0]? = some (.val (.ref a)))
    (kk : ∀ (H' : Heap) (j : Nat), BE G c a n (updV V k (.int (Int32.ofInt v))) H0 H' → W p G.1 e R s m args below meth c' H' (locs ++ [⟨a, j⟩]) cells slots Q (F0 m (pc + 1 + pl pk + 3) ls [])) :
    W p G.1 e R s m args below meth c' H locs cells slots Q (F0 m pc ls []) := by
  unfold okN at hg
  simp only [Bool.and_eq_true, decide_eq_true_eq] at hg
  obtain ⟨⟨⟨⟨h1, h2⟩, h3⟩, h4⟩, h5⟩ := hg
  have B' := B
  obtain ⟨hx, hbc, hown, hts, hin0, kk1, ko⟩ := B
  obtain ⟨x1, x2, x3, x4⟩ := X
  refine lv_aload_n hx hbc h1 rfl hl ?_
  refine B_push B' h2 ?_
  refine W_put B' h4 hc9 ho (fldB_of h5) rfl rfl x3 h3 (fun H2 j y1 y2 y3 => ?_)
  refine kk H2 j ⟨by rw [y2]; exact x1, fun q hq => by rw [y3 q (by omega)]; exact x2 q hq, y1, fun k' r hk' hr hlt => ?_⟩
  have pos := lay_pos c hc9 k' hk' (arow_lt hr).2
  rw [y3 _ (by omega)]
  exact x4 k' r hk' hr hlt
/-- a group: at pc; 0 a row, 1 rows of rows, 2 a number; how it is pushed; field, its link, the class's link; the number -/
abbrev Gp : Type := Nat × Nat × (Nat × Nat) × (Nat × Nat) × Nat × Nat × Nat × Int
def gEnd (c : Nat) (g : Gp) : Nat := if g.2.1 = 0 then g.1 + 1 + pl g.2.2.1 + 5 else if g.2.1 = 1 then g.1 + 1 + pl g.2.2.1 + pl g.2.2.2.1 + 7 else g.1 + 1 + pl g.2.2.1 + 3
def gCel (c : Nat) (g : Gp) : Nat := if g.2.1 = 0 then 1 else if g.2.1 = 1 then 1 + (lay c g.2.2.2.2.1).2.1 else 0
def gSlo (c : Nat) (g : Gp) : Nat := if g.2.1 = 0 then (lay c g.2.2.2.2.1).2.1 else if g.2.1 = 1 then (lay c g.2.2.2.2.1).2.1 + (lay c g.2.2.2.2.1).2.1 * (lay c g.2.2.2.2.1).2.2.1 else 0
def gVal (a n : Nat) (g : Gp) : Value := if g.2.1 = 2 then .int (Int32.ofInt g.2.2.2.2.2.2.2) else .ref (a + n)
/-- the groups from pc on, n cells being there -/
def okGs (mi c : Nat) : Nat → Nat → List Gp → Bool
  | _, _, [] => true
  | pc, n, g :: gs => decide (g.1 = pc) && (if g.2.1 = 0 then okR mi c pc g.2.2.1 (lay c g.2.2.2.2.1).2.1 g.2.2.2.2.1 g.2.2.2.2.2.1 && decide ((lay c g.2.2.2.2.1).2.2.2 = n) else if g.2.1 = 1 then okT mi c pc g.2.2.1 g.2.2.2.1 g.2.2.2.2.1 g.2.2.2.2.2.1 g.2.2.2.2.2.2.1 && decide ((lay c g.2.2.2.2.1).2.2.2 = n) else decide (g.2.1 = 2) && okN mi c pc g.2.2.1 g.2.2.2.2.2.2.2 g.2.2.2.2.1 g.2.2.2.2.2.1) && okGs mi c (gEnd c g) (n + gCel c g) gs
def gsV (c a : Nat) : Nat → (Nat → Value) → List Gp → Nat → Value
  | _, V, [] => V
  | n, V, g :: gs => gsV c a (n + gCel c g) (updV V g.2.2.2.2.1 (gVal a n g)) gs
def gsE (c : Nat) : Nat → List Gp → Nat
  | pc, [] => pc
  | _, g :: gs => gsE c (gEnd c g) gs
def gsC (c : Nat) (gs : List Gp) : Nat := (gs.map (gCel c)).sum
def gsS (c : Nat) (gs : List Gp) : Nat := (gs.map (gSlo c)).sum
theorem B_all (B : CB G mi p s m args meth c') {c a : Nat} (hc9 : c < 9) (ho : own mi = c) {H0 : Heap} {ls : Array Slot} (hl : ls[0]? = some (.val (.ref a))) (ha : G.2.2.1 ≤ a) :
    ∀ (gs : List Gp) (pc n : Nat) (V : Nat → Value) (H : Heap) (locs : List Loc) (cells slots : Nat), okGs mi c pc n gs = true → BE G c a n V H0 H → 1 ≤ n → (∀ q ∈ locs, G.2.2.1 ≤ q.base) → cells + gsC c gs ≤ R.cells → slots + gsS c gs ≤ R.slots →
      (∀ (H' : Heap) (locs' : List Loc), BE G c a (n + gsC c gs) (gsV c a n V gs) H0 H' → (∀ q ∈ locs', G.2.2.1 ≤ q.base) → W p G.1 e R s m args below meth c' H' locs' (cells + gsC c gs) (slots + gsS c gs) Q (F0 m (gsE c pc gs) ls [])) →
      W p G.1 e R s m args below meth c' H locs cells slots Q (F0 m pc ls [])
  | [], pc, n, V, H, locs, cells, slots, hg, X, hn, hlo, hc, hs, kk => kk H locs X hlo
  | g :: gs, pc, n, V, H, locs, cells, slots, hg, X, hn, hlo, hc, hs, kk => by
    have eC : gsC c (g :: gs) = gCel c g + gsC c gs := by unfold gsC; rw [List.map_cons, List.sum_cons]
    have eS : gsS c (g :: gs) = gSlo c g + gsS c gs := by unfold gsS; rw [List.map_cons, List.sum_cons]
    rw [eC] at hc kk
    rw [eS] at hs kk
    have hg' : (decide (g.1 = pc) && (if g.2.1 = 0 then okR mi c pc g.2.2.1 (lay c g.2.2.2.2.1).2.1 g.2.2.2.2.1 g.2.2.2.2.2.1 && decide ((lay c g.2.2.2.2.1).2.2.2 = n) else if g.2.1 = 1 then okT mi c pc g.2.2.1 g.2.2.2.1 g.2.2.2.2.1 g.2.2.2.2.2.1 g.2.2.2.2.2.2.1 && decide ((lay c g.2.2.2.2.1).2.2.2 = n) else decide (g.2.1 = 2) && okN mi c pc g.2.2.1 g.2.2.2.2.2.2.2 g.2.2.2.2.1 g.2.2.2.2.2.1) && okGs mi c (gEnd c g) (n + gCel c g) gs) = true := hg
    rw [Bool.and_eq_true, Bool.and_eq_true, decide_eq_true_eq] at hg'
    obtain ⟨⟨e0, h1⟩, h2⟩ := hg'
    have next : ∀ (H' : Heap) (j : Nat), BE G c a (n + gCel c g) (updV V g.2.2.2.2.1 (gVal a n g)) H0 H' → W p G.1 e R s m args below meth c' H' (locs ++ [⟨a, j⟩]) (cells + gCel c g) (slots + gSlo c g) Q (F0 m (gEnd c g) ls []) := fun H' j X' =>
      B_all B hc9 ho hl ha gs (gEnd c g) (n + gCel c g) _ H' _ _ _ h2 X' (by omega) (fun q hq => by
        rcases List.mem_append.mp hq with z | z
        · exact hlo q z
        · rw [List.mem_singleton.mp z]; exact ha) (by omega) (by omega) (fun H2 l2 X2 hl2 => by
        have r := kk H2 l2 (by rw [← Nat.add_assoc]; exact X2) hl2
        rw [← Nat.add_assoc, ← Nat.add_assoc] at r
        exact r)
    by_cases s0 : g.2.1 = 0
    · rw [if_pos s0, Bool.and_eq_true, decide_eq_true_eq] at h1
      have c0 : gCel c g = 1 := by unfold gCel; rw [if_pos s0]
      have l0 : gSlo c g = (lay c g.2.2.2.2.1).2.1 := by unfold gSlo; rw [if_pos s0]
      have v0 : gVal a n g = .ref (a + n) := by unfold gVal; rw [if_neg (by omega)]
      have en : gEnd c g = pc + 1 + pl g.2.2.1 + 5 := by unfold gEnd; rw [if_pos s0, e0]
      rw [c0, l0, v0, en] at next
      rw [c0] at hc
      rw [l0] at hs
      exact B_row B hc9 ho h1.1 X h1.2 hn hl (by omega) (by omega) next
    · by_cases s1 : g.2.1 = 1
      · rw [if_neg s0, if_pos s1, Bool.and_eq_true, decide_eq_true_eq] at h1
        have c0 : gCel c g = 1 + (lay c g.2.2.2.2.1).2.1 := by unfold gCel; rw [if_neg s0, if_pos s1]
        have l0 : gSlo c g = (lay c g.2.2.2.2.1).2.1 + (lay c g.2.2.2.2.1).2.1 * (lay c g.2.2.2.2.1).2.2.1 := by unfold gSlo; rw [if_neg s0, if_pos s1]
        have v0 : gVal a n g = .ref (a + n) := by unfold gVal; rw [if_neg (by omega)]
        have en : gEnd c g = pc + 1 + pl g.2.2.1 + pl g.2.2.2.1 + 7 := by unfold gEnd; rw [if_neg s0, if_pos s1, e0]
        rw [c0, l0, v0, en] at next
        rw [c0] at hc
        rw [l0] at hs
        refine B_two B hc9 ho h1.1 X h1.2 hn hl (by omega) (by omega) (fun H' j X' => ?_)
        have r := next H' j X'
        rw [← Nat.add_assoc, ← Nat.add_assoc] at r
        exact r
      · rw [if_neg s0, if_neg s1, Bool.and_eq_true, decide_eq_true_eq] at h1
        have c0 : gCel c g = 0 := by unfold gCel; rw [if_neg s0, if_neg s1]
        have l0 : gSlo c g = 0 := by unfold gSlo; rw [if_neg s0, if_neg s1]
        have v0 : gVal a n g = .int (Int32.ofInt g.2.2.2.2.2.2.2) := by unfold gVal; rw [if_pos h1.1]
        have en : gEnd c g = pc + 1 + pl g.2.2.1 + 3 := by unfold gEnd; rw [if_neg s0, if_neg s1, e0]
        rw [c0, l0, v0, en] at next
        exact B_num B hc9 ho h1.2 X hn hl next
end BGR

/-! 9t.block: an object that is new: its fields' first values, its rows -/
/-- what a field of numbers holds at first -/
def iv (c k : Nat) : Int := if c = 4 ∧ k = 1 then -1 else if c = 8 ∧ k = 47 then 15 else 0
def VI (c a k : Nat) : Value := if (lay c k).1 = 0 ∨ (lay c k).1 = 2 then .int (Int32.ofInt (iv c k)) else if (lay c k).1 = 1 then .long 0 else if (lay c k).1 = 3 then .null else .ref (a + (lay c k).2.2.2)
def BLK (G : Gl) (H : Heap) (c a : Nat) (V : Nat → Value) : Prop := t_OB a (G.2.1.1 c) (NF c) (G.2.1.2.1 c) H V ∧ ∀ k r, k < NF c → arow (lay c k) r → H[a + ((lay c k).2.2.2 + r)]? = some (celG G c a k r)
/-- the last group that sets the field k, and how many cells stood then -/
def gsF (c : Nat) : Nat → List Gp → Nat → Option (Nat × Gp)
  | _, [], _ => none
  | n, g :: gs, k => match gsF c (n + gCel c g) gs k with
    | some x => some x
    | none => if g.2.2.2.2.1 = k then some (n, g) else none
theorem gsV_F {c a k : Nat} : ∀ (gs : List Gp) (n : Nat) (V : Nat → Value), gsV c a n V gs k = match gsF c n gs k with
    | some (n', g) => gVal a n' g
    | none => V k
  | [], n, V => rfl
  | g :: gs, n, V => by
    have ih := gsV_F (c := c) (a := a) (k := k) gs (n + gCel c g) (updV V g.2.2.2.2.1 (gVal a n g))
    show gsV c a (n + gCel c g) (updV V g.2.2.2.2.1 (gVal a n g)) gs k = _
    rw [ih]
    show _ = match (match gsF c (n + gCel c g) gs k with | some x => some x | none => if g.2.2.2.2.1 = k then some (n, g) else none) with | some (n', g) => gVal a n' g | none => V k
    cases gsF c (n + gCel c g) gs k with
    | some x => rfl
    | none =>
      unfold updV
      by_cases z : g.2.2.2.2.1 = k
      · rw [if_pos z, if_pos z.symm]
      · rw [if_neg z, if_neg (fun y => z y.symm)]
def dvB (c k : Nat) : Bool := ((lay c k).1 == 0 || (lay c k).1 == 2) && decide (iv c k = 0) && (match tyD c k with
    | .int => true
    | .boolean => true
    | _ => false) || (lay c k).1 == 1 && (match tyD c k with
    | .long => true
    | _ => false) || (lay c k).1 == 3 && (match tyD c k with
    | .array _ => true
    | .object _ => true
    | _ => false)
def okFv1 (c : Nat) (gs : List Gp) (k : Nat) : Bool := match gsF c 1 gs k with
  | some (n, g) => if g.2.1 = 2 then decide ((lay c k).1 = 0 ∧ iv c k = g.2.2.2.2.2.2.2) else decide (10 ≤ (lay c k).1 ∧ (lay c k).2.2.2 = n)
  | none => dvB c k
/-- every field has its first value, every row stands -/
def okFv (c : Nat) (gs : List Gp) : Bool := (List.range (NF c)).all (fun k => okFv1 c gs k && (!(isAr c k) || decide ((lay c k).2.2.2 + cnt c k ≤ 1 + gsC c gs)))
theorem okFv_of {c a : Nat} {gs : List Gp} (h : okFv c gs = true) {k : Nat} (hk : k < NF c) : gsV c a 1 (dV c) gs k = VI c a k ∧ (isAr c k = true → (lay c k).2.2.2 + cnt c k ≤ 1 + gsC c gs) := by
  have z := List.all_eq_true.mp h k (List.mem_range.mpr hk)
  simp only [Bool.and_eq_true, Bool.or_eq_true, Bool.not_eq_true', decide_eq_true_eq] at z
  refine ⟨?_, fun ar => by rcases z.2 with y | y; rw [ar] at y; cases y; exact y⟩
  have z1 := z.1
  rw [gsV_F]
  unfold okFv1 at z1
  unfold VI
  cases e : gsF c 1 gs k with
  | some x =>
    obtain ⟨n, g⟩ := x
    rw [e] at z1
    have z2 : (if g.2.1 = 2 then decide ((lay c k).1 = 0 ∧ iv c k = g.2.2.2.2.2.2.2) else decide (10 ≤ (lay c k).1 ∧ (lay c k).2.2.2 = n)) = true := z1
    show gVal a n g = _
    unfold gVal
    by_cases g2 : g.2.1 = 2
    · rw [if_pos g2, decide_eq_true_eq] at z2
      rw [if_pos g2, if_pos (Or.inl z2.1), z2.2]
    · rw [if_neg g2, decide_eq_true_eq] at z2
      rw [if_neg g2, if_neg (by omega), if_neg (by omega), if_neg (by omega), z2.2]
  | none =>
    rw [e] at z1
    have z2 : dvB c k = true := z1
    show dV c k = _
    unfold dV
    unfold dvB at z2
    simp only [Bool.or_eq_true, Bool.and_eq_true, beq_iff_eq, decide_eq_true_eq] at z2
    rcases z2 with (⟨⟨q1, q2⟩, q3⟩ | ⟨q1, q3⟩) | ⟨q1, q3⟩
    · rw [if_pos q1, q2]
      cases t : tyD c k <;> rw [t] at q3 <;> first | rfl | cases q3
    · rw [if_neg (by omega), if_pos q1]
      cases t : tyD c k <;> rw [t] at q3 <;> first | rfl | cases q3
    · rw [if_neg (by omega), if_neg (by omega), if_pos q1]
      cases t : tyD c k <;> rw [t] at q3 <;> first | rfl | cases q3
def IPo (G : Gl) (c n : Nat) (V : Nat → Nat → Value) : Array Value → State → Outcome → State → Prop := fun args st oc t => oc = .returned none ∧ ∃ a : Nat, args = #[.ref a] ∧ t.heap.size = a + n ∧ (∀ q, q < a → t.heap[q]? = st.heap[q]?) ∧ BLK G t.heap c a (V a)
section BKS
variable {G : Gl}
theorem init_blk {mi c k n : Nat} {gs : List Gp} (hv : okFv c gs = true) (hn : 1 + gsC c gs = n) {mc ms : Nat} (h : Met G.1 (yn mi) (wsm mi) (rmk (k + 1) (gsC c gs) (gsS c gs)) (IPre G c) (IPost G c (1 + gsC c gs) (fun a => gsV c a 1 (dV c) gs)) (gsC c gs) (gsS c gs) (fun q => G.2.2.1 ≤ q)) :
    ∀ args st oc t, IPost G c (1 + gsC c gs) (fun a => gsV c a 1 (dV c) gs) args st oc t → IPo G c n (VI c) args st oc t := by
  intro args st oc t hp
  obtain ⟨h1, a, h2, x1, x2, x3, x4⟩ := hp
  refine ⟨h1, a, h2, by rw [x1, hn], x2, t_OB.to x3 (fun k hk => (okFv_of hv hk).1), fun k r hk hr => x4 k r hk hr ?_⟩
  have z := arow_lt hr
  have y := (okFv_of (a := a) hv hk).2 z.2
  omega
end BKS
set_option maxRecDepth 100000 in
theorem ckV_all : okFv 0 gs0 = true ∧ okFv 1 gs5 = true ∧ okFv 3 gs33 = true ∧ okFv 4 gs42 = true ∧ okFv 5 gs63 = true ∧ okFv 6 gs67 = true := by decide +kernel
set_option maxRecDepth 100000 in
theorem ckV_8 : okFv 8 gs127 = true := by decide +kernel
set_option maxRecDepth 100000 in
theorem ckN_all : 1 + gsC 0 gs0 = 4 ∧ 1 + gsC 1 gs5 = 4 ∧ 1 + gsC 3 gs33 = 7 ∧ 1 + gsC 4 gs42 = 162 ∧ 1 + gsC 5 gs63 = 13 ∧ 1 + gsC 6 gs67 = 4 := by decide +kernel

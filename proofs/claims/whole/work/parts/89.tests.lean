/-! 89.tests: facts and tests of a text: a fault, or where it ends, how many are counted, the class's pieces, the check's (pure) -/
abbrev PT : Type := Int ⊕ (Nat × Nat × List (Nat × Int) × List (Nat × Int))
def bnt (r : PT) (f : Nat → Nat → List (Nat × Int) → List (Nat × Int) → PT) : PT := match r with
  | .inl e => .inl e
  | .inr (p, c, L, M) => f p c L M
def bns (r : PR) (f : Nat → Nat → List (Nat × Int) → PT) : PT := match r with
  | .inl e => .inl e
  | .inr (p, c, L) => f p c L
/-- the sign of a comparison, as the check numbers it -/
def cmpN (k : Int) : Nat := if k = 160 then 4 else if k = 23 then 5 else if k = 161 then 6 else if k = 24 then 7 else 8
def isCmp (k : Int) : Prop := k = 160 ∨ k = 161 ∨ k = 162 ∨ k = 23 ∨ k = 24
def notL (b : Bool) : List (Nat × Int) := if b = true then [(9, 0)] else []
def orL (b : Bool) : List (Nat × Int) := if b = true then [(11, 0)] else []
/-- two sums and a sign between them -/
def pzC (t : Nat → Int) (N p c : Nat) : PR :=
  bnd (pzS t N p c) (fun p1 c1 L1 => if tk t N p1 = 160 ∨ tk t N p1 = 161 ∨ tk t N p1 = 162 ∨ tk t N p1 = 23 ∨ tk t N p1 = 24 then (if 60 ≤ c1 then .inl (1 + 8 * bls t N p1 + 3) else bnd (pzS t N (te t N p1) (c1 + 1)) (fun p2 c2 L2 => .inr (p2, c2, L1 ++ L2 ++ [(cmpN (tk t N p1), 0)]))) else .inl (1 + 8 * bls t N p1))
/-- mode 0: a fact, behind so many nots as b says (odd or even), d deep; mode 1: a test; mode 2: more of a test, whose or has come if b -/
def pzG (t : Nat → Int) (N : Nat) : Nat → Nat → Nat → Bool → Nat → Nat → List (Nat × Int) → List (Nat × Int) → PT
  | 0, _, _, _, _, _, _, _ => .inl 0
  | m + 1, 0, d, b, p, c, _, _ =>
    if tk t N p = 22 then (if 10 ≤ d then .inl (1 + 8 * bls t N p + 2) else bnt (pzG t N m 0 (d + 1) (!b) (te t N p) c [] []) (fun p' c' L M => .inr (p', c', L, M ++ [(9, 0)])))
    else if tk t N p = 191 then (if 10 ≤ d then .inl (1 + 8 * bls t N p + 2) else bnt (pzG t N m 1 (d + 1) false (te t N p) c [] []) (fun p' c' L M => if tk t N p' = 193 then .inr (te t N p', c', L ++ notL b, M) else .inl (1 + 8 * bls t N p')))
    else bns (pzC t N p c) (fun p' c' L => .inr (p', c', L ++ notL b, L))
  | m + 1, 1, d, _, p, c, _, _ => bnt (pzG t N m 0 d false p c [] []) (fun p' c' L M => pzG t N m 2 d false p' c' L M)
  | m + 1, _ + 2, d, b, p, c, L, M =>
    if tk t N p = 20 then bnt (pzG t N m 0 d false (te t N p) c [] []) (fun p' c' L' M' => pzG t N m 2 d b p' c' (L ++ L' ++ [(10, 0)]) (M ++ M' ++ [(10, 0)]))
    else if tk t N p = 21 then bnt (pzG t N m 0 d false (te t N p) c [] []) (fun p' c' L' M' => pzG t N m 2 d true p' c' (L ++ orL b ++ L') (M ++ orL b ++ M'))
    else .inr (p, c, L ++ orL b, M ++ orL b)

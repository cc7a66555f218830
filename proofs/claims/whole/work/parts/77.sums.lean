/-! 77.sums: what a sum of a text comes to: a fault, or where it ends, how many are counted, its pieces (pure) -/
abbrev PR : Type := Int ⊕ (Nat × Nat × List (Nat × Int))
def bnd (r : PR) (f : Nat → Nat → List (Nat × Int) → PR) : PR := match r with
  | .inl e => .inl e
  | .inr (p, c, L) => f p c L
/-- the token behind p: what it is, where it stands, where it ends -/
def tk (t : Nat → Int) (N p : Nat) : Int := tkB t N (bls t N p)
def te (t : Nat → Int) (N p : Nat) : Nat := teB t N (bls t N p)
def pzV (t : Nat → Int) (N p c : Nat) : PR :=
  if tk t N p = 31 then (if tvB t N (bls t N p) = -1 then .inl (1 + 8 * bls t N p + 1) else if 60 ≤ c then .inl (1 + 8 * bls t N p + 3) else .inr (te t N p, c + 1, [(0, tvB t N (bls t N p))]))
  else if tk t N p < 15 then (if 60 ≤ c then .inl (1 + 8 * bls t N p + 3) else .inr (te t N p, c + 1, [(1, tk t N p)]))
  else .inl (1 + 8 * bls t N p)
/-- more of a term; more of a sum -/
def pzTl (t : Nat → Int) (N : Nat) : Nat → Nat → Nat → List (Nat × Int) → PR
  | 0, p, c, L => .inr (p, c, L)
  | m + 1, p, c, L => if tk t N p = 142 ∨ tk t N p = 147 then bnd (pzV t N (te t N p) c) (fun p' c' L' => pzTl t N m p' c' (L ++ L' ++ [(if tk t N p = 142 then 13 else 14, 0)])) else .inr (p, c, L)
def pzT (t : Nat → Int) (N p c : Nat) : PR := bnd (pzV t N p c) (fun p' c' L' => pzTl t N (N + 1 - p') p' c' L')
def pzSl (t : Nat → Int) (N : Nat) : Nat → Nat → Nat → List (Nat × Int) → PR
  | 0, p, c, L => .inr (p, c, L)
  | m + 1, p, c, L => if tk t N p = 143 ∨ tk t N p = 145 then bnd (pzT t N (te t N p) c) (fun p' c' L' => pzSl t N m p' c' (L ++ L' ++ [(if tk t N p = 143 then 2 else 3, 0)])) else .inr (p, c, L)
def pzS (t : Nat → Int) (N p c : Nat) : PR := bnd (pzT t N p c) (fun p' c' L' => pzSl t N (N + 1 - p') p' c' L')
/-- a piece as the class writes it -/
def cP (x : Nat × Int) : Int := if x.1 = 0 then 1000 + x.2 else if x.1 = 1 then x.2 else if x.1 = 2 then 143 else if x.1 = 3 then 145 else if x.1 = 4 then 160 else if x.1 = 5 then 23 else if x.1 = 6 then 161 else if x.1 = 7 then 24 else if x.1 = 8 then 162 else if x.1 = 9 then 22 else if x.1 = 10 then 20 else if x.1 = 11 then 21 else if x.1 = 13 then 142 else 147
theorem bls_bls {t : Nat → Int} {N p : Nat} : bls t N (bls t N p) = bls t N p := sc_off sc_stop
theorem bls_r {t : Nat → Int} {N p : Nat} : p ≤ bls t N p ∧ (p ≤ N → bls t N p ≤ N) := ⟨sc_r.1, sc_r.2.1⟩
theorem te_r {t : Nat → Int} {N b : Nat} (hb : b ≤ N) : b ≤ teB t N b ∧ teB t N b ≤ N ∧ (b < N → b < teB t N b) ∧ (tkB t N b ≠ 32 → b < N) := by
  unfold teB tkB
  by_cases c : N ≤ b
  · rw [if_pos c, if_pos c]
    exact ⟨Nat.le_refl b, hb, fun z => absurd z (by omega), fun z => (z rfl).elim⟩
  · rw [if_neg c, if_neg c]
    have lt : b < N := by omega
    by_cases c1 : isLt (t b) = true
    · rw [if_pos c1]
      have r := sc_r (f := fun i => isLt (t i)) (N := N) (p := b + 1)
      have e : le t N b = sc (fun i => isLt (t i)) N (b + 1) := sc_on lt c1
      rw [e]
      exact ⟨by have := r.1; omega, r.2.1 (by omega), fun _ => by have := r.1; omega, fun _ => lt⟩
    · rw [if_neg c1]
      by_cases c2 : isDg (t b) = true
      · rw [if_pos c2]
        have r := sc_r (f := fun i => isDg (t i)) (N := N) (p := b + 1)
        have e : dge t N b = sc (fun i => isDg (t i)) N (b + 1) := sc_on lt c2
        rw [e]
        exact ⟨by have := r.1; omega, r.2.1 (by omega), fun _ => by have := r.1; omega, fun _ => lt⟩
      · rw [if_neg c2]
        by_cases c3 : two t N b
        · rw [if_pos c3]
          have := c3.1
          exact ⟨by omega, by omega, fun _ => by omega, fun _ => lt⟩
        · rw [if_neg c3]
          exact ⟨by omega, by omega, fun _ => by omega, fun _ => lt⟩

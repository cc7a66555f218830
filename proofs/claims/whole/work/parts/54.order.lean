/-! 54.order: the next order (pure): it ends after at most 719 steps -/
/-- one more than the place of the last that is less than its next, from i down; 0 if there is none -/
def ptF (a : Nat → Int) : Nat → Nat
  | 0 => 0
  | i + 1 => if a i > a (i + 1) then ptF a i else i + 1
/-- the last place above p whose entry is not less than that of p, from j down -/
def otF (a : Nat → Int) (p : Nat) : Nat → Nat
  | 0 => 0
  | j + 1 => if p < j + 1 ∧ a (j + 1) < a p then otF a p j else j + 1
def swF (a : Nat → Int) (i j : Nat) : Nat → Int := fun c => if c = j then a i else if c = i then a j else a c
def rvF : Nat → Nat → Nat → (Nat → Int) → (Nat → Int)
  | 0, _, _, a => a
  | m + 1, i, j, a => if i < j then rvF m (i + 1) (j - 1) (swF a i j) else a
/-- the next order of n -/
def nxF (n : Nat) (a : Nat → Int) : Nat → Int := rvF 6 (ptF a (n - 1)) (n - 1) (swF a (ptF a (n - 1) - 1) (otF a (ptF a (n - 1) - 1) (n - 1)))
def Tm (n : Nat) : Nat → (Nat → Int) → Prop
  | 0, a => ptF a (n - 1) = 0
  | m + 1, a => ptF a (n - 1) = 0 ∨ Tm n m (nxF n a)
/-- orders as numbers -/
def dcN (c i : Nat) : Nat := c / 8 ^ i % 8
def ecN (a : Nat → Int) : Nat := (a 0).toNat + 8 * (a 1).toNat + 64 * (a 2).toNat + 512 * (a 3).toNat + 4096 * (a 4).toNat + 32768 * (a 5).toNat
def rnB (n : Nat) : Nat → Nat → Bool
  | 0, c => decide (ptF (fun i => (dcN c i : Int)) (n - 1) = 0)
  | m + 1, c => if ptF (fun i => (dcN c i : Int)) (n - 1) = 0 then true else rnB n m (ecN (nxF n (fun i => (dcN c i : Int))))
set_option maxRecDepth 1000000 in
theorem rn_all : ∀ n : Nat, n < 7 → rnB n 719 (0 + 8 * 1 + 64 * 2 + 512 * 3 + 4096 * 4 + 32768 * 5) = true := by decide +kernel

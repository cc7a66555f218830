/-! 53.bits: how many bits (the JDK's bitCount, the check's bits) -/
def bcA (a : Int) : Int := a - band (ushr a 1) 1431655765
def bcB (x : Int) : Int := band x 858993459 + band (ushr x 2) 858993459
def bcC (y : Int) : Int := y + ushr y 4
def bcD (z : Int) : Int := z + ushr z 8
def bcE (u : Int) : Int := u + ushr u 16
def bcR (a : Int) : Int := band (bcE (bcD (band (bcC (bcB (bcA a))) 252645135))) 63
/-- how many of the first twelve bits are set -/
def pcS (s : Nat) (h c : Nat) : Nat := if s / 2 ^ h % 2 = 1 then c + 1 else c
def pcN (s : Nat) : Nat := iter (pcS s) 12 0
def i32b (x : Int) : Bool := decide (-2147483648 ≤ x) && decide (x ≤ 2147483647)
def bcK (s : Nat) : Bool := i32b (bcA s) && i32b (bcB (bcA s)) && i32b (bcC (bcB (bcA s))) && i32b (bcD (band (bcC (bcB (bcA s))) 252645135)) && i32b (bcE (bcD (band (bcC (bcB (bcA s))) 252645135))) && decide (bcR s = (pcN s : Int))
set_option maxRecDepth 100000 in
theorem bc_all : ∀ s : Nat, s < 4096 → bcK s = true := by decide +kernel
theorem bc_i {x : Int} (h : i32b x = true) : I32 x := by
  unfold i32b at h
  simp only [Bool.and_eq_true, decide_eq_true_eq] at h
  exact h
theorem bc_ok {s : Nat} (h : s < 4096) : (I32 (bcA s) ∧ I32 (bcB (bcA s)) ∧ I32 (bcC (bcB (bcA s))) ∧ I32 (bcD (band (bcC (bcB (bcA s))) 252645135)) ∧ I32 (bcE (bcD (band (bcC (bcB (bcA s))) 252645135)))) ∧ bcR s = (pcN s : Int) := by
  have z := bc_all s h
  unfold bcK at z
  simp only [Bool.and_eq_true, decide_eq_true_eq] at z
  obtain ⟨⟨⟨⟨⟨z1, z2⟩, z3⟩, z4⟩, z5⟩, z6⟩ := z
  exact ⟨⟨bc_i z1, bc_i z2, bc_i z3, bc_i z4, bc_i z5⟩, z6⟩
section BTS
variable {G : Gl} {w : Wd} {k : Nat} {σ : Mem} {Q : Option AV → Mem → Prop}
set_option maxRecDepth 100000 in
set_option maxHeartbeats 1000000 in
theorem kc_bc (hk : 1 ≤ k) {a : Int} (ha : 0 ≤ a ∧ a < 4096) (q : Q (some (vi (pcN a.toNat : Int))) σ) : CC G w w k (0, 0) 249 [vi a] σ Q := by
  obtain ⟨⟨z1, z2, z3, z4, z5⟩, z6⟩ := bc_ok (s := a.toNat) (by omega)
  rw [show ((a.toNat : Nat) : Int) = a by omega] at z1 z2 z3 z4 z5 z6
  rw [← z6] at q
  refine CC_vb ok249 (by decide) (sm3_ok G w) 60 [] (Nat.le_of_ble_eq_true rfl) ?_
  simp -implicitDefEqProofs only [↓b249_0, b249_0, nLE4, layE7, hk, I32, ↓xb, xb, ps, lpad, lat, aok2, rd2, aaok, aav, alok, alen, aok, akk, csum, isLg, cmpI, clsE, Option.elim, eq_self, List.mem_cons, List.not_mem_nil, or_false, false_or, List.append_nil, List.nil_append, List.cons_append, List.append_eq, List.replicate, List.length_cons, List.length_nil, List.map_cons, List.map_nil, ↓reduceIte, reduceCtorEq, if_true, if_false, true_and, and_true, false_and, and_false, and_self, not_true_eq_false, not_false_eq_true, forall_const, true_implies, false_implies, implies_true, Nat.reduceAdd, Nat.reduceSub, Nat.reduceLT, Nat.reduceLeDiff, Nat.reduceEqDiff, Nat.reduceMul, Nat.reducePow, Nat.add_one_ne_zero, Nat.add_one_sub_one, Nat.add_zero, Nat.zero_add, Int.reduceLT, Int.reduceLE, Int.reduceNeg, Int.reduceAdd, Int.reduceSub, Int.reduceToNat, Int.reduceEq, Int.reduceMul, Int.reducePow, Int.cast_ofNat_Int, Int.toNat_natCast, ne_eq, Bool.false_eq_true, true_or, or_true, or_self, Nat.not_lt_zero, ite_e0, ite_e1, lc_lt, lc_ge, lc_gt, lc_le, lc_eq, Classical.not_not]
  exact ⟨z1, z2, z3, z4, z5, q⟩
end BTS

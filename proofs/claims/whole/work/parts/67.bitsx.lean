/-! 67.bitsx: sets within sets (pure) -/
theorem bxor_nat {a b : Int} (ha : 0 ≤ a ∧ a < 4096) (hb : 0 ≤ b ∧ b < 4096) : bxor a b = ((a.toNat ^^^ b.toNat : Nat) : Int) := by
  have e : ∀ x : Int, 0 ≤ x ∧ x < 4096 → (BitVec.ofInt 32 x).toNat = x.toNat := fun x hx => by
    rw [BitVec.toNat_ofInt]; omega
  have h1 : a.toNat ^^^ b.toNat < 2 ^ 12 := Nat.xor_lt_two_pow (by omega) (by omega)
  unfold bxor
  rw [← Int32.toInt_toBitVec, Int32.toBitVec_xor, Int32.toBitVec_ofInt, Int32.toBitVec_ofInt, BitVec.toInt_eq_toNat_of_lt, BitVec.toNat_xor, e a ha, e b hb]
  rw [BitVec.toNat_xor, e a ha, e b hb]
  omega
theorem bv_in {S A : BitVec 32} : S &&& ~~~A = 0#32 ↔ S &&& A = S := by
  constructor
  · intro h
    apply BitVec.eq_of_getLsbD_eq
    intro i hi
    have z := congrArg (fun x => x.getLsbD i) h
    simp only [BitVec.getLsbD_and, BitVec.getLsbD_not, hi, decide_true, Bool.true_and, BitVec.getLsbD_zero] at z ⊢
    revert z
    cases S.getLsbD i <;> cases A.getLsbD i <;> simp
  · intro h
    apply BitVec.eq_of_getLsbD_eq
    intro i hi
    have z := congrArg (fun x => x.getLsbD i) h
    simp only [BitVec.getLsbD_and, BitVec.getLsbD_not, hi, decide_true, Bool.true_and, BitVec.getLsbD_zero] at z ⊢
    revert z
    cases S.getLsbD i <;> cases A.getLsbD i <;> simp
theorem band_in {s a : Int} (hs : 0 ≤ s ∧ s < 4096) (ha : 0 ≤ a ∧ a < 4096) : band s (bxor a (-1)) = 0 ↔ s.toNat &&& a.toNat = s.toNat := by
  have e : ∀ x : Int, 0 ≤ x ∧ x < 4096 → (BitVec.ofInt 32 x).toNat = x.toNat := fun x hx => by
    rw [BitVec.toNat_ofInt]; omega
  unfold band bxor
  rw [← Int32.toInt_toBitVec, Int32.toBitVec_and, Int32.toBitVec_ofInt, Int32.toBitVec_ofInt, ← Int32.toInt_toBitVec, BitVec.ofInt_toInt, Int32.toBitVec_xor, Int32.toBitVec_ofInt, Int32.toBitVec_ofInt]
  rw [show (BitVec.ofInt 32 (-1)) = BitVec.allOnes 32 by decide, BitVec.xor_allOnes]
  rw [show (0 : Int) = (0#32).toInt by decide, BitVec.toInt_inj, bv_in]
  constructor
  · intro h
    have z := congrArg BitVec.toNat h
    rw [BitVec.toNat_and, e s hs, e a ha] at z
    exact z
  · intro h
    apply BitVec.eq_of_toNat_eq
    rw [BitVec.toNat_and, e s hs, e a ha]
    exact h
theorem nand_mod {a b : Nat} : (a &&& b) % 2 = (a % 2) * (b % 2) := by
  have z := Nat.testBit_and a b 0
  simp only [Nat.testBit_zero] at z
  have h1 := Nat.mod_two_eq_zero_or_one a
  have h2 := Nat.mod_two_eq_zero_or_one b
  have h3 := Nat.mod_two_eq_zero_or_one (a &&& b)
  rcases h1 with h1 | h1 <;> rcases h2 with h2 | h2 <;> rcases h3 with h3 | h3 <;> simp [h1, h2, h3] at z ⊢
/-- the sets within s from above: none is left out -/
theorem sub_next : ∀ (m t s a : Nat), t < m → t &&& s = t → a &&& s = a → a < t → a ≤ (t - 1) &&& s
  | 0, t, s, a, h, _, _, _ => by omega
  | m + 1, t, s, a, h, ht, ha, hl => by
    have d := Nat.and_div_two_pow (a := t - 1) (b := s) (n := 1)
    have md := nand_mod (a := t - 1) (b := s)
    have t1 := Nat.and_div_two_pow (a := t) (b := s) (n := 1)
    have t2 := nand_mod (a := t) (b := s)
    have a1 := Nat.and_div_two_pow (a := a) (b := s) (n := 1)
    have a2 := nand_mod (a := a) (b := s)
    rw [Nat.pow_one] at d t1 a1
    rw [ht] at t1 t2
    rw [ha] at a1 a2
    have s2 := Nat.mod_two_eq_zero_or_one s
    have ih := sub_next m (t / 2) (s / 2) (a / 2)
    have q2 := Nat.mod_two_eq_zero_or_one t
    have b2 := Nat.mod_two_eq_zero_or_one a
    generalize (t - 1) &&& s = r at d md ⊢
    rcases q2 with q2 | q2
    · have e : (t - 1) / 2 = t / 2 - 1 := by omega
      have e2 : (t - 1) % 2 = 1 := by omega
      rw [e] at d
      rw [e2] at md
      have z := ih (by omega) t1.symm a1.symm (by omega)
      rw [← d] at z
      rcases s2 with s2 | s2 <;> rcases b2 with b2 | b2 <;> rw [s2] at a2 md <;> rw [b2] at a2 <;> omega
    · have e : (t - 1) / 2 = t / 2 := by omega
      rw [e, ← t1] at d
      omega
theorem xor_sub {t s : Nat} (h : t &&& s = t) : t &&& (s ^^^ t) = 0 ∧ t ||| (s ^^^ t) = s := by
  have z : ∀ i, t.testBit i = true → s.testBit i = true := fun i hi => by
    have y := congrArg (fun x => x.testBit i) h
    simp only [Nat.testBit_and, hi, Bool.true_and] at y
    exact y
  constructor
  · apply Nat.eq_of_testBit_eq
    intro i
    have zi := z i
    rw [Nat.testBit_and, Nat.testBit_xor, Nat.zero_testBit]
    revert zi
    cases t.testBit i <;> cases s.testBit i <;> simp
  · apply Nat.eq_of_testBit_eq
    intro i
    have zi := z i
    rw [Nat.testBit_or, Nat.testBit_xor]
    revert zi
    cases t.testBit i <;> cases s.testBit i <;> simp
theorem xor_of {a b : Nat} (h : a &&& b = 0) : (a ||| b) ^^^ a = b := by
  apply Nat.eq_of_testBit_eq
  intro i
  have y := congrArg (fun x => x.testBit i) h
  simp only [Nat.testBit_and, Nat.zero_testBit] at y
  rw [Nat.testBit_xor, Nat.testBit_or]
  revert y
  cases a.testBit i <;> cases b.testBit i <;> simp
theorem or_and {a b : Nat} : a &&& (a ||| b) = a := by
  apply Nat.eq_of_testBit_eq
  intro i
  rw [Nat.testBit_and, Nat.testBit_or]
  cases a.testBit i <;> cases b.testBit i <;> simp

/-! 64.lowbit: bits of a set (pure) -/
abbrev S91 : Nat → Nat → Bool := fun o f => o == 9 && f == 1
def lbK (s : Nat) : Bool := decide (0 ≤ band s (-s) - 1 ∧ band s (-s) - 1 < 4096 ∧ pcN (band s (-s) - 1).toNat < 12 ∧ s.testBit (pcN (band s (-s) - 1).toNat) = true ∧ band s (s - 1) = ((s - 2 ^ pcN (band s (-s) - 1).toNat : Nat) : Int) ∧ pcN s ≤ 12)
set_option maxRecDepth 100000 in
theorem lb_all : ∀ s : Nat, s < 4096 → s ≠ 0 → lbK s = true := by decide +kernel
set_option maxRecDepth 100000 in
theorem pc_0 : ∀ s : Nat, s < 4096 → pcN s = 0 → s = 0 := by decide +kernel
theorem pcS_t {s h c : Nat} : pcS s h c = if s.testBit h = true then c + 1 else c := by
  unfold pcS
  simp only [Nat.testBit_eq_decide_div_mod_eq, decide_eq_true_eq]
theorem tb_sub {s v : Nat} (h : s.testBit v = true) (x : Nat) : (s - 2 ^ v).testBit x = true ↔ s.testBit x = true ∧ x ≠ v := by
  have e : s / 2 ^ v % 2 = 1 := by
    rw [Nat.testBit_eq_decide_div_mod_eq, decide_eq_true_eq] at h
    exact h
  have p := Nat.two_pow_pos v
  have d := Nat.div_add_mod s (2 ^ v)
  have l := Nat.mod_lt s p
  generalize hq : s / 2 ^ v = q at e d
  generalize hr : s % 2 ^ v = r at d l
  obtain ⟨u, rfl⟩ : ∃ u, q = 2 * u + 1 := ⟨q / 2, by omega⟩
  have d2 : s - 2 ^ v = 2 ^ v * (2 * u) + r := by
    rw [Nat.mul_add, Nat.mul_one] at d
    omega
  rw [d2, ← d, Nat.testBit_two_pow_mul_add _ l, Nat.testBit_two_pow_mul_add _ l]
  by_cases c : x < v
  · rw [if_pos c, if_pos c]
    exact ⟨fun z => ⟨z, by omega⟩, fun z => z.1⟩
  · rw [if_neg c, if_neg c]
    by_cases e2 : x = v
    · subst e2
      rw [Nat.sub_self]
      constructor
      · intro z
        rw [Nat.testBit_zero] at z
        simp at z
      · intro z; exact (z.2 rfl).elim
    · obtain ⟨y, hy⟩ : ∃ y, x - v = y + 1 := ⟨x - v - 1, by omega⟩
      rw [hy, Nat.testBit_succ, Nat.testBit_succ, show (2 * u + 1) / 2 = u by omega, show 2 * u / 2 = u by omega]
      exact ⟨fun z => ⟨z, e2⟩, fun z => z.1⟩
theorem pc_sub {s v : Nat} (h : s.testBit v = true) : ∀ n : Nat, iter (pcS (s - 2 ^ v)) n 0 + (if v < n then 1 else 0) = iter (pcS s) n 0
  | 0 => by rw [if_neg (by omega)]; rfl
  | n + 1 => by
    have ih := pc_sub h n
    show pcS (s - 2 ^ v) n (iter (pcS (s - 2 ^ v)) n 0) + _ = pcS s n (iter (pcS s) n 0)
    rw [pcS_t, pcS_t, ← ih]
    have t := tb_sub h n
    by_cases e : n = v
    · subst e
      rw [if_neg (fun z => ((t.mp z).2 rfl)), if_pos h, if_pos (by omega), if_neg (by omega)]
    · by_cases b : s.testBit n = true
      · rw [if_pos (t.mpr ⟨b, e⟩), if_pos b]
        by_cases c : v < n
        · rw [if_pos c, if_pos (by omega)]
        · rw [if_neg c, if_neg (by omega)]
      · rw [if_neg (fun z => b (t.mp z).1), if_neg b]
        by_cases c : v < n
        · rw [if_pos c, if_pos (by omega)]
        · rw [if_neg c, if_neg (by omega)]
theorem tb_le {s v : Nat} (h : s.testBit v = true) : 2 ^ v ≤ s := Nat.ge_two_pow_of_testBit h
theorem bit_tb {s : Nat} (h0 : s ≤ 2147483647) (h : Nat) : band ((s : Int) / 2 ^ h) 1 = 1 ↔ s.testBit h = true := by
  rw [band_bit (by omega) h, Int.toNat_natCast, Nat.testBit_eq_decide_div_mod_eq, decide_eq_true_eq]

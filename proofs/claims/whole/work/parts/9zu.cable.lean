/-! 9zu.cable: cable, a command of both -/
theorem WF.addCable {P : Pt} (h : WF P) {a b c : Int} (hx : (0 ≤ a ∧ a < P 2 0) ∧ (0 ≤ b ∧ b < P 2 0) ∧ a ≠ b ∧ (1 ≤ c ∧ c ≤ 9999) ∧ P 2 3 < 20) : WF (P_cable P a b c) := by
  obtain ⟨x1, x2, x3, x4, x5⟩ := hx
  have s := h.sc
  have key : ∀ n : Nat, (n : Int) < P 2 3 + 1 → (0 ≤ (if 23 = 23 ∧ n = (P 2 3).toNat then a else P 23 n) ∧ (if 23 = 23 ∧ n = (P 2 3).toNat then a else P 23 n) < P 2 0) ∧ (0 ≤ (if 24 = 24 ∧ n = (P 2 3).toNat then b else P 24 n) ∧ (if 24 = 24 ∧ n = (P 2 3).toNat then b else P 24 n) < P 2 0) ∧ (if 23 = 23 ∧ n = (P 2 3).toNat then a else P 23 n) ≠ (if 24 = 24 ∧ n = (P 2 3).toNat then b else P 24 n) ∧ (1 ≤ (if 25 = 25 ∧ n = (P 2 3).toNat then c else P 25 n) ∧ (if 25 = 25 ∧ n = (P 2 3).toNat then c else P 25 n) ≤ 9999) ∧ (0 ≤ (if 26 = 26 ∧ n = (P 2 3).toNat then 0 else P 26 n) ∧ (if 26 = 26 ∧ n = (P 2 3).toNat then 0 else P 26 n) ≤ (if 25 = 25 ∧ n = (P 2 3).toNat then c else P 25 n)) := fun n hn => by
    by_cases e : n = (P 2 3).toNat
    · rw [if_pos ⟨rfl, e⟩, if_pos ⟨rfl, e⟩, if_pos ⟨rfl, e⟩, if_pos ⟨rfl, e⟩]; exact ⟨x1, x2, x3, x4, by omega, by omega⟩
    · rw [if_neg (fun z => e z.2), if_neg (fun z => e z.2), if_neg (fun z => e z.2), if_neg (fun z => e z.2)]; exact h.cb (by omega)
  refine ⟨⟨s.1, s.2.1, s.2.2.1, ?_, s.2.2.2.2⟩, h.2.1, h.2.2.1, h.2.2.2.1, h.2.2.2.2.1, fun n hn => key n hn, fun n hn => ?_, h.2.2.2.2.2.2.2⟩
  · show 0 ≤ P 2 3 + 1 ∧ P 2 3 + 1 ≤ 20
    omega
  · have hn' : P 2 3 + 1 ≤ (n : Int) := hn
    show (if 26 = 26 ∧ n = (P 2 3).toNat then 0 else P 26 n) = 0
    split
    · rfl
    · exact h.c0 (by omega)
section CPR
variable {G : Gl} {w : Wd} {k : Nat} {σ : Mem} {P : Pt} {n N : Nat} {Cs : Nat → List Cl} {bb : Nat → Prop} {Pk : Nat → Pt}
theorem pair_cable (L : LW w σ P n Cs N bb Pk) (hk : 10 ≤ k) {a b c : Int} : Pair G w w k (0, 0) 83 [vr 0 0 0, vi a, vi b, vi c] 142 [vr 21 0 0, vi a, vi b, vi c] σ := by
  have W := L.1.2.2.1
  have s := W.sc
  refine ⟨fun v σ1 => (¬ ((0 ≤ a ∧ a < P 2 0) ∧ (0 ≤ b ∧ b < P 2 0) ∧ a ≠ b ∧ (1 ≤ c ∧ c ≤ 9999) ∧ P 2 3 < 20 ∧ cobP P a b (P 2 3).toNat = -1) ∧ v = vi (-1) ∧ σ1 = σ) ∨ (((0 ≤ a ∧ a < P 2 0) ∧ (0 ≤ b ∧ b < P 2 0) ∧ a ≠ b ∧ (1 ≤ c ∧ c ≤ 9999) ∧ P 2 3 < 20 ∧ cobP P a b (P 2 3).toNat = -1) ∧ v = vi (P 2 3) ∧ RT True σ1 1 (P_cable P a b c) ∧ WRs σ1 1 (P_cable P a b c) ∧ same (fun o f => o == 1 && (f == 6 || f == 13 || f == 14)) σ σ1), fun a σ1 hm => by rcases hm with ⟨_, rfl, _⟩ | ⟨_, rfl, _⟩ <;> exact ⟨_, rfl⟩, fun Q q => kc_cable L.1.1.1 W L.1.1.2.1 hk (fun z => q _ _ (Or.inl ⟨z, rfl, rfl⟩)) (fun z σ1 R1 N1 s1 => q _ _ (Or.inr ⟨z, rfl, R1, N1, s1⟩)), fun v σ1 hm Q q => ?_⟩
  rcases hm with ⟨z, rfl, rfl⟩ | ⟨z, rfl, R1, N1, s1⟩
  · exact kx_cable L.1.2.1 W hk (fun _ => q _ L.x) (fun z' => absurd z' z)
  · have M1 : MR σ1 P := fun f i h2 h38 => (s1 21 f rfl 0 i).trans (L.1.2.1 f i h2 h38)
    refine kx_cable M1 W hk (fun z' => absurd z z') (fun _ σ2 M2 s2 => q _ ⟨P_cable P a b c, n, Cs, N, bb, Pk, ?_⟩)
    have ti : (P 2 3).toNat < 20 := by omega
    have k1 : same KSf σ σ1 := s1.mono (fun o f y => by
      have y' : (o == 1 && (f == 6 || f == 13 || f == 14)) = true := y
      simp only [Bool.and_eq_true, beq_iff_eq] at y'
      rw [y'.1]
      rfl)
    have k2 : same KSf σ1 σ2 := s2.mono (fun o f y => by
      have y' : (o == 21 && (f == 2 || f == 23 || f == 24 || f == 25 || f == 26)) = true := y
      simp only [Bool.and_eq_true, Bool.or_eq_true, beq_iff_eq] at y'
      obtain ⟨rfl, y2⟩ := y'
      rcases y2 with (((rfl | rfl) | rfl) | rfl) | rfl <;> rfl)
    have o1 : ∀ f r j, σ2 1 f r j = σ1 1 f r j := fun f r j => s2 1 f rfl r j
    refine L.step (k1.trans k2) ⟨⟨fun f i hi hg => (o1 _ _ _).trans (R1 f i hi hg), fun a' b' ha hb => (o1 _ _ _).trans (N1 a' b' ha hb), fun f h0 h1 c' hc => (o1 _ _ _).trans ((s1 1 10 rfl _ _).trans ((L.1.1.2.2.of (P' := P_cable P a b c) rfl (fun _ => rfl) (fun _ => rfl)) f h0 h1 c' hc))⟩, M2⟩ ⟨W.addCable ⟨z.1, z.2.1, z.2.2.1, z.2.2.2.1, z.2.2.2.2.1⟩, ((((L.qp.pu (f := 23) (i := (P 2 3).toNat) (v := a) (by decide) (by omega) ti).pu (f := 24) (i := (P 2 3).toNat) (v := b) (by decide) (by omega) ti).pu (f := 25) (i := (P 2 3).toNat) (v := c) (by decide) (by omega) ti).pu (f := 26) (i := (P 2 3).toNat) (v := 0) (by decide) (by omega) ti).pu (f := 2) (i := 3) (v := P 2 3 + 1) (by decide) (by omega) (by decide)⟩
end CPR

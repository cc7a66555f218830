/-! 9zx.back: back, a command of both -/
section BPR
variable {G : Gl} {w : Wd} {k : Nat} {σ : Mem} {P : Pt} {nr N : Nat} {Cs : Nat → List Cl} {b : Nat → Prop} {Pk : Nat → Pt}
theorem pair_back (L : LW w σ P nr Cs N b Pk) (hk : 14 ≤ k) {n : Int} : Pair G w w k (0, 0) 126 [vr 0 0 0, vi n] 247 [vr 21 0 0, vi n] σ := by
  obtain ⟨d1, d2, d3, d4⟩ := L.2.2.2.1
  have hb : ∀ z : (0 ≤ n ∧ n ≤ 3) ∧ b n.toNat, LI σ n.toNat (Pk n.toNat) := fun z => d4 n.toNat (by omega) z.2
  have hbx : (0 ≤ n ∧ n ≤ 3) → (b n.toNat ↔ σ 21 76 0 n.toNat ≠ 0) := fun z => d3 n.toNat (by omega)
  refine ⟨fun v σ1 => (¬ ((0 ≤ n ∧ n ≤ 3) ∧ b n.toNat) ∧ v = vi (-1) ∧ σ1 = σ) ∨ (((0 ≤ n ∧ n ≤ 3) ∧ b n.toNat) ∧ v = vi (Pk n.toNat 2 6) ∧ TF σ1 (Pk n.toNat) ∧ same (fun o _ => o == 1) σ σ1), fun a σ1 hm => by rcases hm with ⟨_, rfl, _⟩ | ⟨_, rfl, _⟩ <;> exact ⟨_, rfl⟩, fun Q q => kc_back (Pn := Pk n.toNat) d1 hk (fun z => ⟨(hb z).1.1, (hb z).2.1, (hb z).1.2.2, (hb z).1.2.1⟩) (fun z => q _ _ (Or.inl ⟨z, rfl, rfl⟩)) (fun z σ1 T1 s1 => q _ _ (Or.inr ⟨z, rfl, T1, s1⟩)), fun v σ1 hm Q q => ?_⟩
  rcases hm with ⟨z, rfl, rfl⟩ | ⟨z, rfl, T1, s1⟩
  · exact kx_backI (Pn := Pk n.toNat) L.1.2.1 L.1.2.2.2.2.2.1 hk (fun y => absurd ⟨y.1, (hbx y.1).mpr y.2⟩ z) (fun _ => q _ L.x) (fun y => absurd ⟨y.1, (hbx y.1).mpr y.2⟩ z)
  · have M1 : MR σ1 P := fun f i h2 h38 => (s1 21 f rfl 0 i).trans (L.1.2.1 f i h2 h38)
    have e76 : ∀ i, σ1 21 76 0 i = σ 21 76 0 i := fun i => s1 21 76 rfl 0 i
    have I1 := hb z
    refine kx_backI (Pn := Pk n.toNat) M1 L.1.2.2.2.2.2.1 hk (fun _ => ⟨fun f i hi => ?_, I1.2.2.2.2.1⟩) (fun y => absurd ⟨z.1, by rw [e76]; exact (hbx z.1).mp z.2⟩ y) (fun _ σ2 M2 s2 => q _ ⟨Pk n.toNat, nr, Cs, N, b, Pk, ?_⟩)
    · rw [s1 21 75 rfl 0 _]; exact I1.2.2.2.2.2.2 f i hi
    · have k1 : same KSf σ σ1 := s1.mono (fun o f y => by
        have y' : (o == 1) = true := y
        rw [beq_iff_eq] at y'
        rw [y']
        rfl)
      have k2 : same KSf σ1 σ2 := s2.mono (fun o f y => by
        have y' : (o == 21 && ((decide (2 ≤ f) && decide (f ≤ 38)) || f == 77 || f == 78)) = true := y
        simp only [Bool.and_eq_true, Bool.or_eq_true, beq_iff_eq, decide_eq_true_eq] at y'
        obtain ⟨rfl, y2⟩ := y'
        unfold KSf prt
        simp
        omega)
      have o1 : ∀ f r j, σ2 1 f r j = σ1 1 f r j := fun f r j => s2 1 f rfl r j
      exact L.step (k1.trans k2) ⟨T1.keep1 o1, M2⟩ ⟨I1.2.1, I1.2.2.1, I1.2.2.2.1, I1.2.2.2.2.1, I1.2.2.2.2.2.1⟩
end BPR

/-! 9zm.keep: what a command leaves alone stays as both hold it -/
/-- what rules, tape, images and the reader stand in -/
def prt (o f : Nat) : Bool := (o == 0 && decide (f ≤ 7)) || (o == 7 && (f == 1 || f == 9)) || (o == 10 && f == 2) || (decide (13 ≤ o) && decide (o ≤ 20) && decide (f ≤ 8)) || (decide (3 ≤ o) && decide (o ≤ 6)) || (o == 21 && (f == 39 || f == 43 || f == 48 || f == 49 || (decide (50 ≤ f) && decide (f ≤ 57)) || f == 75 || f == 76))
def KSf : Nat → Nat → Bool := fun o f => !(prt o f)
section KPL
variable {w : Wd} {σ σ' : Mem} {P : Pt} {n N : Nat} {Cs : Nat → List Cl} {b : Nat → Prop} {Pk : Nat → Pt}
theorem ks_0 (hs : same KSf σ σ') {f : Nat} (h : f ≤ 7) (r c : Nat) : σ' 0 f r c = σ 0 f r c := hs 0 f (by unfold KSf prt; simp [h]) r c
theorem ks_7 (hs : same KSf σ σ') {f : Nat} (h : f = 1 ∨ f = 9) (r c : Nat) : σ' 7 f r c = σ 7 f r c := hs 7 f (by unfold KSf prt; rcases h with rfl | rfl <;> rfl) r c
theorem ks_10 (hs : same KSf σ σ') (r c : Nat) : σ' 10 2 r c = σ 10 2 r c := hs 10 2 rfl r c
theorem ks_r (hs : same KSf σ σ') {i f : Nat} (hi : i < 8) (h : f ≤ 8) (r c : Nat) : σ' (13 + i) f r c = σ (13 + i) f r c := hs (13 + i) f (by unfold KSf prt; simp [h, show 13 + i ≤ 20 by omega]) r c
theorem ks_i (hs : same KSf σ σ') {i : Nat} (hi : i < 4) (f r c : Nat) : σ' (3 + i) f r c = σ (3 + i) f r c := hs (3 + i) f (by unfold KSf prt; simp [show 3 + i ≤ 6 by omega]) r c
theorem ks_x (hs : same KSf σ σ') {f : Nat} (h : f = 39 ∨ f = 43 ∨ f = 48 ∨ f = 49 ∨ (50 ≤ f ∧ f ≤ 57) ∨ f = 75 ∨ f = 76) (r c : Nat) : σ' 21 f r c = σ 21 f r c := hs 21 f (by
  unfold KSf prt
  simp
  omega) r c
theorem LB.keep (L : LB w σ n Cs) (hs : same KSf σ σ') : LB w σ' n Cs := by
  obtain ⟨⟨h1, h2, h3⟩, h4, h5, h6⟩ := L
  refine ⟨⟨(ks_0 hs (by omega) 0 0).trans h1, (ks_x hs (by omega) 0 0).trans h2, h3⟩, h4.keepS (fun i hi f r c hf => ks_r hs (by omega) hf r c) (fun f a b r c => ks_x hs (by omega) r c), fun i hi => ?_, fun i hi => ?_⟩
  · rw [ks_0 hs (by omega) 0 i]; exact h5 i hi
  · rw [ks_0 hs (by omega) 0 i]; exact h6 i hi
theorem LC.keep (L : LC σ N) (hs : same KSf σ σ') : LC σ' N := by
  obtain ⟨h1, h2, h3, h4, h5⟩ := L
  refine ⟨(ks_0 hs (by omega) 0 0).trans h1, (ks_x hs (by omega) 0 0).trans h2, h3, (ks_x hs (by omega) 0 0).trans h4, fun i hi => ?_⟩
  rw [ks_0 hs (by omega) 0 i, ks_x hs (by omega) 0 i]
  exact h5 i hi
theorem LI.keep {i : Nat} (L : LI σ i P) (hi : i < 4) (hs : same KSf σ σ') : LI σ' i P := by
  obtain ⟨⟨h1, h2, h3⟩, h4, h5, h6, h7, h8, h9⟩ := L
  refine ⟨⟨fun f j hj hg => (ks_i hs hi _ _ _).trans (h1 f j hj hg), fun x y hx hy => (ks_i hs hi _ _ _).trans (h2 x y hx hy), fun f h0 h1 c hc => (ks_i hs hi _ _ _).trans (h3 f h0 h1 c hc)⟩, h4, h5, h6, h7, h8, fun f j hj => ?_⟩
  rw [ks_x hs (by omega) 0 _]
  exact h9 f j hj
theorem LD.keep (L : LD w σ b Pk) (hs : same KSf σ σ') : LD w σ' b Pk := by
  obtain ⟨h1, h2, h3, h4⟩ := L
  refine ⟨fun i hi => ?_, h2, fun i hi => ?_, fun i hi hb => (h4 i hi hb).keep hi hs⟩
  · rw [ks_0 hs (by omega) 0 i]; exact h1 i hi
  · rw [ks_x hs (by omega) 0 i]; exact h3 i hi
theorem LE.keep (L : LE w σ) (hs : same KSf σ σ') : LE w σ' := by
  unfold LE at L ⊢
  rw [ks_7 hs (Or.inl rfl) 0 0, ks_7 hs (Or.inr rfl) 0 0]
  exact L
/-- a command that leaves all that alone: from P to P' -/
theorem LW.step {P' : Pt} (L : LW w σ P n Cs N b Pk) (hs : same KSf σ σ') (hA : TF σ' P' ∧ MR σ' P') (hP : WF P' ∧ N38 P' ∧ GZ P' ∧ ZR P' ∧ P' 2 6 ≤ 9999) : LW w σ' P' n Cs N b Pk :=
  ⟨⟨hA.1, hA.2, hP.1, hP.2.1, hP.2.2.1, hP.2.2.2.1, hP.2.2.2.2, (ks_10 hs 0 0).trans L.1.2.2.2.2.2.2.2⟩, L.2.1.keep hs, L.2.2.1.keep hs, L.2.2.2.1.keep hs, L.2.2.2.2.keep hs⟩
/-- a command that tells alone -/
theorem LW.ask (L : LW w σ P n Cs N b Pk) (hs : same KSf σ σ') (hA : TF σ' P ∧ MR σ' P) : LW w σ' P n Cs N b Pk := L.step hs hA ⟨L.1.2.2.1, L.1.2.2.2.1, L.1.2.2.2.2.1, L.1.2.2.2.2.2.1, L.1.2.2.2.2.2.2.1⟩
/-- the rules, as run() and its like ask for them -/
theorem LB.rules {G : Gl} (L : LB w σ n Cs) : RLs w σ (n : Nat) ∧ RUs G w (n : Nat) (fun i => uOf (Cs i)) σ ∧ XUs G w (n : Nat) (fun i => uOf (Cs i)) σ := by
  obtain ⟨⟨h1, h2, h3⟩, h4, h5, h6⟩ := L
  refine ⟨⟨h1, by omega, fun i hi => h6 i (by omega)⟩, fun i hi => ?_, fun i hi => ?_⟩
  · obtain ⟨⟨g1, g2⟩, g3, g4⟩ := h4 i (by omega)
    exact kc_RuC (by omega) g1 g2 g3
  · obtain ⟨⟨g1, g2⟩, g3, g4⟩ := h4 i (by omega)
    exact kx_RuX (by omega) g1 g2 g4
end KPL

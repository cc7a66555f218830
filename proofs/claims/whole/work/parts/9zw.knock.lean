/-! 9zw.knock: knock, a command of both -/
theorem WF.pu15 {P : Pt} (h : WF P) {i : Nat} {v : Int} (hv : 0 ≤ v ∧ v ≤ 1) : WF (pu P 15 i v) :=
  ⟨h.1, h.2.1, h.2.2.1, fun n hn => by
    obtain ⟨a1, a2, a3, a4, a5, a6, a7⟩ := h.2.2.2.1 n hn
    refine ⟨a1, a2, a3, a4, a5, a6, ?_⟩
    show 0 ≤ (if 15 = 15 ∧ n = i then v else P 15 n) ∧ (if 15 = 15 ∧ n = i then v else P 15 n) ≤ 1
    split
    · exact hv
    · exact a7, h.2.2.2.2⟩
theorem kst_wf {P : Pt} (W : WF P) (q : QP P) (h : Int) : ∀ m : Nat, m ≤ 40 → WF (iter (kst h) m (P, 0)).1 ∧ QP (iter (kst h) m (P, 0)).1
  | 0, _ => ⟨W, q⟩
  | m + 1, hm => by
    have ih := kst_wf W q h m (by omega)
    show WF (kst h m (iter (kst h) m (P, 0))).1 ∧ QP (kst h m (iter (kst h) m (P, 0))).1
    unfold kst
    split
    · exact ⟨ih.1.pu15 (by omega), ih.2.pu (by decide) (by omega) (by show m < 40; omega)⟩
    · exact ih
section KNK
variable {G : Gl} {w : Wd} {k : Nat} {σ : Mem} {P : Pt} {n N : Nat} {Cs : Nat → List Cl} {b : Nat → Prop} {Pk : Nat → Pt}
theorem pair_knock (L : LW w σ P n Cs N b Pk) (hk : 8 ≤ k) {h : Int} : Pair G w w k (0, 0) 85 [vr 0 0 0, vi h] 144 [vr 21 0 0, vi h] σ := by
  have W := L.1.2.2.1
  have s := W.sc
  have kw := kst_wf W L.qp h (P 2 1).toNat (by omega)
  have kf := (kst_inv (P := P) (h := h) (P 2 1).toNat).1
  refine ⟨fun v σ1 => (¬ (0 ≤ h ∧ h < P 2 0) ∧ v = vi (-1) ∧ σ1 = σ) ∨ ((0 ≤ h ∧ h < P 2 0) ∧ v = vi (iter (kst h) (P 2 1).toNat (P, 0)).2 ∧ RT True σ1 1 (iter (kst h) (P 2 1).toNat (P, 0)).1 ∧ same (fun o f => o == 1 && f == 11) σ σ1), fun a σ1 hm => by rcases hm with ⟨_, rfl, _⟩ | ⟨_, rfl, _⟩ <;> exact ⟨_, rfl⟩, fun Q q => kc_knock L.1.1.1 W hk (fun z => q _ _ (Or.inl ⟨z, rfl, rfl⟩)) (fun z σ1 R1 s1 => q _ _ (Or.inr ⟨z, rfl, R1, s1⟩)), fun v σ1 hm Q q => ?_⟩
  rcases hm with ⟨z, rfl, rfl⟩ | ⟨z, rfl, R1, s1⟩
  · exact kx_knock L.1.2.1 W hk (fun _ => q _ L.x) (fun z' => absurd z' z)
  · have M1 : MR σ1 P := fun f i h2 h38 => (s1 21 f rfl 0 i).trans (L.1.2.1 f i h2 h38)
    refine kx_knock M1 W hk (fun z' => absurd z z') (fun _ σ2 M2 s2 => q _ ?_)
    have k1 : same KSf σ σ1 := s1.mono (fun o f y => by
      have y' : (o == 1 && f == 11) = true := y
      simp only [Bool.and_eq_true, beq_iff_eq] at y'
      rw [y'.1, y'.2]
      rfl)
    have k2 : same KSf σ1 σ2 := s2.mono (fun o f y => by
      have y' : (o == 21 && f == 15) = true := y
      simp only [Bool.and_eq_true, beq_iff_eq] at y'
      rw [y'.1, y'.2]
      rfl)
    have o1 : ∀ f r j, σ2 1 f r j = σ1 1 f r j := fun f r j => s2 1 f rfl r j
    exact L.setG (k1.trans k2) (fun f i hi hg => (o1 _ _ _).trans (R1 f i hi hg)) (fun r c => (o1 _ _ _).trans (s1 1 10 rfl r c)) (fun r c => (o1 _ _ _).trans (s1 1 14 rfl r c)) M2 (kf 2 0 (by decide)) (kf 2 3 (by decide)) (fun i => kf 3 i (by decide)) (fun i => kf 4 i (by decide)) (fun i => kf 23 i (by decide)) (fun i => kf 24 i (by decide)) kw.1 kw.2
end KNK

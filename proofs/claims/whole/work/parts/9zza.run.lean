/-! 9zza.run: run, feed, end, rows: commands of both -/
section RNP
variable {G : Gl} {w : Wd} {k : Nat} {σ : Mem} {P : Pt} {n N : Nat} {Cs : Nat → List Cl} {b : Nat → Prop} {Pk : Nat → Pt}
theorem fr_SP {x : Nat} (hx : x < 8) : ∀ o f, SP 1 (13 + x) o f = true → KSf o f = true ∧ o ≠ 21 := fun o f z => by
  unfold SP SQ at z
  simp only [Bool.or_eq_true, Bool.and_eq_true, beq_iff_eq] at z
  refine ⟨?_, by omega⟩
  unfold KSf prt
  simp
  omega
theorem pair_run (L : LW w σ P n Cs N b Pk) (hk : 32 ≤ k) {r m : Int} : PairL G w w k (0, 0) 93 [vr 0 0 0, vi r, vi m] 194 [vr 21 0 0, vi r, vi m] σ := by
  have W := L.1.2.2.1
  have kp : (0 ≤ r ∧ r < ((n : Nat) : Int)) ∧ (1 ≤ m ∧ m ≤ 60) ∧ P 2 6 + m ≤ 9999 → WF (rnP (uOf (Cs r.toNat)) 0 m.toNat P).1 ∧ QP (rnP (uOf (Cs r.toNat)) 0 m.toNat P).1 := fun c =>
    QP.rn W L.qp ((L.2.1.rules (G := G)).2.1 r.toNat (by omega)).1.2.1 (by omega)
  refine ⟨fun a σ1 => (¬ ((0 ≤ r ∧ r < ((n : Nat) : Int)) ∧ (1 ≤ m ∧ m ≤ 60) ∧ P 2 6 + m ≤ 9999) ∧ a = vl (-1) ∧ σ1 = σ) ∨ (((0 ≤ r ∧ r < ((n : Nat) : Int)) ∧ (1 ≤ m ∧ m ≤ 60) ∧ P 2 6 + m ≤ 9999) ∧ a = vl (rnP (uOf (Cs r.toNat)) 0 m.toNat P).2 ∧ TF σ1 (rnP (uOf (Cs r.toNat)) 0 m.toNat P).1 ∧ same (SP 1 (13 + r.toNat)) σ σ1), fun a σ1 hm => by rcases hm with ⟨_, rfl, _⟩ | ⟨_, rfl, _⟩ <;> exact ⟨_, rfl⟩, fun Q q => kc_run L.1.1.1 W L.1.2.2.2.1 L.1.1.2.1 L.1.1.2.2 L.1.2.2.2.2.2.2.1 (L.2.1.rules (G := G)).1 (L.2.1.rules).2.1 (by omega) (fun c => q _ _ (Or.inl ⟨c, rfl, rfl⟩)) (fun c σ1 R1 N1 W1 s1 => q _ _ (Or.inr ⟨c, rfl, ⟨R1, W1, N1⟩, s1⟩)), fun a σ1 hm Q q => ?_⟩
  rcases hm with ⟨c, rfl, rfl⟩ | ⟨c, rfl, T1, s1⟩
  · exact kx_run L.1.2.1 W L.1.2.2.2.1 L.1.2.2.2.2.2.2.1 L.2.1.1.2.1 (nr8 L.2.1) (L.2.1.rules).2.2 hk (fun _ => q _ L.x) (fun c' => absurd c' c)
  · have fr := fr_SP (x := r.toNat) (by have := nr8 L.2.1; omega)
    have k1 : same KSf σ σ1 := s1.mono (fun o f z => (fr o f z).1)
    have M1 : MR σ1 P := fun f i h2 h38 => (s1 21 f (nt fun z => (fr 21 f z).2 rfl) 0 i).trans (L.1.2.1 f i h2 h38)
    have B1 := L.2.1.keep k1
    refine kx_run M1 W L.1.2.2.2.1 L.1.2.2.2.2.2.2.1 B1.1.2.1 (nr8 B1) (B1.rules).2.2 hk (fun c' => absurd c c') (fun _ σ2 M2 s2 => q _ ⟨(rnP (uOf (Cs r.toNat)) 0 m.toNat P).1, n, Cs, N, b, Pk, ?_⟩)
    have k2 : same KSf σ1 σ2 := s2.mono (fun o f z => (fr_SX o f z).1)
    have o1 : ∀ f r j, σ2 1 f r j = σ1 1 f r j := fun f r j => s2 1 f rfl r j
    exact L.step (k1.trans k2) ⟨T1.keep1 o1, M2⟩ ⟨(kp c).1, (kp c).2⟩
theorem LW.mkE {σ' : Mem} {P' : Pt} {N' : Nat} (L : LW w σ P n Cs N b Pk) (T' : TF σ' P') (M' : MR σ' P') (W' : WF P') (q : QP P') (z10 : σ' 10 2 0 0 = 0) (eB : eqs pB σ σ') (C' : LC σ' N') (eD : eqs pD σ σ') (eE : eqs pE σ σ') : LW w σ' P' n Cs N' b Pk :=
  ⟨⟨T', M', W', q.1, q.2.1, q.2.2.1, q.2.2.2, z10⟩, L.2.1.keepE eB, C', L.2.2.2.1.keepE eD, L.2.2.2.2.keepE eE⟩
theorem pair_rows (L : LW w σ P n Cs N b Pk) (hk : 24 ≤ k) {m kk : Int} : Pair G w w k (0, 0) 117 [vr 0 0 0, vi m, vi kk] 230 [vr 21 0 0, vi m, vi kk] σ := by
  have W := L.1.2.2.1
  refine ⟨fun a σ1 => LW w σ1 P n Cs N b Pk ∧ ((¬ ((1 ≤ m ∧ m ≤ 7) ∧ (-1 ≤ kk ∧ kk < m)) ∧ a = vi (-1)) ∨ (((1 ≤ m ∧ m ≤ 7) ∧ (-1 ≤ kk ∧ kk < m)) ∧ (∀ x, x < 5 → ¬ 0 < P 34 x) ∧ a = vi (-2)) ∨ (((1 ≤ m ∧ m ≤ 7) ∧ (-1 ≤ kk ∧ kk < m)) ∧ (∃ x, x < 5 ∧ 0 < P 34 x) ∧ a = vi (rwA (rw0 P m.toNat) kk))), fun a σ1 hm => by rcases hm with ⟨_, ⟨_, rfl⟩ | ⟨_, _, rfl⟩ | ⟨_, _, rfl⟩⟩ <;> exact ⟨_, rfl⟩, fun Q q => kc_rows7 L.1.1.1 W (by omega) L.1.2.2.2.2.2.2.2 (fun c => q _ _ ⟨L, Or.inl ⟨c, rfl⟩⟩) (fun c c2 => q _ _ ⟨L, Or.inr (Or.inl ⟨c, c2, rfl⟩)⟩) (fun c c2 σ1 z10 s1 => q _ _ ⟨?_, Or.inr (Or.inr ⟨c, c2, rfl⟩)⟩), fun a σ1 hm Q q => ?_⟩
  · have ne : ∀ o f, o ≠ 10 → ∀ r c, σ1 o f r c = σ o f r c := fun o f h r c => s1 o f (by show (o == 10) = false; simp [h]) r c
    exact L.mkE (L.1.1.keep1 (fun f r c => ne 1 f (by decide) r c)) (fun f i a b => (ne 21 f (by decide) 0 i).trans (L.1.2.1 f i a b)) W L.qp z10 (fun o f z r c => ne o f (by unfold pB at z; simp at z; omega) r c) (L.2.2.1.keepE (fun o f z r c => ne o f (by unfold pC at z; simp at z; omega) r c)) (fun o f z r c => ne o f (by unfold pD at z; simp at z; omega) r c) (fun o f z r c => ne o f (by unfold pE at z; simp at z; omega) r c)
  · obtain ⟨L1, hm⟩ := hm
    refine kx_rows7 L1.1.2.1 W hk (fun c => ?_) (fun c c2 => ?_) (fun c c2 σ2 M2 s2 => ?_)
    · rcases hm with ⟨_, rfl⟩ | ⟨c', _⟩ | ⟨c', _⟩
      · exact q _ L1.x
      · exact absurd c' c
      · exact absurd c' c
    · rcases hm with ⟨c', _⟩ | ⟨_, _, rfl⟩ | ⟨_, ⟨x, x1, x2⟩, _⟩
      · exact absurd c c'
      · exact q _ L1.x
      · exact absurd x2 (c2 x x1)
    · rcases hm with ⟨c', _⟩ | ⟨_, c2', _⟩ | ⟨_, _, rfl⟩
      · exact absurd c c'
      · obtain ⟨x, x1, x2⟩ := c2
        exact absurd x2 (c2' x x1)
      · refine q _ (L1.asked2 (S2 := Srx) (fr_21 (fun o f z => ?_)) M2 s2).x
        simp only [Bool.or_eq_true, Bool.and_eq_true, beq_iff_eq] at z
        omega
theorem tp_ok {A M : Nat → Int} {t : Nat} {x : Int} (h : ∀ i, i < t → (0 ≤ A i ∧ A i ≤ 255) ∧ M i % 256 = A i ∧ -128 ≤ M i ∧ M i ≤ 127) : ∀ i, i < t + 4 → (0 ≤ tpA A t x i ∧ tpA A t x i ≤ 255) ∧ tpM M t x i % 256 = tpA A t x i ∧ -128 ≤ tpM M t x i ∧ tpM M t x i ≤ 127 := fun i hi => by
  unfold tpA tpM w8
  by_cases c3 : i = t + 3
  · rw [if_pos c3, if_pos c3]; omega
  · rw [if_neg c3, if_neg c3]
    by_cases c2 : i = t + 2
    · rw [if_pos c2, if_pos c2]; omega
    · rw [if_neg c2, if_neg c2]
      by_cases c1 : i = t + 1
      · rw [if_pos c1, if_pos c1]; omega
      · rw [if_neg c1, if_neg c1]
        by_cases c0 : i = t
        · rw [if_pos c0, if_pos c0]; omega
        · rw [if_neg c0, if_neg c0]
          exact h i (by omega)
theorem fd_ok {A M : Nat → Int} {t : Nat} {a b c d e : Int} (h : ∀ i, i < t → (0 ≤ A i ∧ A i ≤ 255) ∧ M i % 256 = A i ∧ -128 ≤ M i ∧ M i ≤ 127) : ∀ i, i < t + 20 → (0 ≤ fdA A t a b c d e i ∧ fdA A t a b c d e i ≤ 255) ∧ fdM M t a b c d e i % 256 = fdA A t a b c d e i ∧ -128 ≤ fdM M t a b c d e i ∧ fdM M t a b c d e i ≤ 127 :=
  tp_ok (tp_ok (tp_ok (tp_ok (tp_ok h))))
theorem nST {p : Nat → Nat → Bool} (hp : ∀ o f, p o f = true → ¬ (o = 0 ∧ (f = 6 ∨ f = 7)) ∧ ¬ (o = 21 ∧ (f = 39 ∨ f = 49))) {σ σ1 σ2 : Mem} (s1 : same ST σ σ1) (s2 : same SU σ1 σ2) : eqs p σ σ2 := fun o f z r c => by
  have y := hp o f z
  refine (s2 o f ?_ r c).trans (s1 o f ?_ r c)
  · show (o == 21 && (f == 39 || f == 49)) = false
    simp
    omega
  · show (o == 0 && (f == 6 || f == 7)) = false
    simp
    omega
theorem LW.tape {N' : Nat} {σ1 σ2 : Mem} (L : LW w σ P n Cs N b Pk) (s1 : same ST σ σ1) (s2 : same SU σ1 σ2) (C' : LC σ2 N') : LW w σ2 P n Cs N' b Pk := by
  refine L.mkE (L.1.1.keep1 (fun f r c => (s2 1 f rfl r c).trans (s1 1 f rfl r c))) (fun f i a b => ((s2 21 f ?_ 0 i).trans (s1 21 f rfl 0 i)).trans (L.1.2.1 f i a b)) L.1.2.2.1 L.qp (((s2 10 2 rfl 0 0).trans (s1 10 2 rfl 0 0)).trans L.1.2.2.2.2.2.2.2) (nST (fun o f z => ?_) s1 s2) C' (nST (fun o f z => ?_) s1 s2) (nST (fun o f z => ?_) s1 s2)
  · show (21 == 21 && (f == 39 || f == 49)) = false
    simp
    omega
  · unfold pB at z; simp at z; omega
  · unfold pD at z; simp at z; omega
  · unfold pE at z; simp at z; omega
theorem pair_feed (L : LW w σ P n Cs N b Pk) (hk : 8 ≤ k) {a0 b0 c0 d0 e0 : Int} : Pair G w w k (0, 0) 88 [vr 0 0 0, vi a0, vi b0, vi c0, vi d0, vi e0] 148 [vr 21 0 0, vi a0, vi b0, vi c0, vi d0, vi e0] σ := by
  obtain ⟨g1, g2, g3, g4, g5⟩ := L.2.2.1
  refine ⟨fun a σ1 => (¬ ((N : Nat) : Int) ≤ 380 ∧ a = vi (-1) ∧ σ1 = σ) ∨ (((N : Nat) : Int) ≤ 380 ∧ a = vi (((N : Nat) : Int) + 20) ∧ σ1 0 7 0 0 = ((N : Nat) : Int) + 20 ∧ (∀ i, σ1 0 6 0 i = fdA (fun i => σ 0 6 0 i) ((N : Nat) : Int).toNat a0 b0 c0 d0 e0 i) ∧ same ST σ σ1), fun a σ1 hm => by rcases hm with ⟨_, rfl, _⟩ | ⟨_, rfl, _⟩ <;> exact ⟨_, rfl⟩, fun Q q => kc_feed hk (t := ((N : Nat) : Int)) (by omega) g1 (fun c => q _ _ (Or.inl ⟨c, rfl, rfl⟩)) (fun c σ1 h7 h6 s1 => q _ _ (Or.inr ⟨c, rfl, h7, h6, s1⟩)), fun a σ1 hm Q q => ?_⟩
  rcases hm with ⟨c, rfl, rfl⟩ | ⟨c, rfl, h7, h6, s1⟩
  · exact kx_feed hk (by omega) g2 (fun _ => q _ L.x) (fun c' => absurd c' c)
  · refine kx_feed hk (t := ((N : Nat) : Int)) (by omega) ((s1 21 39 rfl 0 0).trans g2) (fun c' => absurd c c') (fun _ σ2 k39 k49 s2 => q _ ⟨P, n, Cs, N + 20, b, Pk, L.tape s1 s2 ⟨(s2 0 7 rfl 0 0).trans (by rw [h7]; omega), by rw [k39]; omega, by omega, ((s2 21 48 rfl 0 0).trans (s1 21 48 rfl 0 0)).trans g4, fun i hi => ?_⟩⟩)
    have e49 : (fun i => σ1 21 49 0 i) = fun i => σ 21 49 0 i := funext (fun i => s1 21 49 rfl 0 i)
    rw [s2 0 6 rfl 0 i, h6 i, k49 i, e49, Int.toNat_natCast]
    exact fd_ok (A := fun i => σ 0 6 0 i) (M := fun i => σ 21 49 0 i) g5 i hi
theorem pair_end (L : LW w σ P n Cs N b Pk) (hk : 8 ≤ k) {m : Int} : Pair G w w k (0, 0) 90 [vr 0 0 0, vi m] 150 [vr 21 0 0, vi m] σ := by
  obtain ⟨g1, g2, g3, g4, g5⟩ := L.2.2.1
  refine ⟨fun a σ1 => (¬ (0 ≤ m ∧ m ≤ ((N : Nat) : Int)) ∧ a = vi (-1) ∧ σ1 = σ) ∨ ((0 ≤ m ∧ m ≤ ((N : Nat) : Int)) ∧ a = vi m ∧ σ1 = up σ 0 7 0 0 m), fun a σ1 hm => by rcases hm with ⟨_, rfl, _⟩ | ⟨_, rfl, _⟩ <;> exact ⟨_, rfl⟩, fun Q q => kc_end hk g1 (fun c => q _ _ (Or.inl ⟨c, rfl, rfl⟩)) (fun c => q _ _ (Or.inr ⟨c, rfl, rfl⟩)), fun a σ1 hm Q q => ?_⟩
  rcases hm with ⟨c, rfl, rfl⟩ | ⟨c, rfl, rfl⟩
  · exact kx_end hk g2 (fun _ => q _ L.x) (fun c' => absurd c' c)
  · refine kx_end hk (t := ((N : Nat) : Int)) g2 (fun c' => absurd c c') (fun _ => q _ ⟨P, n, Cs, m.toNat, b, Pk, L.tape (σ1 := up σ 0 7 0 0 m) (same.refl.put rfl) (same.refl.put rfl) ⟨?_, ?_, by omega, g4, fun i hi => g5 i (by omega)⟩⟩)
    · show m = _
      omega
    · show m = _
      omega
end RNP

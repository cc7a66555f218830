/-! 9zz.frames: each part of what holds, kept by itself; questions with frames of their own -/
abbrev eqs (p : Nat → Nat → Bool) (σ σ' : Mem) : Prop := ∀ o f, p o f = true → ∀ r c, σ' o f r c = σ o f r c
def pB (o f : Nat) : Bool := (o == 0 && (f == 4 || f == 5)) || (decide (13 ≤ o) && decide (o ≤ 20) && decide (f ≤ 8)) || (o == 21 && (f == 43 || (decide (50 ≤ f) && decide (f ≤ 57))))
def pC (o f : Nat) : Bool := (o == 0 && (f == 6 || f == 7)) || (o == 21 && (f == 39 || f == 48 || f == 49))
def pD (o f : Nat) : Bool := (o == 0 && f == 3) || (decide (3 ≤ o) && decide (o ≤ 6)) || (o == 21 && (f == 75 || f == 76))
def pE (o f : Nat) : Bool := o == 7 && (f == 1 || f == 9)
theorem eqs.of {p S : Nat → Nat → Bool} {σ σ' : Mem} (hs : same S σ σ') (h : ∀ o f, p o f = true → S o f = false) : eqs p σ σ' := fun o f z r c => hs o f (h o f z) r c
theorem eqs.trans {p : Nat → Nat → Bool} {σ σ' σ'' : Mem} (h : eqs p σ σ') (h' : eqs p σ' σ'') : eqs p σ σ'' := fun o f z r c => (h' o f z r c).trans (h o f z r c)
section KPE
variable {w : Wd} {σ σ' : Mem} {P : Pt} {n N : Nat} {Cs : Nat → List Cl} {b : Nat → Prop} {Pk : Nat → Pt}
theorem LB.keepE (L : LB w σ n Cs) (hs : eqs pB σ σ') : LB w σ' n Cs := by
  obtain ⟨⟨h1, h2, h3⟩, h4, h5, h6⟩ := L
  refine ⟨⟨(hs 0 5 rfl 0 0).trans h1, (hs 21 43 rfl 0 0).trans h2, h3⟩, h4.keepS (fun i hi f r c hf => hs (13 + i) f ?_ r c) (fun f a b r c => hs 21 f ?_ r c), fun i hi => ?_, fun i hi => ?_⟩
  · unfold pB; simp [hf, show 13 + i ≤ 20 by omega]
  · unfold pB; simp [a, b]
  · rw [hs 0 4 rfl 0 i]; exact h5 i hi
  · rw [hs 0 4 rfl 0 i]; exact h6 i hi
theorem LC.keepE (L : LC σ N) (hs : eqs pC σ σ') : LC σ' N := by
  obtain ⟨h1, h2, h3, h4, h5⟩ := L
  refine ⟨(hs 0 7 rfl 0 0).trans h1, (hs 21 39 rfl 0 0).trans h2, h3, (hs 21 48 rfl 0 0).trans h4, fun i hi => ?_⟩
  rw [hs 0 6 rfl 0 i, hs 21 49 rfl 0 i]
  exact h5 i hi
theorem LI.keepE {i : Nat} (L : LI σ i P) (hi : i < 4) (hs : ∀ f r c, σ' (3 + i) f r c = σ (3 + i) f r c) (hx : ∀ c, 1200 * i ≤ c → c < 1200 * i + 1200 → σ' 21 75 0 c = σ 21 75 0 c) : LI σ' i P := by
  obtain ⟨⟨h1, h2, h3⟩, h4, h5, h6, h7, h8, h9⟩ := L
  exact ⟨⟨fun f j hj hg => (hs _ _ _).trans (h1 f j hj hg), fun x y hx hy => (hs _ _ _).trans (h2 x y hx hy), fun f h0 h1 c hc => (hs _ _ _).trans (h3 f h0 h1 c hc)⟩, h4, h5, h6, h7, h8, h9.keep hx⟩
theorem LD.keepE (L : LD w σ b Pk) (hs : eqs pD σ σ') : LD w σ' b Pk := by
  obtain ⟨h1, h2, h3, h4⟩ := L
  refine ⟨fun i hi => ?_, h2, fun i hi => ?_, fun i hi hb => (h4 i hi hb).keepE hi (fun f r c => hs (3 + i) f ?_ r c) (fun c _ _ => hs 21 75 rfl 0 c)⟩
  · rw [hs 0 3 rfl 0 i]; exact h1 i hi
  · rw [hs 21 76 rfl 0 i]; exact h3 i hi
  · unfold pD; simp [show 3 + i ≤ 6 by omega]
theorem LE.keepE (L : LE w σ) (hs : eqs pE σ σ') : LE w σ' := by
  unfold LE at L ⊢
  rw [hs 7 1 rfl 0 0, hs 7 9 rfl 0 0]
  exact L
theorem nt {b : Bool} (h : b = true → False) : b = false := by
  cases b with
  | false => rfl
  | true => exact (h rfl).elim
end KPE
section ASF
variable {G : Gl} {w : Wd} {k : Nat} {σ : Mem} {P : Pt} {n N : Nat} {Cs : Nat → List Cl} {b : Nat → Prop} {Pk : Nat → Pt} {y1 y2 : Nat} {as1 as2 : List AV} {C : Prop} {a0 a1 : AV} {S1 S2 : Nat → Nat → Bool} {S : AV → Prop}
/-- the class asked: all holds -/
theorem LW.asked1 {σ' : Mem} (L : LW w σ P n Cs N b Pk) (h1 : ∀ o f, S1 o f = true → KSf o f = true ∧ o ≠ 1 ∧ o ≠ 21) (s : same S1 σ σ') : LW w σ' P n Cs N b Pk :=
  L.ask (s.mono fun o f z => (h1 o f z).1) ⟨L.1.1.keep1 (fun f r c => s 1 f (nt fun z => (h1 1 f z).2.1 rfl) r c), fun f i a b => (s 21 f (nt fun z => (h1 21 f z).2.2 rfl) 0 i).trans (L.1.2.1 f i a b)⟩
/-- the check asked: all holds -/
theorem LW.asked2 {σ' : Mem} (L : LW w σ P n Cs N b Pk) (h2 : ∀ o f, S2 o f = true → KSf o f = true ∧ o ≠ 1) (M : MR σ' P) (s : same S2 σ σ') : LW w σ' P n Cs N b Pk :=
  L.ask (s.mono fun o f z => (h2 o f z).1) ⟨L.1.1.keep1 (fun f r c => s 1 f (nt fun z => (h2 1 f z).2 rfl) r c), M⟩
/-- a question of two answers, each side with a frame -/
theorem pair_askF (L : LW w σ P n Cs N b Pk) (h1 : C → ∀ o f, S1 o f = true → KSf o f = true ∧ o ≠ 1 ∧ o ≠ 21) (h2 : ∀ o f, S2 o f = true → KSf o f = true ∧ o ≠ 1)
    (hc : ∀ Q : Option AV → Mem → Prop, (¬ C → Q (some a0) σ) → (C → ∀ σ', same S1 σ σ' → Q (some a1) σ') → CC G w w k (0, 0) y1 as1 σ Q)
    (hx : ∀ σ', LW w σ' P n Cs N b Pk → ∀ Q : Option AV → Mem → Prop, (¬ C → Q (some a0) σ') → (C → ∀ σ2, MR σ2 P → same S2 σ' σ2 → Q (some a1) σ2) → CC G w w k (0, 0) y2 as2 σ' Q)
    (s0 : S a0 := by exact ⟨_, rfl⟩) (s1 : S a1 := by exact ⟨_, rfl⟩) : PairS S G w w k (0, 0) y1 as1 y2 as2 σ := by
  refine ⟨fun a σ1 => LW w σ1 P n Cs N b Pk ∧ ((¬ C ∧ a = a0) ∨ (C ∧ a = a1)), fun a σ1 hm => by rcases hm with ⟨_, ⟨_, rfl⟩ | ⟨_, rfl⟩⟩ <;> assumption, fun Q q => hc Q (fun c => q _ _ ⟨L, Or.inl ⟨c, rfl⟩⟩) (fun c σ' s => q _ _ ⟨L.asked1 (h1 c) s, Or.inr ⟨c, rfl⟩⟩), fun a σ1 hm Q q => ?_⟩
  obtain ⟨L1, hm⟩ := hm
  refine hx σ1 L1 Q (fun c => ?_) (fun c σ2 M2 s2 => ?_)
  · rcases hm with ⟨_, rfl⟩ | ⟨c', _⟩
    · exact q _ L1.x
    · exact absurd c' c
  · rcases hm with ⟨c', _⟩ | ⟨_, rfl⟩
    · exact absurd c c'
    · exact q _ (L1.asked2 h2 M2 s2).x
theorem fr_Str {x : Nat} (hx : x < 8) : ∀ o f, Str (13 + x) o f = true → KSf o f = true ∧ o ≠ 1 ∧ o ≠ 21 := fun o f z => by
  have z' : (o == 2 || o == 8 || (o == 13 + x && f == 9)) = true := z
  simp only [Bool.or_eq_true, Bool.and_eq_true, beq_iff_eq] at z'
  rcases z' with (rfl | rfl) | ⟨rfl, rfl⟩
  · exact ⟨rfl, by decide, by decide⟩
  · exact ⟨rfl, by decide, by decide⟩
  · exact ⟨by unfold KSf prt; simp; omega, by omega, by omega⟩
theorem fr_21 {S : Nat → Nat → Bool} (h : ∀ o f, S o f = true → o = 21 ∧ (f < 39 ∨ (40 ≤ f ∧ f ≤ 42) ∨ (44 ≤ f ∧ f ≤ 47) ∨ (58 ≤ f ∧ f ≤ 74) ∨ 77 ≤ f)) : ∀ o f, S o f = true → KSf o f = true ∧ o ≠ 1 := fun o f z => by
  obtain ⟨rfl, y⟩ := h o f z
  refine ⟨?_, by decide⟩
  unfold KSf prt
  simp
  omega
theorem fr_SA : ∀ o f, SA o f = true → KSf o f = true ∧ o ≠ 1 := fr_21 (fun o f z => by
  unfold SA SX at z
  simp only [Bool.or_eq_true, Bool.and_eq_true, beq_iff_eq, decide_eq_true_eq] at z
  omega)
theorem fr_SX : ∀ o f, SX o f = true → KSf o f = true ∧ o ≠ 1 := fr_21 (fun o f z => by
  unfold SX at z
  simp only [Bool.or_eq_true, Bool.and_eq_true, beq_iff_eq] at z
  omega)
theorem nr8 (L : LB w σ n Cs) : 0 ≤ ((n : Nat) : Int) ∧ ((n : Nat) : Int) ≤ 8 := by
  have := L.1.2.2
  omega
theorem pair_total (L : LW w σ P n Cs N b Pk) (hk : 38 ≤ k) {r m kd : Int} : PairL G w w k (0, 0) 102 [vr 0 0 0, vi r, vi m, vi kd] 207 [vr 21 0 0, vi r, vi m, vi kd] σ :=
  pair_askF L (S1 := Str (13 + r.toNat)) (fun c => fr_Str (by have := nr8 L.2.1; omega)) fr_SA (fun Q q0 q1 => kc_total L.1.1.1 L.1.2.2.1 L.1.2.2.2.1 L.1.1.2.1 L.1.1.2.2 L.1.2.2.2.2.2.2.1 (L.2.1.rules (G := G)).1 (L.2.1.rules).2.1 (by omega) q0 q1)
    (fun σ' L' Q q0 q1 => kx_total L'.1.2.1 L'.1.2.2.1 L'.1.2.2.2.1 L'.1.2.2.2.2.2.2.1 L'.2.1.1.2.1 (nr8 L'.2.1) (L'.2.1.rules).2.2 (by omega) q0 q1)
theorem pair_alone (L : LW w σ P n Cs N b Pk) (hk : 38 ≤ k) {r m kd h : Int} : PairL G w w k (0, 0) 103 [vr 0 0 0, vi r, vi m, vi kd, vi h] 208 [vr 21 0 0, vi r, vi m, vi kd, vi h] σ :=
  pair_askF L (S1 := Str (13 + r.toNat)) (fun c => fr_Str (by have := nr8 L.2.1; omega)) fr_SA (fun Q q0 q1 => kc_alone L.1.1.1 L.1.2.2.1 L.1.2.2.2.1 L.1.1.2.1 L.1.1.2.2 L.1.2.2.2.2.2.2.1 (L.2.1.rules (G := G)).1 (L.2.1.rules).2.1 (by omega) q0 q1)
    (fun σ' L' Q q0 q1 => kx_alone L'.1.2.1 L'.1.2.2.1 L'.1.2.2.2.1 L'.1.2.2.2.2.2.2.1 L'.2.1.1.2.1 (nr8 L'.2.1) (L'.2.1.rules).2.2 (by omega) q0 q1)
theorem pair_lost (L : LW w σ P n Cs N b Pk) (hk : 38 ≤ k) {r m : Int} : PairL G w w k (0, 0) 104 [vr 0 0 0, vi r, vi m] 209 [vr 21 0 0, vi r, vi m] σ :=
  pair_askF L (S1 := Str (13 + r.toNat)) (fun c => fr_Str (by have := nr8 L.2.1; omega)) fr_SA (fun Q q0 q1 => kc_lost L.1.1.1 L.1.2.2.1 L.1.2.2.2.1 L.1.1.2.1 L.1.1.2.2 L.1.2.2.2.2.2.2.1 (L.2.1.rules (G := G)).1 (L.2.1.rules).2.1 (by omega) q0 q1)
    (fun σ' L' Q q0 q1 => kx_lost L'.1.2.1 L'.1.2.2.1 L'.1.2.2.2.1 L'.1.2.2.2.2.2.2.1 L'.2.1.1.2.1 (nr8 L'.2.1) (L'.2.1.rules).2.2 (by omega) q0 q1)
theorem pair_ahead (L : LW w σ P n Cs N b Pk) (hk : 20 ≤ k) {r m : Int} : PairL G w w k (0, 0) 100 [vr 0 0 0, vi r, vi m] 200 [vr 21 0 0, vi r, vi m] σ :=
  pair_askF L (S1 := fun o f => (o == 8 && f == 1) || (o == 13 + r.toNat && f == 9)) (fun c o f z => fr_Str (x := r.toNat) (by have := nr8 L.2.1; omega) o f (by
      simp only [Bool.or_eq_true, Bool.and_eq_true, beq_iff_eq] at z ⊢
      omega)) (fr_21 (fun o f z => by
      simp only [Bool.or_eq_true, Bool.and_eq_true, beq_iff_eq] at z
      omega)) (fun Q q0 q1 => kc_ahead L.1.1.1 L.1.2.2.1 L.1.2.2.2.2.2.2.1 (L.2.1.rules (G := G)).1 (L.2.1.rules).2.1 (by omega) q0 q1)
    (fun σ' L' Q q0 q1 => kx_ahead L'.1.2.1 L'.1.2.2.1 L'.1.2.2.2.2.2.2.1 L'.2.1.1.2.1 (nr8 L'.2.1) (L'.2.1.rules).2.2 (by omega) q0 q1)
theorem pair_helps (L : LW w σ P n Cs N b Pk) (hk : 38 ≤ k) {r m wh : Int} : PairL G w w k (0, 0) 105 [vr 0 0 0, vi r, vi m, vi wh] 210 [vr 21 0 0, vi r, vi m, vi wh] σ :=
  pair_askF L (S1 := Str (13 + r.toNat)) (fun c => fr_Str (by have := nr8 L.2.1; omega)) fr_SA (fun Q q0 q1 => kc_helps L.1.1 L.1.2.2.1 L.1.2.2.2.1 L.1.2.2.2.2.2.2.1 (L.2.1.rules (G := G)).1 (L.2.1.rules).2.1 (by omega) q0 q1)
    (fun σ' L' Q q0 q1 => kx_helps L'.1.2.1 L'.1.2.2.1 L'.1.2.2.2.1 L'.1.2.2.2.2.2.2.1 L'.2.1.1.2.1 (nr8 L'.2.1) (L'.2.1.rules).2.2 (by omega) q0 q1)
theorem pair_cook (L : LW w σ P n Cs N b Pk) (hk : 38 ≤ k) {r h m : Int} : Pair G w w k (0, 0) 107 [vr 0 0 0, vi r, vi h, vi m] 212 [vr 21 0 0, vi r, vi h, vi m] σ :=
  pair_askF L (S1 := Str (13 + r.toNat)) (fun c => fr_Str (by have := nr8 L.2.1; omega)) fr_SA (fun Q q0 q1 => kc_cook L.1.1 L.1.2.2.1 L.1.2.2.2.2.2.2.1 (L.2.1.rules (G := G)).1 (L.2.1.rules).2.1 (by omega) q0 q1)
    (fun σ' L' Q q0 q1 => kx_cook L'.1.2.1 L'.1.2.2.1 L'.1.2.2.2.2.2.2.1 L'.2.1.1.2.1 (nr8 L'.2.1) (L'.2.1.rules).2.2 (by omega) q0 q1)
theorem pair_common (L : LW w σ P n Cs N b Pk) (hk : 42 ≤ k) {r coins m wh : Int} : PairL G w w k (0, 0) 109 [vr 0 0 0, vi r, vi coins, vi m, vi wh] 216 [vr 21 0 0, vi r, vi coins, vi m, vi wh] σ :=
  pair_askF L (S1 := Str (13 + r.toNat)) (fun c => fr_Str (by have := nr8 L.2.1; omega)) fr_SA (fun Q q0 q1 => kc_common L.1.1 L.1.2.2.1 L.1.2.2.2.1 L.1.2.2.2.2.2.2.1 (L.2.1.rules (G := G)).1 (L.2.1.rules).2.1 (by omega) q0 q1)
    (fun σ' L' Q q0 q1 => kx_common L'.1.2.1 L'.1.2.2.1 L'.1.2.2.2.1 L'.1.2.2.2.2.2.2.1 L'.2.1.1.2.1 (nr8 L'.2.1) (L'.2.1.rules).2.2 (by omega) q0 q1)
theorem pair_should (L : LW w σ P n Cs N b Pk) (hk : 40 ≤ k) {r wh : Int} : PairL G w w k (0, 0) 111 [vr 0 0 0, vi r, vi wh] 219 [vr 21 0 0, vi r, vi wh] σ :=
  pair_askF L (S1 := Str (13 + r.toNat)) (fun c => fr_Str (by have := nr8 L.2.1; omega)) fr_SA (fun Q q0 q1 => kc_should L.1.1 L.1.2.2.1 L.1.2.2.2.1 L.1.2.2.2.2.2.2.1 (L.2.1.rules (G := G)).1 (L.2.1.rules).2.1 (by omega) q0 q1)
    (fun σ' L' Q q0 q1 => kx_should L'.1.2.1 L'.1.2.2.1 L'.1.2.2.2.1 L'.1.2.2.2.2.2.2.1 L'.2.1.1.2.1 (nr8 L'.2.1) (L'.2.1.rules).2.2 (by omega) q0 q1)
theorem fr_11 : ∀ o f, S11 o f = true → KSf o f = true ∧ o ≠ 1 ∧ o ≠ 21 := fun o f z => by
  have z' : (o == 11) = true := z
  rw [beq_iff_eq] at z'
  subst z'
  exact ⟨rfl, by decide, by decide⟩
theorem fr_Shx : ∀ o f, Shx o f = true → KSf o f = true ∧ o ≠ 1 := fr_21 (fun o f z => by
  simp only [Bool.or_eq_true, Bool.and_eq_true, beq_iff_eq] at z
  omega)
theorem pair_knows (L : LW w σ P n Cs N b Pk) (hk : 16 ≤ k) {h wh : Int} : Pair G w w k (0, 0) 122 [vr 0 0 0, vi h, vi wh] 239 [vr 21 0 0, vi h, vi wh] σ :=
  pair_askF L (fun _ => fr_11) fr_Shx (fun Q q0 q1 => kc_knows L.1.1.1 L.1.2.2.1 hk q0 q1) (fun σ' L' Q q0 q1 => kx_knows L'.1.2.1 L'.1.2.2.1 (by omega) q0 q1)
theorem pair_parts (L : LW w σ P n Cs N b Pk) (hk : 20 ≤ k) {wh : Int} : Pair G w w k (0, 0) 123 [vr 0 0 0, vi wh] 241 [vr 21 0 0, vi wh] σ :=
  pair_askF L (fun _ => fr_11) fr_Shx (fun Q q0 q1 => kc_parts L.1.1.1 L.1.2.2.1 hk q0 q1) (fun σ' L' Q q0 q1 => kx_parts L'.1.2.1 L'.1.2.2.1 hk q0 q1)
theorem pair_doors (L : LW w σ P n Cs N b Pk) (hk : 22 ≤ k) {f s kk : Int} (hsI : I32 s) : Pair G w w k (0, 0) 115 [vr 0 0 0, vi f, vi s, vi kk] 227 [vr 21 0 0, vi f, vi s, vi kk] σ :=
  pair_askF L (S1 := S9) (S2 := S712) (fun _ o f z => by
    have z' : (o == 9) = true := z
    rw [beq_iff_eq] at z'
    subst z'
    exact ⟨rfl, by decide, by decide⟩) (fr_21 (fun o f z => by
    simp only [Bool.or_eq_true, Bool.and_eq_true, beq_iff_eq] at z
    omega)) (fun Q q0 q1 => kc_doors L.1.1.1 L.1.2.2.1 hk q0 q1) (fun σ' L' Q q0 q1 => kx_doors L'.1.2.1 L'.1.2.2.1 hk q0 hsI q1)
theorem pair_debtor (L : LW w σ P n Cs N b Pk) (hk : 20 ≤ k) : Pair G w w k (0, 0) 119 [vr 0 0 0] 233 [vr 21 0 0] σ := pair_ask1 L (fun Q q => kc_debt L.1.1.1 L.1.2.2.1 L.1.2.2.2.2.1 hk q) (fun Q q => kx_debt L.1.2.1 L.1.2.2.1 L.1.2.2.2.2.1 hk q)
theorem pair_reach (L : LW w σ P n Cs N b Pk) (hk : 24 ≤ k) {s : Int} (hsI : I32 s) : Pair G w w k (0, 0) 113 [vr 0 0 0, vi s] 220 [vr 21 0 0, vi s] σ := by
  have W := L.1.2.2.1
  have s0 := W.sc.1
  refine ⟨fun a σ1 => LW w σ1 P n Cs N b Pk ∧ ((¬ (0 ≤ s ∧ s < 2 ^ (P 2 0).toNat) ∧ a = vi (-1)) ∨ ((0 ≤ s ∧ s < 2 ^ (P 2 0).toNat) ∧ ∃ b0, a = vi b0 ∧ (pcN s.toNat < 2 → b0 = 0) ∧ (¬ pcN s.toNat < 2 → RB P (P 2 0).toNat s.toNat b0))), fun a σ1 hm => by rcases hm with ⟨_, ⟨_, rfl⟩ | ⟨_, _, rfl, _⟩⟩ <;> exact ⟨_, rfl⟩, fun Q q => kc_reach L.1.1.1 W (by omega) (fun c => q _ _ ⟨L, Or.inl ⟨c, rfl⟩⟩) (fun c b0 h1 h2 σ' s' => q _ _ ⟨L.asked1 (S1 := S91) (fun o f z => ?_) s', Or.inr ⟨c, b0, rfl, h1, h2⟩⟩), fun a σ1 hm Q q => ?_⟩
  · simp only [Bool.and_eq_true, beq_iff_eq] at z
    obtain ⟨rfl, rfl⟩ := z
    exact ⟨rfl, by decide, by decide⟩
  · obtain ⟨L1, hm⟩ := hm
    refine kx_reach L1.1.2.1 W hk hsI (fun c => ?_) (fun c a0 h1 h2 σ2 M2 s2 => ?_)
    · rcases hm with ⟨_, rfl⟩ | ⟨c', _⟩
      · exact q _ L1.x
      · exact absurd c' c
    · rcases hm with ⟨c', _⟩ | ⟨_, b0, rfl, g1, g2⟩
      · exact absurd c c'
      · have e := reach_one (n := (P 2 0).toNat) (by omega) c.1 c.2 g1 g2 h1 h2
        rw [e]
        refine q _ (L1.asked2 (S2 := S701) (fr_21 (fun o f z => ?_)) M2 s2).x
        simp only [Bool.or_eq_true, Bool.and_eq_true, beq_iff_eq] at z
        omega
end ASF

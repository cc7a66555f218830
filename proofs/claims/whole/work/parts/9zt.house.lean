/-! 9zt.house: house, a command of both -/
theorem WF.addHouse {P : Pt} (h : WF P) {x y p : Int} (hx : (0 ≤ x ∧ x ≤ 99) ∧ (0 ≤ y ∧ y ≤ 99) ∧ (0 ≤ p ∧ p ≤ 9) ∧ P 2 0 < 12) : WF (P_house P x y p) := by
  obtain ⟨x1, x2, x3, x4⟩ := hx
  have s := h.sc
  have key : ∀ n : Nat, n < 12 → (0 ≤ (if 3 = 3 ∧ n = (P 2 0).toNat then x else P 3 n) ∧ (if 3 = 3 ∧ n = (P 2 0).toNat then x else P 3 n) ≤ 99) ∧ (0 ≤ (if 4 = 4 ∧ n = (P 2 0).toNat then y else P 4 n) ∧ (if 4 = 4 ∧ n = (P 2 0).toNat then y else P 4 n) ≤ 99) ∧ (0 ≤ (if 5 = 5 ∧ n = (P 2 0).toNat then p else P 5 n) ∧ (if 5 = 5 ∧ n = (P 2 0).toNat then p else P 5 n) ≤ 9) ∧ (0 ≤ P 6 n ∧ P 6 n ≤ 1) ∧ (0 ≤ P 7 n ∧ P 7 n ≤ 1000) := fun n hn => by
    obtain ⟨a1, a2, a3, a4, a5⟩ := h.hs hn
    by_cases e : n = (P 2 0).toNat
    · rw [if_pos ⟨rfl, e⟩, if_pos ⟨rfl, e⟩, if_pos ⟨rfl, e⟩]; exact ⟨x1, x2, x3, a4, a5⟩
    · rw [if_neg (fun z => e z.2), if_neg (fun z => e z.2), if_neg (fun z => e z.2)]; exact ⟨a1, a2, a3, a4, a5⟩
  refine ⟨⟨?_, s.2⟩, fun n hn => key n hn, h.2.2.1, fun n hn => ?_, fun n hn => ?_, fun n hn => ?_, h.2.2.2.2.2.2.1, h.2.2.2.2.2.2.2.1, fun n hn => ?_, h.2.2.2.2.2.2.2.2.2⟩
  · show 0 ≤ P 2 0 + 1 ∧ P 2 0 + 1 ≤ 12
    omega
  · obtain ⟨⟨a1, a2⟩, r⟩ := h.nd hn
    exact ⟨⟨a1, by show P 9 n < P 2 0 + 1; omega⟩, r⟩
  · obtain ⟨⟨a1, a2⟩, r⟩ := h.mk hn
    exact ⟨⟨a1, by show P 16 n < P 2 0 + 1; omega⟩, r⟩
  · obtain ⟨⟨a1, a2⟩, ⟨b1, b2⟩, r⟩ := h.cb hn
    exact ⟨⟨a1, by show P 23 n < P 2 0 + 1; omega⟩, ⟨b1, by show P 24 n < P 2 0 + 1; omega⟩, r⟩
  · obtain ⟨⟨a1, a2⟩, r⟩ := h.it hn
    exact ⟨⟨a1, by show P 28 n < P 2 0 + 1; omega⟩, r⟩
theorem qp_houses {P : Pt} (h : QP P) {v : Int} (hv : P 2 0 ≤ v) : QP (pu P 2 0 v) := by
  obtain ⟨h1, h3, h4, h5⟩ := h
  refine ⟨h1, fun a b ha hb hz => h3 a b ha hb ?_, fun f j hj => ?_, h5⟩
  · have hz' : v ≤ (a : Int) ∨ v ≤ (b : Int) := hz
    omega
  · by_cases z : f = 2 ∧ j = 0
    · obtain ⟨rfl, rfl⟩ := z
      exact absurd hj (by decide)
    · exact (if_neg z).trans (h4 f j hj)
section HPR
variable {G : Gl} {w : Wd} {k : Nat} {σ : Mem} {P : Pt} {n N : Nat} {Cs : Nat → List Cl} {b : Nat → Prop} {Pk : Nat → Pt}
theorem pair_house (L : LW w σ P n Cs N b Pk) (hk : 12 ≤ k) {x y p : Int} : Pair G w w k (0, 0) 78 [vr 0 0 0, vi x, vi y, vi p] 135 [vr 21 0 0, vi x, vi y, vi p] σ := by
  have W := L.1.2.2.1
  have s := W.sc
  refine ⟨fun a σ1 => (¬ ((0 ≤ x ∧ x ≤ 99) ∧ (0 ≤ y ∧ y ≤ 99) ∧ (0 ≤ p ∧ p ≤ 9) ∧ P 2 0 < 12) ∧ a = vi (-1) ∧ σ1 = σ) ∨ (((0 ≤ x ∧ x ≤ 99) ∧ (0 ≤ y ∧ y ≤ 99) ∧ (0 ≤ p ∧ p ≤ 9) ∧ P 2 0 < 12) ∧ a = vi (P 2 0) ∧ RT True σ1 1 (P_house P x y p) ∧ NRs σ1 1 (P_house P x y p) ∧ same (fun o f => o == 1 && (f == 9 || f == 3 || f == 10)) σ σ1), fun a σ1 hm => by rcases hm with ⟨_, rfl, _⟩ | ⟨_, rfl, _⟩ <;> exact ⟨_, rfl⟩, fun Q q => kc_house L.1.1.1 W hk (fun c => W.addHouse c) (fun c => q _ _ (Or.inl ⟨c, rfl, rfl⟩)) (fun c σ1 R1 N1 s1 => q _ _ (Or.inr ⟨c, rfl, R1, N1, s1⟩)), fun a σ1 hm Q q => ?_⟩
  rcases hm with ⟨c, rfl, rfl⟩ | ⟨c, rfl, R1, N1, s1⟩
  · exact kx_house L.1.2.1 W (by omega) (fun _ => q _ L.x) (fun c' => absurd c' c)
  · have M1 : MR σ1 P := fun f i h2 h38 => (s1 21 f rfl 0 i).trans (L.1.2.1 f i h2 h38)
    refine kx_house M1 W (by omega) (fun c' => absurd c c') (fun _ => q _ ⟨P_house P x y p, n, Cs, N, b, Pk, ?_⟩)
    have ti : (P 2 0).toNat < 12 := by omega
    have k1 : same KSf σ σ1 := s1.mono (fun o f z => by
      have z' : (o == 1 && (f == 9 || f == 3 || f == 10)) = true := z
      simp only [Bool.and_eq_true, beq_iff_eq] at z'
      rw [z'.1]
      rfl)
    have hs := (((k1.put (o := 21) (f := 3) (r := 0) (c := (P 2 0).toNat) (v := x) rfl).put (o := 21) (f := 4) (r := 0) (c := (P 2 0).toNat) (v := y) rfl).put (o := 21) (f := 5) (r := 0) (c := (P 2 0).toNat) (v := p) rfl).put (o := 21) (f := 2) (r := 0) (c := 0) (v := P 2 0 + 1) rfl
    have o1 : ∀ f r c, up (up (up (up σ1 21 3 0 (P 2 0).toNat x) 21 4 0 (P 2 0).toNat y) 21 5 0 (P 2 0).toNat p) 21 2 0 0 (P 2 0 + 1) 1 f r c = σ1 1 f r c := fun f r c => by
      rw [upp_no (by decide), upp_no (by decide), upp_no (by decide), upp_no (by decide)]
    refine L.step hs ⟨⟨fun f i hi hg => (o1 _ _ _).trans (R1 f i hi hg), fun a' b' ha hb => (o1 _ _ _).trans ((s1 1 14 rfl _ _).trans ((L.1.1.2.1.of (P' := P_house P x y p) rfl (fun _ => rfl) (fun _ => rfl)) a' b' ha hb)), fun f h0 h1 c' hc => (o1 _ _ _).trans (N1 f h0 h1 c' hc)⟩, MR_x (MR_x (MR_x (MR_x M1)))⟩ ⟨W.addHouse c, (qp_houses (((L.qp.pu (f := 3) (i := (P 2 0).toNat) (v := x) (by decide) (by omega) ti).pu (f := 4) (i := (P 2 0).toNat) (v := y) (by decide) (by omega) ti).pu (f := 5) (i := (P 2 0).toNat) (v := p) (by decide) (by omega) ti) (by show P 2 0 ≤ P 2 0 + 1; omega))⟩
end HPR

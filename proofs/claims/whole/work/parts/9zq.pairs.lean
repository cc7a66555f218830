/-! 9zq.pairs: commands of both, the plain ones -/
theorem WF.pu27 {P : Pt} (h : WF P) {i : Nat} {v : Int} (hv : 0 ≤ v ∧ v ≤ 9) : WF (pu P 27 i v) :=
  ⟨h.1, h.2.1, h.2.2.1, h.2.2.2.1, h.2.2.2.2.1, h.2.2.2.2.2.1, h.2.2.2.2.2.2.1, fun j hj => by
    show 0 ≤ (if 27 = 27 ∧ j = i then v else P 27 j) ∧ (if 27 = 27 ∧ j = i then v else P 27 j) ≤ 9
    split
    · exact hv
    · exact h.2.2.2.2.2.2.2.1 j hj, h.2.2.2.2.2.2.2.2⟩
theorem WF.pu7 {P : Pt} (h : WF P) {i : Nat} {v : Int} (hv : 0 ≤ v ∧ v ≤ 1000) : WF (pu P 7 i v) :=
  ⟨h.1, fun n hn => by
    obtain ⟨a1, a2, a3, a4, a5⟩ := h.2.1 n hn
    refine ⟨a1, a2, a3, a4, ?_⟩
    show 0 ≤ (if 7 = 7 ∧ n = i then v else P 7 n) ∧ (if 7 = 7 ∧ n = i then v else P 7 n) ≤ 1000
    split
    · exact hv
    · exact a5, h.2.2⟩
theorem WF.pu22 {P : Pt} (h : WF P) {i : Nat} {v : Int} (hv : 0 ≤ v ∧ v ≤ 1) : WF (pu P 22 i v) :=
  ⟨h.1, h.2.1, h.2.2.1, h.2.2.2.1, fun n hn => by
    obtain ⟨a1, a2, a3, a4, a5, a6, a7, a8⟩ := h.2.2.2.2.1 n hn
    refine ⟨a1, a2, a3, a4, a5, a6, a7, ?_⟩
    show 0 ≤ (if 22 = 22 ∧ n = i then v else P 22 n) ∧ (if 22 = 22 ∧ n = i then v else P 22 n) ≤ 1
    split
    · exact hv
    · exact a8, h.2.2.2.2.2⟩
section PQS
variable {G : Gl} {w : Wd} {k : Nat} {σ : Mem} {P : Pt} {n N : Nat} {Cs : Nat → List Cl} {b : Nat → Prop} {Pk : Nat → Pt} {y1 y2 : Nat} {as1 as2 : List AV} {C : Prop} {a0 a1 : AV} {S : AV → Prop}
theorem LW.x (L : LW w σ P n Cs N b Pk) : LWx w σ := ⟨P, n, Cs, N, b, Pk, L⟩
/-- a question of two answers -/
theorem pair_ask2 (L : LW w σ P n Cs N b Pk) (hc : ∀ Q : Option AV → Mem → Prop, (¬ C → Q (some a0) σ) → (C → Q (some a1) σ) → CC G w w k (0, 0) y1 as1 σ Q) (hx : ∀ Q : Option AV → Mem → Prop, (¬ C → Q (some a0) σ) → (C → Q (some a1) σ) → CC G w w k (0, 0) y2 as2 σ Q) (s0 : S a0 := by exact ⟨_, rfl⟩) (s1 : S a1 := by exact ⟨_, rfl⟩) : PairS S G w w k (0, 0) y1 as1 y2 as2 σ := by
  refine ⟨fun a σ1 => σ1 = σ ∧ ((¬ C ∧ a = a0) ∨ (C ∧ a = a1)), fun a σ1 hm => by rcases hm with ⟨_, ⟨_, rfl⟩ | ⟨_, rfl⟩⟩ <;> assumption, fun Q q => hc Q (fun c => q _ _ ⟨rfl, Or.inl ⟨c, rfl⟩⟩) (fun c => q _ _ ⟨rfl, Or.inr ⟨c, rfl⟩⟩), fun a σ1 hm Q q => ?_⟩
  obtain ⟨rfl, ⟨c, rfl⟩ | ⟨c, rfl⟩⟩ := hm
  · exact hx Q (fun _ => q _ L.x) (fun c' => absurd c' c)
  · exact hx Q (fun c' => absurd c c') (fun _ => q _ L.x)
/-- a setter of two answers -/
theorem pair_set2 (L : LW w σ P n Cs N b Pk) {σ1 : Mem} {F : Mem → Mem} (hc : ∀ Q : Option AV → Mem → Prop, (¬ C → Q (some a0) σ) → (C → Q (some a1) σ1) → CC G w w k (0, 0) y1 as1 σ Q) (hM : C → MR σ1 P) (hx : ∀ σ' : Mem, MR σ' P → ∀ Q : Option AV → Mem → Prop, (¬ C → Q (some a0) σ') → (C → Q (some a1) (F σ')) → CC G w w k (0, 0) y2 as2 σ' Q) (hL : C → LWx w (F σ1)) (s0 : S a0 := by exact ⟨_, rfl⟩) (s1 : S a1 := by exact ⟨_, rfl⟩) : PairS S G w w k (0, 0) y1 as1 y2 as2 σ := by
  refine ⟨fun a σ' => (¬ C ∧ σ' = σ ∧ a = a0) ∨ (C ∧ σ' = σ1 ∧ a = a1), fun a σ1 hm => by rcases hm with ⟨_, _, rfl⟩ | ⟨_, _, rfl⟩ <;> assumption, fun Q q => hc Q (fun c => q _ _ (Or.inl ⟨c, rfl, rfl⟩)) (fun c => q _ _ (Or.inr ⟨c, rfl, rfl⟩)), fun a σ' hm Q q => ?_⟩
  rcases hm with ⟨c, rfl, rfl⟩ | ⟨c, rfl, rfl⟩
  · exact hx _ L.1.2.1 Q (fun _ => q _ L.x) (fun c' => absurd c' c)
  · exact hx _ (hM c) Q (fun c' => absurd c c') (fun _ => q _ (hL c))
/-- one cell set on both sides -/
theorem LW.set1 (L : LW w σ P n Cs N b Pk) {f i F r c : Nat} {v : Int} (R' : RT True (up σ 1 F r c v) 1 (pu P f i v)) (hF : F ≠ 10 ∧ F ≠ 14) (hf : f ≠ 38 ∧ f ≠ 3 ∧ f ≠ 4 ∧ f ≠ 23 ∧ f ≠ 24 ∧ (f = 2 → i ≠ 0 ∧ i ≠ 3 ∧ i ≠ 6)) (hi : i < lmc f) (h1 : KSf 1 F = true) (h2 : KSf 21 f = true) (W : WF (pu P f i v)) : LWx w (up (up σ 1 F r c v) 21 f 0 i v) := by
  have e : ∀ f' i', ¬ (f' = f ∧ i' = i) → pu P f i v f' i' = P f' i' := fun f' i' z => if_neg z
  refine ⟨pu P f i v, n, Cs, N, b, Pk, L.step ((same.refl.put h1).put h2) ⟨L.1.1.set (R'.put2 (by decide)) (fun r' c' => by rw [upp_no (by decide), upp_nf (by omega)]) (fun r' c' => by rw [upp_no (by decide), upp_nf (by omega)]) (e 2 0 (fun z => (hf.2.2.2.2.2 z.1.symm).1 z.2.symm)) (e 2 3 (fun z => (hf.2.2.2.2.2 z.1.symm).2.1 z.2.symm)) (fun j => e 3 j (fun z => hf.2.1 z.1.symm)) (fun j => e 4 j (fun z => hf.2.2.1 z.1.symm)) (fun j => e 23 j (fun z => hf.2.2.2.1 z.1.symm)) (fun j => e 24 j (fun z => hf.2.2.2.2.1 z.1.symm)), MR_x (MR_c L.1.2.1 (by decide))⟩ ⟨W, L.qp.pu hf.1 (fun z => ⟨(hf.2.2.2.2.2 z).1, (hf.2.2.2.2.2 z).2.2⟩) hi⟩⟩
theorem pair_harm (L : LW w σ P n Cs N b Pk) (hk : 8 ≤ k) {h : Int} : PairL G w w k (0, 0) 97 [vr 0 0 0, vi h] 197 [vr 21 0 0, vi h] σ := pair_ask2 L (fun Q q0 q1 => kc_harm L.1.1.1 L.1.2.2.1 hk q0 q1) (fun Q q0 q1 => kx_harm L.1.2.1 L.1.2.2.1 hk q0 q1)
theorem pair_gave (L : LW w σ P n Cs N b Pk) (hk : 8 ≤ k) {a c : Int} : PairL G w w k (0, 0) 98 [vr 0 0 0, vi a, vi c] 198 [vr 21 0 0, vi a, vi c] σ := pair_ask2 L (fun Q q0 q1 => kc_gave L.1.1.1 L.1.2.2.1 hk q0 q1) (fun Q q0 q1 => kx_gave L.1.2.1 L.1.2.2.1 hk q0 q1)
theorem pair_carried (L : LW w σ P n Cs N b Pk) (hk : 8 ≤ k) {a : Int} : Pair G w w k (0, 0) 99 [vr 0 0 0, vi a] 199 [vr 21 0 0, vi a] σ := pair_ask2 L (fun Q q0 q1 => kc_carried L.1.1.1 L.1.2.2.1 hk q0 q1) (fun Q q0 q1 => kx_carried L.1.2.1 L.1.2.2.1 hk q0 q1)
theorem pair_owes (L : LW w σ P n Cs N b Pk) (hk : 8 ≤ k) {a c : Int} : PairL G w w k (0, 0) 118 [vr 0 0 0, vi a, vi c] 232 [vr 21 0 0, vi a, vi c] σ := pair_ask2 L (fun Q q0 q1 => kc_owes L.1.1.1 L.1.2.2.1 hk q0 q1) (fun Q q0 q1 => kx_owes L.1.2.1 L.1.2.2.1 hk q0 q1)
theorem pair_tie (L : LW w σ P n Cs N b Pk) (hk : 8 ≤ k) {a c v : Int} : Pair G w w k (0, 0) 84 [vr 0 0 0, vi a, vi c, vi v] 143 [vr 21 0 0, vi a, vi c, vi v] σ := by
  have W0 := L.1.2.2.1.sc
  refine pair_set2 L (F := fun σ' => up σ' 21 27 0 ((12 * a + c).toNat) v) (fun Q q0 q1 => kc_tie L.1.1.1 L.1.2.2.1 hk q0 q1) (fun _ => MR_c L.1.2.1 (by decide)) (fun σ' M Q q0 q1 => kx_tie M L.1.2.2.1 hk q0 q1) (fun z => ?_)
  exact L.set1 (L.1.1.1.u_tieI (by omega) (by omega)) (by decide) (by omega) (by show (12 * a + c).toNat < 144; omega) rfl rfl (L.1.2.2.1.pu27 z.2.2.2)
theorem pair_say (L : LW w σ P n Cs N b Pk) (hk : 8 ≤ k) {v : Int} : Pair G w w k (0, 0) 87 [vr 0 0 0, vi v] 146 [vr 21 0 0, vi v] σ := by
  refine pair_set2 L (F := fun σ' => up σ' 21 2 0 7 v) (fun Q q0 q1 => kc_say L.1.1.1 L.1.2.2.1 hk q0 q1) (fun _ => MR_c L.1.2.1 (by decide)) (fun σ' M Q q0 q1 => kx_say M L.1.2.2.1 hk q0 q1) (fun z => ?_)
  exact L.set1 L.1.1.1.u_said (by decide) (by decide) (by decide) rfl rfl (L.1.2.2.1.said z)
theorem pair_odds (L : LW w σ P n Cs N b Pk) (hk : 8 ≤ k) {h v : Int} : Pair G w w k (0, 0) 114 [vr 0 0 0, vi h, vi v] 222 [vr 21 0 0, vi h, vi v] σ := by
  have W0 := L.1.2.2.1.sc
  refine pair_set2 L (F := fun σ' => up σ' 21 7 0 h.toNat v) (fun Q q0 q1 => kc_odds L.1.1.1 L.1.2.2.1 hk q0 q1) (fun _ => MR_c L.1.2.1 (by decide)) (fun σ' M Q q0 q1 => kx_odds M L.1.2.2.1 hk q0 q1) (fun z => ?_)
  exact L.set1 (L.1.1.1.u_odds (by omega)) (by decide) (by omega) (by show h.toNat < 12; omega) rfl rfl (L.1.2.2.1.pu7 z.2)
theorem pair_on (L : LW w σ P n Cs N b Pk) (hk : 8 ≤ k) {h v : Int} : Pair G w w k (0, 0) 82 [vr 0 0 0, vi h, vi v] 140 [vr 21 0 0, vi h, vi v] σ := by
  have W0 := L.1.2.2.1.sc
  obtain ⟨z, hz⟩ : ∃ z : Int, z = if v = 0 then 0 else 1 := ⟨_, rfl⟩
  have z01 : 0 ≤ z ∧ z ≤ 1 := by rw [hz]; split <;> omega
  refine pair_set2 L (F := fun σ' => up σ' 21 22 0 h.toNat z) (fun Q q0 q1 => kc_on L.1.1.1 L.1.2.2.1 hk hz q0 q1) (fun _ => MR_c L.1.2.1 (by decide)) (fun σ' M Q q0 q1 => kx_on M L.1.2.2.1 hk hz q0 q1) (fun y => ?_)
  exact L.set1 (L.1.1.1.u_maker6 (by omega)) (by decide) (by omega) (by show h.toNat < 12; omega) rfl rfl (L.1.2.2.1.pu22 z01)
theorem pair_comes (L : LW w σ P n Cs N b Pk) (hk : 8 ≤ k) {h v : Int} : Pair G w w k (0, 0) 86 [vr 0 0 0, vi h, vi v] 145 [vr 21 0 0, vi h, vi v] σ := by
  have W0 := L.1.2.2.1.sc
  obtain ⟨z, hz⟩ : ∃ z : Int, z = if v = 0 then 0 else 1 := ⟨_, rfl⟩
  have z01 : 0 ≤ z ∧ z ≤ 1 := by rw [hz]; split <;> omega
  refine pair_set2 L (F := fun σ' => up σ' 21 6 0 h.toNat z) (fun Q q0 q1 => kc_comes L.1.1.1 L.1.2.2.1 hk hz q0 q1) (fun _ => MR_c L.1.2.1 (by decide)) (fun σ' M Q q0 q1 => kx_comes M L.1.2.2.1 hk hz q0 q1) (fun y => ?_)
  exact L.set1 (L.1.1.1.u_isBack (by omega)) (by decide) (by omega) (by show h.toNat < 12; omega) rfl rfl (L.1.2.2.1.pu6 z01)
end PQS

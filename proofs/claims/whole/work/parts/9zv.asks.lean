/-! 9zv.asks: questions of both -/
section ASK
variable {G : Gl} {w : Wd} {k : Nat} {σ : Mem} {P : Pt} {n N : Nat} {Cs : Nat → List Cl} {b : Nat → Prop} {Pk : Nat → Pt} {y1 y2 : Nat} {as1 as2 : List AV} {a1 : AV} {S : AV → Prop}
/-- a question of one answer -/
theorem pair_ask1 (L : LW w σ P n Cs N b Pk) (hc : ∀ Q : Option AV → Mem → Prop, Q (some a1) σ → CC G w w k (0, 0) y1 as1 σ Q) (hx : ∀ Q : Option AV → Mem → Prop, Q (some a1) σ → CC G w w k (0, 0) y2 as2 σ Q) (s1 : S a1 := by exact ⟨_, rfl⟩) : PairS S G w w k (0, 0) y1 as1 y2 as2 σ := by
  refine ⟨fun a σ1 => σ1 = σ ∧ a = a1, fun a σ1 hm => by rw [hm.2]; exact s1, fun Q q => hc Q (q _ _ ⟨rfl, rfl⟩), fun a σ1 hm Q q => ?_⟩
  obtain ⟨rfl, rfl⟩ := hm
  exact hx Q (q _ L.x)
theorem pair_noise (L : LW w σ P n Cs N b Pk) (hk : 8 ≤ k) {h : Int} : Pair G w w k (0, 0) 120 [vr 0 0 0, vi h] 235 [vr 21 0 0, vi h] σ := pair_ask2 L (fun Q q0 q1 => kc_noise L.1.1.1 L.1.2.2.1 hk q0 q1) (fun Q q0 q1 => kx_noise L.1.2.1 L.1.2.2.1 hk q0 q1)
theorem pair_loud (L : LW w σ P n Cs N b Pk) (hk : 8 ≤ k) : Pair G w w k (0, 0) 121 [vr 0 0 0] 236 [vr 21 0 0] σ := pair_ask1 L (fun Q q => kc_loud L.1.1.1 L.1.2.2.1 hk q) (fun Q q => kx_loud L.1.2.1 L.1.2.2.1 hk q)
theorem pair_missed (L : LW w σ P n Cs N b Pk) (hk : 8 ≤ k) : Pair G w w k (0, 0) 106 [vr 0 0 0] 211 [vr 21 0 0] σ := pair_ask1 L (fun Q q => kc_missed L.1.1.1 L.1.2.2.1 hk q) (fun Q q => kx_missed L.1.2.1 L.1.2.2.1 hk q)
theorem pair_of (L : LW w σ P n Cs N b Pk) (hk : 8 ≤ k) {h a : Int} : Pair G w w k (0, 0) 95 [vr 0 0 0, vi h, vi a] 195 [vr 21 0 0, vi h, vi a] σ := pair_ask2 L (fun Q q0 q1 => kc_of L.1.1.1 L.1.2.2.1 hk q0 q1) (fun Q q0 q1 => kx_of L.1.2.1 L.1.2.2.1 hk q0 q1)
theorem pair_needs (L : LW w σ P n Cs N b Pk) (hk : 8 ≤ k) {h a : Int} : Pair G w w k (0, 0) 96 [vr 0 0 0, vi h, vi a] 196 [vr 21 0 0, vi h, vi a] σ := pair_ask2 L (fun Q q0 q1 => kc_needs L.1.1.1 L.1.2.2.1 hk q0 q1) (fun Q q0 q1 => kx_needs L.1.2.1 L.1.2.2.1 hk q0 q1)
theorem pair_count (L : LW w σ P n Cs N b Pk) (hk : 8 ≤ k) {a : Int} : Pair G w w k (0, 0) 124 [vr 0 0 0, vi a] 242 [vr 21 0 0, vi a] σ := pair_ask1 L (fun Q q => kc_count L.1.1.1 L.1.2.2.1 hk L.1.2.2.2.2.2.2.1 L.2.1.1.1 L.2.2.1.1 q) (fun Q q => kx_count L.1.2.1 L.1.2.2.1 hk L.1.2.2.2.2.2.2.1 L.2.1.1.2.1 L.2.2.1.2.1 q)
end ASK

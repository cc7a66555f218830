/-! 9zr.pairs2: more commands of both: turner, ends, item -/
theorem WF.pu34 {P : Pt} (h : WF P) {i : Nat} {v : Int} (hv : 0 ≤ v ∧ v ≤ 20) : WF (pu P 34 i v) :=
  ⟨h.1, h.2.1, h.2.2.1, h.2.2.2.1, h.2.2.2.2.1, h.2.2.2.2.2.1, h.2.2.2.2.2.2.1, h.2.2.2.2.2.2.2.1, h.2.2.2.2.2.2.2.2.1, h.2.2.2.2.2.2.2.2.2.1, fun n hn => by
    obtain ⟨a1, a2, a3⟩ := h.2.2.2.2.2.2.2.2.2.2 n hn
    refine ⟨?_, a2, a3⟩
    show 0 ≤ (if 34 = 34 ∧ n = i then v else P 34 n) ∧ (if 34 = 34 ∧ n = i then v else P 34 n) ≤ 20
    split
    · exact hv
    · exact a1⟩
theorem WF.pu35 {P : Pt} (h : WF P) {i : Nat} {v : Int} (hv : 0 ≤ v ∧ v ≤ 20) : WF (pu P 35 i v) :=
  ⟨h.1, h.2.1, h.2.2.1, h.2.2.2.1, h.2.2.2.2.1, h.2.2.2.2.2.1, h.2.2.2.2.2.2.1, h.2.2.2.2.2.2.2.1, h.2.2.2.2.2.2.2.2.1, h.2.2.2.2.2.2.2.2.2.1, fun n hn => by
    obtain ⟨a1, a2, a3⟩ := h.2.2.2.2.2.2.2.2.2.2 n hn
    refine ⟨a1, ?_, a3⟩
    show 0 ≤ (if 35 = 35 ∧ n = i then v else P 35 n) ∧ (if 35 = 35 ∧ n = i then v else P 35 n) ≤ 20
    split
    · exact hv
    · exact a2⟩
theorem WF.pu36 {P : Pt} (h : WF P) {i : Nat} {v : Int} (hv : 0 ≤ v ∧ v ≤ 999) : WF (pu P 36 i v) :=
  ⟨h.1, h.2.1, h.2.2.1, h.2.2.2.1, h.2.2.2.2.1, h.2.2.2.2.2.1, h.2.2.2.2.2.2.1, h.2.2.2.2.2.2.2.1, h.2.2.2.2.2.2.2.2.1, h.2.2.2.2.2.2.2.2.2.1, fun n hn => by
    obtain ⟨a1, a2, a3⟩ := h.2.2.2.2.2.2.2.2.2.2 n hn
    refine ⟨a1, a2, ?_⟩
    show 0 ≤ (if 36 = 36 ∧ n = i then v else P 36 n) ∧ (if 36 = 36 ∧ n = i then v else P 36 n) ≤ 999
    split
    · exact hv
    · exact a3⟩
section PQT
variable {G : Gl} {w : Wd} {k : Nat} {σ : Mem} {P : Pt} {n N : Nat} {Cs : Nat → List Cl} {b : Nat → Prop} {Pk : Nat → Pt}
/-- a setter of several cells -/
theorem LW.setG (L : LW w σ P n Cs N b Pk) {P' : Pt} {σ2 : Mem} (hs : same KSf σ σ2) (R' : RT True σ2 1 P') (h10 : ∀ r c, σ2 1 10 r c = σ 1 10 r c) (h14 : ∀ r c, σ2 1 14 r c = σ 1 14 r c) (M' : MR σ2 P') (e0 : P' 2 0 = P 2 0) (e1 : P' 2 3 = P 2 3) (h3 : ∀ i, P' 3 i = P 3 i) (h4 : ∀ i, P' 4 i = P 4 i) (h23 : ∀ i, P' 23 i = P 23 i) (h24 : ∀ i, P' 24 i = P 24 i) (W' : WF P') (q : QP P') : LWx w σ2 :=
  ⟨P', n, Cs, N, b, Pk, L.step hs ⟨L.1.1.set R' h10 h14 e0 e1 h3 h4 h23 h24, M'⟩ ⟨W', q⟩⟩
theorem pair_turner (L : LW w σ P n Cs N b Pk) (hk : 8 ≤ k) {t l f a : Int} : Pair G w w k (0, 0) 116 [vr 0 0 0, vi t, vi l, vi f, vi a] 228 [vr 21 0 0, vi t, vi l, vi f, vi a] σ := by
  refine pair_set2 L (F := fun σ' => up (up (up σ' 21 34 0 t.toNat l) 21 35 0 t.toNat f) 21 36 0 t.toNat a) (fun Q q0 q1 => kc_turner L.1.1.1 L.1.2.2.1 hk q0 q1) (fun _ => MR_c (MR_c (MR_c L.1.2.1 (by decide)) (by decide)) (by decide)) (fun σ' M Q q0 q1 => kx_turner M L.1.2.2.1 hk q0 q1) (fun z => ?_)
  obtain ⟨z1, z2, z3, z4⟩ := z
  have t5 : t.toNat < 5 := by omega
  refine L.setG (P' := pu (pu (pu P 34 t.toNat l) 35 t.toNat f) 36 t.toNat a) ((((((same.refl.put rfl).put rfl).put rfl).put rfl).put rfl).put rfl) ((((((L.1.1.1.u_turner0 t5).u_turner1 t5).u_turner2 t5).put2 (by decide)).put2 (by decide)).put2 (by decide)) (fun r c => ?_) (fun r c => ?_) (MR_x (MR_x (MR_x (MR_c (MR_c (MR_c L.1.2.1 (by decide)) (by decide)) (by decide))))) rfl rfl (fun _ => rfl) (fun _ => rfl) (fun _ => rfl) (fun _ => rfl) (((L.1.2.2.1.pu34 (by omega)).pu35 (by omega)).pu36 (by omega)) (((L.qp.pu (by decide) (by omega) (by show t.toNat < 5; omega)).pu (by decide) (by omega) (by show t.toNat < 5; omega)).pu (by decide) (by omega) (by show t.toNat < 5; omega))
  · rw [upp_no (by decide), upp_no (by decide), upp_no (by decide), upp_nf (by decide), upp_nf (by decide), upp_nf (by decide)]
  · rw [upp_no (by decide), upp_no (by decide), upp_no (by decide), upp_nf (by decide), upp_nf (by decide), upp_nf (by decide)]
theorem WF.addEnd {P : Pt} (h : WF P) {q v : Int} (hq : 0 ≤ q ∧ q ≤ 99999) (hv : 1 ≤ v ∧ v ≤ 999) (h6 : P 2 5 < 6) : WF (pu (pu (pu P 32 (P 2 5).toNat q) 33 (P 2 5).toNat v) 2 5 (P 2 5 + 1)) := by
  have s := h.sc
  refine ⟨⟨s.1, s.2.1, s.2.2.1, s.2.2.2.1, s.2.2.2.2.1, ?_, s.2.2.2.2.2.2⟩, h.2.1, h.2.2.1, h.2.2.2.1, h.2.2.2.2.1, h.2.2.2.2.2.1, h.2.2.2.2.2.2.1, h.2.2.2.2.2.2.2.1, h.2.2.2.2.2.2.2.2.1, fun n hn => ?_, h.2.2.2.2.2.2.2.2.2.2⟩
  · show 0 ≤ P 2 5 + 1 ∧ P 2 5 + 1 ≤ 6
    omega
  · have hn' : (n : Int) < P 2 5 + 1 := hn
    show (0 ≤ (if 32 = 32 ∧ n = (P 2 5).toNat then q else P 32 n) ∧ (if 32 = 32 ∧ n = (P 2 5).toNat then q else P 32 n) ≤ 99999) ∧ (1 ≤ (if 33 = 33 ∧ n = (P 2 5).toNat then v else P 33 n) ∧ (if 33 = 33 ∧ n = (P 2 5).toNat then v else P 33 n) ≤ 999)
    by_cases e : n = (P 2 5).toNat
    · rw [if_pos ⟨rfl, e⟩, if_pos ⟨rfl, e⟩]; exact ⟨hq, hv⟩
    · rw [if_neg (fun z => e z.2), if_neg (fun z => e z.2)]
      exact h.en (by omega)
theorem pair_ends (L : LW w σ P n Cs N b Pk) (hk : 8 ≤ k) {q v : Int} : Pair G w w k (0, 0) 110 [vr 0 0 0, vi q, vi v] 217 [vr 21 0 0, vi q, vi v] σ := by
  have s := L.1.2.2.1.sc
  refine pair_set2 L (F := fun σ' => up (up (up σ' 21 32 0 ((P 2 5).toNat) q) 21 33 0 ((P 2 5).toNat) v) 21 2 0 5 (P 2 5 + 1)) (fun Q q0 q1 => kc_ends L.1.1.1 L.1.2.2.1 hk q0 q1) (fun _ => MR_c (MR_c (MR_c L.1.2.1 (by decide)) (by decide)) (by decide)) (fun σ' M Q q0 q1 => kx_ends M L.1.2.2.1 hk q0 q1) (fun z => ?_)
  obtain ⟨z1, z2, z3⟩ := z
  have t5 : (P 2 5).toNat < 6 := by omega
  refine L.setG (P' := pu (pu (pu P 32 (P 2 5).toNat q) 33 (P 2 5).toNat v) 2 5 (P 2 5 + 1)) ((((((same.refl.put rfl).put rfl).put rfl).put rfl).put rfl).put rfl) ((((((L.1.1.1.u_end0 t5).u_end1 t5).u_ends).put2 (by decide)).put2 (by decide)).put2 (by decide)) (fun r c => ?_) (fun r c => ?_) (MR_x (MR_x (MR_x (MR_c (MR_c (MR_c L.1.2.1 (by decide)) (by decide)) (by decide))))) rfl rfl (fun _ => rfl) (fun _ => rfl) (fun _ => rfl) (fun _ => rfl) (L.1.2.2.1.addEnd z1 z2 z3) (((L.qp.pu (by decide) (by omega) (by show (P 2 5).toNat < 6; omega)).pu (by decide) (by omega) (by show (P 2 5).toNat < 6; omega)).pu (by decide) (by omega) (by decide))
  · rw [upp_no (by decide), upp_no (by decide), upp_no (by decide), upp_nf (by decide), upp_nf (by decide), upp_nf (by decide)]
  · rw [upp_no (by decide), upp_no (by decide), upp_no (by decide), upp_nf (by decide), upp_nf (by decide), upp_nf (by decide)]
end PQT

/-! 9zp.pair: a command of both: what the law does with it -/
def LWx (w : Wd) (σ : Mem) : Prop := ∃ (P : Pt) (n : Nat) (Cs : Nat → List Cl) (N : Nat) (b : Nat → Prop) (Pk : Nat → Pt), LW w σ P n Cs N b Pk
/-- the class's call, then the check's: the same answer, and all holds again -/
def PairS (S : AV → Prop) (G : Gl) (w w' : Wd) (k : Nat) (rc : Nat × Nat) (y1 : Nat) (as1 : List AV) (y2 : Nat) (as2 : List AV) (σ : Mem) : Prop := ∃ MID : AV → Mem → Prop, (∀ a σ1, MID a σ1 → S a) ∧
  (∀ Q : Option AV → Mem → Prop, (∀ a σ1, MID a σ1 → Q (some a) σ1) → CC G w w' k rc y1 as1 σ Q) ∧ ∀ a σ1, MID a σ1 → ∀ Q : Option AV → Mem → Prop, (∀ σ2, LWx w' σ2 → Q (some a) σ2) → CC G w' w' k (0, 0) y2 as2 σ1 Q
/-- an int, a long -/
abbrev anI (a : AV) : Prop := ∃ x : Int, a = vi x
abbrev anL (a : AV) : Prop := ∃ x : Int, a = vl x
abbrev Pair := PairS anI
abbrev PairL := PairS anL
theorem MR_x {σ : Mem} {P : Pt} (M : MR σ P) {f i : Nat} {v : Int} : MR (up σ 21 f 0 i v) (pu P f i v) := fun f' i' h2 h38 => by
  unfold up pu
  by_cases z : f' = f ∧ i' = i
  · rw [if_pos ⟨rfl, z.1, rfl, z.2⟩, if_pos z]
  · rw [if_neg (fun y => z ⟨y.2.1, y.2.2.2⟩), if_neg z]
    exact M f' i' h2 h38
theorem MR_c {σ : Mem} {P : Pt} (M : MR σ P) {o f r i : Nat} {v : Int} (ho : o ≠ 21) : MR (up σ o f r i v) P := fun f' i' h2 h38 => by
  unfold up
  rw [if_neg (fun y => ho y.1.symm)]
  exact M f' i' h2 h38
/-- a setter's new town -/
theorem TF.set {σ σ' : Mem} {P P' : Pt} (T : TF σ P) (R' : RT True σ' 1 P') (h10 : ∀ r c, σ' 1 10 r c = σ 1 10 r c) (h14 : ∀ r c, σ' 1 14 r c = σ 1 14 r c) (e0 : P' 2 0 = P 2 0) (e1 : P' 2 3 = P 2 3) (h3 : ∀ i, P' 3 i = P 3 i) (h4 : ∀ i, P' 4 i = P 4 i) (h23 : ∀ i, P' 23 i = P 23 i) (h24 : ∀ i, P' 24 i = P 24 i) : TF σ' P' :=
  ⟨R', fun a b ha hb => (h14 _ _).trans ((T.2.1.of e1 h23 h24) a b ha hb), fun f h0 h1 c hc => (h10 _ _).trans ((T.2.2.of e0 h3 h4) f h0 h1 c hc)⟩
def QP (P : Pt) : Prop := N38 P ∧ GZ P ∧ ZR P ∧ P 2 6 ≤ 9999
theorem pu_else {P : Pt} {f i : Nat} {v : Int} {f' i' : Nat} (z : ¬ (f' = f ∧ i' = i)) : pu P f i v f' i' = P f' i' := if_neg z
theorem QP.pu {P : Pt} (h : QP P) {f i : Nat} {v : Int} (hf : f ≠ 38) (h2 : f = 2 → i ≠ 0 ∧ i ≠ 6) (hi : i < lmc f) : QP (pu P f i v) := by
  obtain ⟨h1, h3, h4, h5⟩ := h
  have e := fun f' i' => pu_else (P := P) (f := f) (i := i) (v := v) (f' := f') (i' := i')
  have e0 := e 2 0 (fun z => (h2 z.1.symm).1 z.2.symm)
  refine ⟨fun j => ?_, fun a b ha hb hz => ?_, fun f' j hj => ?_, ?_⟩
  · rw [e 38 j (fun z => hf z.1.symm)]; exact h1 j
  · rw [e0] at hz
    rw [e 38 _ (fun z => hf z.1.symm)]; exact h3 a b ha hb hz
  · rw [e f' j (fun z => by obtain ⟨rfl, rfl⟩ := z; omega)]; exact h4 f' j hj
  · rw [e 2 6 (fun z => (h2 z.1.symm).2 z.2.symm)]; exact h5
section PRS
variable {G : Gl} {w : Wd} {k : Nat} {σ : Mem} {P : Pt} {n N : Nat} {Cs : Nat → List Cl} {b : Nat → Prop} {Pk : Nat → Pt}
theorem LW.qp (L : LW w σ P n Cs N b Pk) : QP P := ⟨L.1.2.2.2.1, L.1.2.2.2.2.1, L.1.2.2.2.2.2.1, L.1.2.2.2.2.2.2.1⟩
theorem pair_store (L : LW w σ P n Cs N b Pk) (hk : 8 ≤ k) {h g v : Int} : Pair G w w k (0, 0) 79 [vr 0 0 0, vi h, vi g, vi v] 136 [vr 21 0 0, vi h, vi g, vi v] σ := by
  have T := L.1.1
  have M := L.1.2.1
  have W := L.1.2.2.1
  have W0 := W.sc
  refine ⟨fun a σ1 => (¬ ((0 ≤ h ∧ h < P 2 0) ∧ (0 ≤ g ∧ g ≤ 5) ∧ (0 ≤ v ∧ v ≤ 99999)) ∧ a = vi (-1) ∧ σ1 = σ) ∨ (((0 ≤ h ∧ h < P 2 0) ∧ (0 ≤ g ∧ g ≤ 5) ∧ (0 ≤ v ∧ v ≤ 99999)) ∧ a = vi (P 8 (6 * h + g).toNat) ∧ σ1 = up σ 1 9 (h.toNat + 1) g.toNat v), fun a σ1 hm => by rcases hm with ⟨_, rfl, _⟩ | ⟨_, rfl, _⟩ <;> exact ⟨_, rfl⟩, fun Q q => kc_store T.1 W hk (fun c => q _ _ (Or.inl ⟨c, rfl, rfl⟩)) (fun c => q _ _ (Or.inr ⟨c, rfl, rfl⟩)), fun a σ1 hm Q q => ?_⟩
  rcases hm with ⟨c, rfl, rfl⟩ | ⟨c, rfl, rfl⟩
  · exact kx_store M W hk (fun _ => q _ ⟨P, n, Cs, N, b, Pk, L⟩) (fun c' => absurd c' c)
  · refine kx_store (MR_c M (by decide)) W hk (fun c' => absurd c c') (fun _ => q _ ⟨pu P 8 (6 * h + g).toNat v, n, Cs, N, b, Pk, ?_⟩)
    have hs : same KSf σ (up (up σ 1 9 (h.toNat + 1) g.toNat v) 21 8 0 (6 * h + g).toNat v) := ((same.refl).put rfl).put rfl
    have R' : RT True (up (up σ 1 9 (h.toNat + 1) g.toNat v) 21 8 0 (6 * h + g).toNat v) 1 (pu P 8 (6 * h + g).toNat v) := (T.1.u_storeI (by omega) (by omega)).put2 (by decide)
    exact L.step hs ⟨T.set R' (fun r c => by rw [upp_no (by decide), upp_nf (by decide)]) (fun r c => by rw [upp_no (by decide), upp_nf (by decide)]) rfl rfl (fun _ => rfl) (fun _ => rfl) (fun _ => rfl) (fun _ => rfl), MR_x (MR_c M (by decide))⟩ ⟨W.pu8 c.2.2, (L.qp.pu (by decide) (fun z => by cases z) (by show (6 * h + g).toNat < 72; omega))⟩
end PRS

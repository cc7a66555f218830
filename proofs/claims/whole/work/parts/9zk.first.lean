/-! 9zk.first: what holds between the class and the check, all of it; at the start it does -/
def LA (σ : Mem) (P : Pt) : Prop := TF σ P ∧ MR σ P ∧ WF P ∧ N38 P ∧ GZ P ∧ ZR P ∧ P 2 6 ≤ 9999 ∧ σ 10 2 0 0 = 0
def LB (w : Wd) (σ : Mem) (n : Nat) (Cs : Nat → List Cl) : Prop := (σ 0 5 0 0 = (n : Nat) ∧ σ 21 43 0 0 = (n : Nat) ∧ n ≤ 8) ∧ RBo σ n Cs ∧ (∀ i, i < 8 → (σ 0 4 0 i = 0 ∧ w (13 + i) = false) ∨ (σ 0 4 0 i = enc (13 + i) 0 0 ∧ w (13 + i) = true)) ∧ ∀ i, i < n → σ 0 4 0 i = enc (13 + i) 0 0 ∧ w (13 + i) = true
def LC (σ : Mem) (N : Nat) : Prop := σ 0 7 0 0 = (N : Nat) ∧ σ 21 39 0 0 = (N : Nat) ∧ N ≤ 400 ∧ σ 21 48 0 0 = 15 ∧ ∀ i, i < N → (0 ≤ σ 0 6 0 i ∧ σ 0 6 0 i ≤ 255) ∧ σ 21 49 0 i % 256 = σ 0 6 0 i ∧ -128 ≤ σ 21 49 0 i ∧ σ 21 49 0 i ≤ 127
def LI (σ : Mem) (i : Nat) (P : Pt) : Prop := (RT True σ (3 + i) P ∧ WRs σ (3 + i) P ∧ NRs σ (3 + i) P) ∧ WF P ∧ N38 P ∧ GZ P ∧ ZR P ∧ P 2 6 ≤ 9999 ∧ IM σ i P
def LD (w : Wd) (σ : Mem) (b : Nat → Prop) (Pk : Nat → Pt) : Prop := MGs w σ b ∧ (∀ i, i < 4 → ¬ b i → w (3 + i) = false) ∧ (∀ i, i < 4 → (b i ↔ σ 21 76 0 i ≠ 0)) ∧ ∀ i, i < 4 → b i → LI σ i (Pk i)
def LE (w : Wd) (σ : Mem) : Prop := (dec (σ 7 1 0 0) = vr 7 10 0 ∨ dec (σ 7 1 0 0) = vr 0 6 0) ∧ (dec (σ 7 9 0 0) = vr 12 0 0 ∨ ∃ i, i < 8 ∧ dec (σ 7 9 0 0) = vr (13 + i) 0 0 ∧ w (13 + i) = true)
def LW (w : Wd) (σ : Mem) (P : Pt) (n : Nat) (Cs : Nat → List Cl) (N : Nat) (b : Nat → Prop) (Pk : Nat → Pt) : Prop := LA σ P ∧ LB w σ n Cs ∧ LC σ N ∧ LD w σ b Pk ∧ LE w σ
def P00 : Pt := fun f i => if f = 2 ∧ i = 7 then -1 else 0
theorem P00_0 {f i : Nat} (h : ¬ (f = 2 ∧ i = 7)) : P00 f i = 0 := if_neg h
theorem P00_f {f i : Nat} (h : f ≠ 2) : P00 f i = 0 := if_neg (fun z => h z.1)
theorem Z0_4 {f r j : Nat} (h : f ≠ 2) : Z0 4 f r j = 0 := by
  unfold Z0 iv
  split
  · rw [if_neg (by omega), if_neg (by omega)]
  · rfl
theorem Z0_8 {f r j : Nat} (h : f ≠ 48) : Z0 8 f r j = 0 := by
  unfold Z0 iv
  split
  · rw [if_neg (by omega), if_neg (by omega)]
  · rfl
theorem lf_2 {f i : Nat} (hi : i < ln f) (h : lf f i = 2) : f = 2 ∧ i = 7 := by
  unfold lf at h
  by_cases f2 : f = 2
  · subst f2
    have h8 : i < 8 := hi
    rw [if_pos rfl] at h
    refine ⟨rfl, ?_⟩
    split at h
    · omega
    · split at h <;> omega
  · rw [if_neg f2] at h
    repeat' split at h
    all_goals omega
theorem MR_00 : MR σ00 P00 := fun f i h2 h38 => by
  by_cases z : f = 2 ∧ i = 7
  · obtain ⟨rfl, rfl⟩ := z
    rfl
  · rw [P00_0 z, ss21 (by omega)]
    show Z0 8 f 0 i = 0
    exact Z0_8 (by omega)
theorem RT_00 : RT True σ00 1 P00 := fun f i hi _ => by
  rw [ss0 (by decide)]
  show Z0 4 (lf f i) (lr f i) (lc f i) = P00 f i
  by_cases z : f = 2 ∧ i = 7
  · obtain ⟨rfl, rfl⟩ := z
    rfl
  · rw [P00_0 z, Z0_4 (fun e => z (lf_2 hi e))]
theorem TF_00 : TF σ00 P00 := ⟨RT_00, fun a b ha hb => by
    rw [ss0 (by decide)]
    show Z0 4 14 (a.toNat + 1) b.toNat = cobP P00 a b 0 + 1
    rw [Z0_4 (by decide)]
    rfl, fun f h0 h1 => by
    have : P00 2 0 = 0 := rfl
    omega⟩
theorem WF_00 : WF P00 := by
  unfold WF
  refine ⟨by decide, fun h _ => ?_, fun i _ => ?_, ?_⟩
  · rw [P00_f (by decide), P00_f (by decide), P00_f (by decide), P00_f (by decide), P00_f (by decide)]; decide
  · rw [P00_f (by decide)]; decide
  · refine ⟨fun n h => ?_, fun n h => ?_, fun n h => ?_, fun n _ => P00_f (by decide), fun i _ => by rw [P00_f (by decide)]; decide, fun n h => ?_, fun n h => ?_, fun n _ => ?_⟩
    · have : P00 2 1 = 0 := rfl
      omega
    · have : P00 2 2 = 0 := rfl
      omega
    · have : P00 2 3 = 0 := rfl
      omega
    · have : P00 2 4 = 0 := rfl
      omega
    · have : P00 2 5 = 0 := rfl
      omega
    · rw [P00_f (by decide), P00_f (by decide), P00_f (by decide)]; decide
theorem LA_00 : LA σ00 P00 := ⟨TF_00, MR_00, WF_00, fun i => by rw [P00_f (by decide)]; decide, fun a b _ _ _ => P00_f (by decide), fun f i h => by
    by_cases z : f = 2 ∧ i = 7
    · obtain ⟨rfl, rfl⟩ := z
      exact absurd h (by decide)
    · exact P00_0 z, by decide, by rw [ss0 (by decide)]; decide⟩
theorem LW_00 {Cs : Nat → List Cl} {Pk : Nat → Pt} : LW w00 σ00 P00 0 Cs 0 (fun _ => False) Pk :=
  ⟨LA_00, ⟨⟨by decide, by decide, by omega⟩, fun i hi => absurd hi (by omega), fun i _ => Or.inl ⟨by
      show Z0 7 4 0 i = 0
      unfold Z0
      exact if_neg (fun h => absurd h.2.2.2 (by decide)), rfl⟩, fun i hi => absurd hi (by omega)⟩,
    ⟨by decide, by decide, by omega, by decide, fun i hi => absurd hi (by omega)⟩,
    ⟨fun i _ => ⟨fun _ => by
      show Z0 7 3 0 i = 0
      unfold Z0
      exact if_neg (fun h => absurd h.2.2.2 (by decide)), fun h => h.elim⟩, fun _ _ _ => rfl, fun i _ => ⟨fun h => h.elim, fun h => h (by
      rw [ss21 (by omega)]
      show Z0 8 76 0 i = 0
      exact Z0_8 (by decide))⟩, fun i _ h => h.elim⟩,
    ⟨Or.inl (by decide), Or.inl (by decide)⟩⟩

/-! 9zj.ghost: the rules that both hold; what a new one leaves of the others -/
theorem RcG.keep {σ σ' : Mem} {s : Nat} {Cs : List Cl} (h : RcG σ s Cs) (hl : Cs.length ≤ 12) (hs : ∀ f i : Nat, 50 ≤ f → f ≤ 57 → (i : Int) < lowB f * ((s : Nat) + 1) → σ' 21 f 0 i = σ 21 f 0 i) : RcG σ' s Cs := by
  obtain ⟨LL, l3, h1, h2, h4⟩ := h
  have e50 : lowB 50 = 300 := rfl
  have e51 : lowB 51 = 300 := rfl
  have e52 : lowB 52 = 1 := rfl
  have e5 : lowB 53 = 12 ∧ lowB 54 = 12 ∧ lowB 55 = 12 ∧ lowB 56 = 12 ∧ lowB 57 = 12 := ⟨rfl, rfl, rfl, rfl, rfl⟩
  refine ⟨LL, l3, fun i hi => ?_, fun j hj => ?_, ?_⟩
  · rw [hs 50 (300 * s + i) (by omega) (by omega) (by rw [e50]; omega), hs 51 (300 * s + i) (by omega) (by omega) (by rw [e51]; omega)]
    exact h1 i hi
  · obtain ⟨a, b, e, c1, c2, c3, c4, c5, c6⟩ := h2 j hj
    refine ⟨a, b, e, ?_, fun z => ?_, ?_, ?_, ?_, c6⟩
    · rw [hs 53 (12 * s + j) (by omega) (by omega) (by rw [e5.1]; omega)]; exact c1
    · rw [hs 54 (12 * s + j) (by omega) (by omega) (by rw [e5.2.1]; omega)]; exact c2 z
    · rw [hs 55 (12 * s + j) (by omega) (by omega) (by rw [e5.2.2.1]; omega)]; exact c3
    · rw [hs 56 (12 * s + j) (by omega) (by omega) (by rw [e5.2.2.2.1]; omega)]; exact c4
    · rw [hs 57 (12 * s + j) (by omega) (by omega) (by rw [e5.2.2.2.2]; omega)]; exact c5
  · rw [hs 52 s (by omega) (by omega) (by rw [e52]; omega)]; exact h4
theorem RcF.keep {σ σ' : Mem} {o : Nat} {Cs : List Cl} (h : RcF σ o Cs) (hs : ∀ f r c, f ≤ 8 → σ' o f r c = σ o f r c) : RcF σ' o Cs := by
  obtain ⟨LL, l4, h1, ⟨h2, h3⟩, h4⟩ := h
  refine ⟨LL, l4, fun i hi => by rw [hs 8 0 i (by omega)]; exact h1 i hi, ⟨by rw [hs 2 0 0 (by omega)]; exact h2, fun j hj => ?_⟩, by rw [hs 1 0 0 (by omega)]; exact h4⟩
  obtain ⟨a, b, e, c1, c2, c3, c4, c5⟩ := h3 j hj
  exact ⟨a, b, e, by rw [hs 4 0 j (by omega)]; exact c1, by rw [hs 5 0 j (by omega)]; exact c2, by rw [hs 6 0 j (by omega)]; exact c3, by rw [hs 7 0 j (by omega)]; exact c4, c5⟩
/-- the rules that both hold -/
def RBo (σ : Mem) (n : Nat) (Cs : Nat → List Cl) : Prop := ∀ i, i < n → ((∀ x, x ∈ Cs i → ClOK x) ∧ (Cs i).length ≤ 12) ∧ RcF σ (13 + i) (Cs i) ∧ RcG σ i (Cs i)
/-- the tape, and behind it the cells of the rules there are -/
noncomputable def gh (σ : Mem) (n : Nat) : Nat → Int := fun x => if x < 400 then σ 0 6 0 x % 256 else @ite _ (∃ f i, 50 ≤ f ∧ f ≤ 57 ∧ i < 4096 ∧ x = cd f i (σ 21 f 0 i) ∧ (i : Int) < lowB f * (n : Nat)) (Classical.propDecidable _) 1 0
theorem gh_tape (σ : Mem) (n : Nat) {x : Nat} (h : x < 400) : gh σ n x = σ 0 6 0 x % 256 := if_pos h
theorem cd_400 (f i : Nat) (x : Int) : ¬ cd f i x < 400 := by unfold cd; omega
theorem gh_TR (σ : Mem) (n : Nat) : TR (gh σ n) := fun x => by
  unfold gh
  split
  · omega
  · split
    · omega
    · omega
theorem gh_in {σ : Mem} {n f i : Nat} {x : Int} (a : 50 ≤ f) (b : f ≤ 57) (c : i < 4096) (h : gh σ n (cd f i x) = 1) : σ 21 f 0 i = x ∧ (i : Int) < lowB f * (n : Nat) := by
  unfold gh at h
  rw [if_neg (cd_400 f i x)] at h
  split at h
  · rename_i z
    obtain ⟨f', i', a', b', c', e, l⟩ := z
    obtain ⟨rfl, rfl, rfl⟩ := cd_inj e ⟨a, b⟩ ⟨a', b'⟩ c c'
    exact ⟨rfl, l⟩
  · cases h
theorem gh_of {σ : Mem} {n f i : Nat} (a : 50 ≤ f) (b : f ≤ 57) (c : i < 4096) (l : (i : Int) < lowB f * (n : Nat)) : gh σ n (cd f i (σ 21 f 0 i)) = 1 := by
  unfold gh
  rw [if_neg (cd_400 f i _)]
  split
  · rfl
  · rename_i z
    exact absurd ⟨f, i, a, b, c, rfl, l⟩ z
theorem lowB_le {f n : Nat} (a : 50 ≤ f) (hn : n ≤ 8) : lowB f * (n : Nat) ≤ 2400 ∧ 0 ≤ lowB f := by
  unfold lowB
  split
  · omega
  · split <;> omega
/-- the rules before are kept where what is told of them holds -/
theorem RBo.keepG {σ σ' : Mem} {n : Nat} {Cs : Nat → List Cl} (h : RBo σ n Cs) (hn : n ≤ 8) (hF : FTS σ' (gh σ n)) (hc : ∀ i, i < n → ∀ f r c, f ≤ 8 → σ' (13 + i) f r c = σ (13 + i) f r c) : RBo σ' n Cs := fun i hi => by
  obtain ⟨h1, h2, h3⟩ := h i hi
  refine ⟨h1, h2.keep (fun f r c hf => hc i hi f r c hf), h3.keep h1.2 (fun f j a b l => ?_)⟩
  have lb := lowB_le (f := f) (n := n) a hn
  have l2 : (j : Int) < lowB f * (n : Nat) := by
    have : lowB f * ((i : Nat) + 1 : Int) ≤ lowB f * (n : Nat) := Int.mul_le_mul_of_nonneg_left (by omega) lb.2
    omega
  exact (hF f j _ a b (by omega) (gh_of a b (by omega) l2)).1
/-- the rules are kept where nothing of theirs is touched -/
theorem RBo.keepS {σ σ' : Mem} {n : Nat} {Cs : Nat → List Cl} (h : RBo σ n Cs) (hc : ∀ i, i < n → ∀ f r c, f ≤ 8 → σ' (13 + i) f r c = σ (13 + i) f r c) (hx : ∀ f, 50 ≤ f → f ≤ 57 → ∀ r c, σ' 21 f r c = σ 21 f r c) : RBo σ' n Cs := fun i hi => by
  obtain ⟨h1, h2, h3⟩ := h i hi
  exact ⟨h1, h2.keep (fun f r c hf => hc i hi f r c hf), h3.keep h1.2 (fun f j a b _ => hx f a b 0 j)⟩

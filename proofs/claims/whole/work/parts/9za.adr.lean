/-! 9za.adr: the cells of an object, by their offsets; an object that is new, in the memory -/
def NR (c : Nat) : Nat := if c = 2 then 10 else NF c
theorem lenL : ∀ c, c < 9 → (layT.getD c []).length = NR c := by decide +kernel
theorem arow_NR {c k r : Nat} (hc : c < 9) (h : arow (lay c k) r) : k < NR c := by
  rcases Nat.lt_or_ge k (NR c) with z | z
  · exact z
  · exfalso
    have e : lay c k = (99, 0, 0, 0) := by
      unfold lay
      rw [List.getD_eq_getElem?_getD, List.getElem?_eq_none (by rw [lenL c hc]; exact z)]
      rfl
    rw [e] at h
    have := h.2.1
    omega
theorem nbR_all : ∀ c, c < 9 → ∀ k, k < NR c → isAr c k = true → 1 ≤ (lay c k).2.2.2 ∧ (lay c k).2.2.2 + cnt c k ≤ nB c := by decide +kernel
def monR (c k k' : Nat) : Bool := !(isAr c k && isAr c k' && decide (k < k')) || decide ((lay c k).2.2.2 + cnt c k ≤ (lay c k').2.2.2)
theorem monR_all : ∀ c, c < 9 → ∀ k, k < NR c → ∀ k', k' < NR c → monR c k k' = true := by decide +kernel
theorem arow_inR {c k r k' r' : Nat} (hc : c < 9) (h : arow (lay c k) r) (h' : arow (lay c k') r') (e : (lay c k).2.2.2 + r = (lay c k').2.2.2 + r') : k = k' ∧ r = r' := by
  obtain ⟨a1, a2⟩ := arow_lt h
  obtain ⟨b1, b2⟩ := arow_lt h'
  have hk := arow_NR hc h
  have hk' := arow_NR hc h'
  rcases Nat.lt_trichotomy k k' with z | z | z
  · have y := monR_all c hc k hk k' hk'
    unfold monR at y
    rw [a2, b2] at y
    have : (lay c k).2.2.2 + cnt c k ≤ (lay c k').2.2.2 := by simpa [z] using y
    omega
  · subst z; exact ⟨rfl, by omega⟩
  · have y := monR_all c hc k' hk' k hk
    unfold monR at y
    rw [a2, b2] at y
    have : (lay c k').2.2.2 + cnt c k' ≤ (lay c k).2.2.2 := by simpa [z] using y
    omega
theorem nB_pos : ∀ c, c < 9 → 1 ≤ nB c := by decide
theorem cls_lt (o : Nat) : cls o < 9 := by
  unfold cls
  repeat' split
  all_goals omega
/-- how far from its object's cell a cell stands -/
def dis (o f r : Nat) : Nat := if f = 0 ∨ f = 999 then 0 else (lay (cls o) (f - 1)).2.2.2 + r
theorem adr_dis (ob : Nat → Nat) (o f r : Nat) : adr ob o f r = ob o + dis o f r := by
  unfold adr dis
  split
  · rfl
  · omega
/-- a place of the object o, whether it is born or not -/
def ploc (o f r : Nat) : Prop := (f = 0 ∧ r = 0) ∨ (0 < f ∧ arow (lay (cls o) (f - 1)) r)
theorem ploc_f {o f r : Nat} (h : ploc o f r) : f ≤ NR (cls o) := by
  rcases h with h | h
  · omega
  · have := arow_NR (cls_lt o) h.2; omega
theorem NR_le : ∀ c, c < 9 → NR c ≤ 78 := by decide
theorem dis_lt {o f r : Nat} (h : ploc o f r) : dis o f r < nB (cls o) ∧ (0 < f → 1 ≤ dis o f r) := by
  have hf := ploc_f h
  have h78 := NR_le _ (cls_lt o)
  unfold dis
  rcases h with h | h
  · rw [if_pos (Or.inl h.1)]
    exact ⟨nB_pos _ (cls_lt o), fun z => by omega⟩
  · rw [if_neg (by omega)]
    have z := arow_lt h.2
    have y := nbR_all _ (cls_lt o) _ (arow_NR (cls_lt o) h.2) z.2
    omega
theorem dis_inj {o f r f' r' : Nat} (h : ploc o f r) (h' : ploc o f' r') (e : dis o f r = dis o f' r') : f = f' ∧ r = r' := by
  have d1 := dis_lt h
  have d2 := dis_lt h'
  have f1 := ploc_f h
  have f2 := ploc_f h'
  have h78 := NR_le _ (cls_lt o)
  rcases h with h | h <;> rcases h' with h' | h'
  · omega
  · have := d2.2 h'.1
    unfold dis at e this
    rw [if_pos (Or.inl h.1)] at e
    omega
  · have := d1.2 h.1
    unfold dis at e this
    rw [if_pos (Or.inl h'.1)] at e
    omega
  · unfold dis at e
    rw [if_neg (by omega), if_neg (by omega)] at e
    have z := arow_inR (cls_lt o) h.2 h'.2 e
    omega
/-- the memory of an object that is new -/
def Z0 (c f r j : Nat) : Int := if r = 0 ∧ j = 0 ∧ 0 < f ∧ (lay c (f - 1)).1 < 3 then iv c (f - 1) else 0
theorem iv1 : ∀ c, c < 9 → ∀ k, k < NF c → (lay c k).1 = 1 → iv c k = 0 := by decide +kernel
theorem NF_NR : ∀ c, c < 9 → NF c ≤ NR c := by decide
theorem fval_new {ob : Nat → Nat} {σ : Mem} {o k : Nat} (hk : k < NF (cls o)) (h4 : (lay (cls o) k).1 ≠ 4) (hz : σ o (k + 1) 0 0 = Z0 (cls o) (k + 1) 0 0) : fval ob σ o k = VI (cls o) (ob o) k := by
  have i1 := iv1 (cls o) (cls_lt o) k hk
  have hz' : σ o (k + 1) 0 0 = if (lay (cls o) k).1 < 3 then iv (cls o) k else 0 := by rw [hz]; unfold Z0; simp
  unfold fval gfv VI
  rw [hz']
  by_cases h0 : (lay (cls o) k).1 = 0
  · rw [if_pos h0, if_pos (Or.inl h0), if_pos (show (lay (cls o) k).1 < 3 by omega)]; rfl
  · rw [if_neg h0]
    by_cases h2 : (lay (cls o) k).1 = 2
    · rw [if_pos h2, if_pos (Or.inr h2), if_pos (show (lay (cls o) k).1 < 3 by omega)]; rfl
    · rw [if_neg h2, if_neg (show ¬ ((lay (cls o) k).1 = 0 ∨ (lay (cls o) k).1 = 2) by omega)]
      by_cases h1 : (lay (cls o) k).1 = 1
      · rw [if_pos h1, if_pos h1, if_pos (show (lay (cls o) k).1 < 3 by omega), i1 h1]; rfl
      · rw [if_neg h1, if_neg h1]
        by_cases h3 : (lay (cls o) k).1 = 3
        · rw [if_pos h3, if_pos h3, if_neg (show ¬ (lay (cls o) k).1 < 3 by omega)]; rfl
        · rw [if_neg h3, if_neg h3, if_neg h4]
          show Value.ref (adr ob o (k + 1) 0) = _
          have h78 := NR_le (cls o) (cls_lt o)
          have hNR := NF_NR (cls o) (cls_lt o)
          unfold adr
          rw [if_neg (by omega), Nat.add_sub_cancel]
          rfl
theorem elv_new {G : Gl} {ob : Nat → Nat} {σ : Mem} {o f r : Nat} (hf : 0 < f) (ha : arow (lay (cls o) (f - 1)) r) (hz : ∀ j, σ o f r j = Z0 (cls o) f r j) : celG G (cls o) (ob o) (f - 1) r = arrV (G.2.1.2.2 (acd (lay (cls o) (f - 1)) r)) (akk (lay (cls o) (f - 1)) r).2 (elv ob σ o f r) := by
  unfold celG
  have h78 := NR_le _ (cls_lt o)
  have hfl := arow_NR (cls_lt o) ha
  refine arr_ext (fun j _ => ?_)
  unfold zel elv
  have e0 : σ o f r j = 0 := by
    rw [hz]; unfold Z0
    rw [if_neg]
    intro z
    have := ha.1
    omega
  rw [e0]
  by_cases h11 : (akk (lay (cls o) (f - 1)) r).1 = 11
  · rw [if_pos h11, if_pos h11]; rfl
  · rw [if_neg h11, if_neg h11]
    by_cases h14 : (akk (lay (cls o) (f - 1)) r).1 = 14
    · rw [if_pos h14, if_pos h14]; rfl
    · rw [if_neg h14, if_neg h14]
      by_cases h15 : (akk (lay (cls o) (f - 1)) r).1 = 15
      · rw [if_pos h15, if_pos h15]
        unfold adr
        rw [if_neg (by omega)]
      · rw [if_neg h15, if_neg h15]; rfl

/-! 90.tests: facts and tests go on along the text (pure) -/
theorem pzSl_adv {t : Nat → Int} {N : Nat} : ∀ (m p c : Nat) (L : List (Nat × Int)) {p1 c1 : Nat} {L1 : List (Nat × Int)}, p ≤ N → c ≤ 60 → pzSl t N m p c L = .inr (p1, c1, L1) → p ≤ p1 ∧ p1 ≤ N ∧ c1 ≤ 60
  | 0, p, c, L, p1, c1, L1, hp, hc, h => by
    cases h
    exact ⟨Nat.le_refl _, hp, hc⟩
  | m + 1, p, c, L, p1, c1, L1, hp, hc, h => by
    have h' : (if tk t N p = 143 ∨ tk t N p = 145 then bnd (pzT t N (te t N p) c) (fun p' c' L' => pzSl t N m p' c' (L ++ L' ++ [(if tk t N p = 143 then 2 else 3, 0)])) else .inr (p, c, L)) = .inr (p1, c1, L1) := h
    by_cases q : tk t N p = 143 ∨ tk t N p = 145
    · rw [if_pos q] at h'
      have a := te_adv (t := t) hp (by omega)
      cases e : pzT t N (te t N p) c with
      | inl f => rw [e] at h'; cases h'
      | inr r =>
        obtain ⟨p2, c2, L2⟩ := r
        rw [e] at h'
        have b := pzT_adv a.2 e
        have d := pzSl_adv m p2 c2 _ b.2.1 b.2.2 h'
        omega
    · rw [if_neg q] at h'
      cases h'
      exact ⟨Nat.le_refl _, hp, hc⟩
theorem pzS_adv {t : Nat → Int} {N p c p1 c1 : Nat} {L1 : List (Nat × Int)} (hp : p ≤ N) (h : pzS t N p c = .inr (p1, c1, L1)) : p < p1 ∧ p1 ≤ N ∧ c1 ≤ 60 := by
  unfold pzS at h
  cases e : pzT t N p c with
  | inl f => rw [e] at h; cases h
  | inr r =>
    obtain ⟨p2, c2, L2⟩ := r
    rw [e] at h
    have b := pzT_adv hp e
    have d := pzSl_adv _ p2 c2 _ b.2.1 b.2.2 h
    omega
theorem pzC_adv {t : Nat → Int} {N p c p1 c1 : Nat} {L1 : List (Nat × Int)} (hp : p ≤ N) (h : pzC t N p c = .inr (p1, c1, L1)) : p < p1 ∧ p1 ≤ N ∧ c1 ≤ 60 := by
  unfold pzC at h
  cases e : pzS t N p c with
  | inl f => rw [e] at h; cases h
  | inr r =>
    obtain ⟨p2, c2, L2⟩ := r
    rw [e] at h
    have b := pzS_adv hp e
    have h' : (if tk t N p2 = 160 ∨ tk t N p2 = 161 ∨ tk t N p2 = 162 ∨ tk t N p2 = 23 ∨ tk t N p2 = 24 then (if 60 ≤ c2 then .inl (1 + 8 * bls t N p2 + 3) else bnd (pzS t N (te t N p2) (c2 + 1)) (fun p3 c3 L3 => .inr (p3, c3, L2 ++ L3 ++ [(cmpN (tk t N p2), 0)]))) else .inl (1 + 8 * bls t N p2) : PR) = .inr (p1, c1, L1) := h
    by_cases q : tk t N p2 = 160 ∨ tk t N p2 = 161 ∨ tk t N p2 = 162 ∨ tk t N p2 = 23 ∨ tk t N p2 = 24
    · rw [if_pos q] at h'
      have a := te_adv (t := t) b.2.1 (by omega)
      by_cases q2 : 60 ≤ c2
      · rw [if_pos q2] at h'; cases h'
      · rw [if_neg q2] at h'
        cases e3 : pzS t N (te t N p2) (c2 + 1) with
        | inl f => rw [e3] at h'; cases h'
        | inr r =>
          obtain ⟨p3, c3, L3⟩ := r
          rw [e3] at h'
          have d := pzS_adv a.2 e3
          cases h'
          exact ⟨by omega, d.2.1, d.2.2⟩
    · rw [if_neg q] at h'
      cases h'
theorem pzG_adv {t : Nat → Int} {N : Nat} : ∀ (m md d : Nat) (b : Bool) (p c : Nat) (L M : List (Nat × Int)) {p1 c1 : Nat} {L1 M1 : List (Nat × Int)}, p ≤ N → c ≤ 60 → pzG t N m md d b p c L M = .inr (p1, c1, L1, M1) → p ≤ p1 ∧ p1 ≤ N ∧ c1 ≤ 60 ∧ (md ≤ 1 → p < p1)
  | 0, md, d, b, p, c, L, M, p1, c1, L1, M1, hp, hc, h => by
    unfold pzG at h
    cases h
  | m + 1, 0, d, b, p, c, L, M, p1, c1, L1, M1, hp, hc, h => by
    unfold pzG at h
    by_cases q : tk t N p = 22
    · rw [if_pos q] at h
      have a := te_adv (t := t) hp (by omega)
      by_cases q2 : 10 ≤ d
      · rw [if_pos q2] at h; cases h
      · rw [if_neg q2] at h
        cases e : pzG t N m 0 (d + 1) (!b) (te t N p) c [] [] with
        | inl f => rw [e] at h; cases h
        | inr r =>
          obtain ⟨p2, c2, L2, M2⟩ := r
          rw [e] at h
          have z := pzG_adv m 0 (d + 1) (!b) (te t N p) c [] [] a.2 hc e
          cases h
          exact ⟨by omega, z.2.1, z.2.2.1, fun _ => by omega⟩
    · rw [if_neg q] at h
      by_cases q3 : tk t N p = 191
      · rw [if_pos q3] at h
        have a := te_adv (t := t) hp (by omega)
        by_cases q2 : 10 ≤ d
        · rw [if_pos q2] at h; cases h
        · rw [if_neg q2] at h
          cases e : pzG t N m 1 (d + 1) false (te t N p) c [] [] with
          | inl f => rw [e] at h; cases h
          | inr r =>
            obtain ⟨p2, c2, L2, M2⟩ := r
            rw [e] at h
            have z := pzG_adv m 1 (d + 1) false (te t N p) c [] [] a.2 hc e
            have h' : (if tk t N p2 = 193 then .inr (te t N p2, c2, L2 ++ notL b, M2) else .inl (1 + 8 * bls t N p2) : PT) = .inr (p1, c1, L1, M1) := h
            by_cases q4 : tk t N p2 = 193
            · rw [if_pos q4] at h'
              have a2 := te_adv (t := t) z.2.1 (by omega)
              cases h'
              exact ⟨by omega, a2.2, z.2.2.1, fun _ => by omega⟩
            · rw [if_neg q4] at h'; cases h'
      · rw [if_neg q3] at h
        cases e : pzC t N p c with
        | inl f => rw [e] at h; cases h
        | inr r =>
          obtain ⟨p2, c2, L2⟩ := r
          rw [e] at h
          have z := pzC_adv hp e
          cases h
          exact ⟨by omega, z.2.1, z.2.2, fun _ => z.1⟩
  | m + 1, 1, d, b, p, c, L, M, p1, c1, L1, M1, hp, hc, h => by
    unfold pzG at h
    cases e : pzG t N m 0 d false p c [] [] with
    | inl f => rw [e] at h; cases h
    | inr r =>
      obtain ⟨p2, c2, L2, M2⟩ := r
      rw [e] at h
      have z := pzG_adv m 0 d false p c [] [] hp hc e
      have y := pzG_adv m 2 d false p2 c2 L2 M2 z.2.1 z.2.2.1 h
      have zz := z.2.2.2 (by omega)
      exact ⟨by omega, y.2.1, y.2.2.1, fun _ => by omega⟩
  | m + 1, x + 2, d, b, p, c, L, M, p1, c1, L1, M1, hp, hc, h => by
    unfold pzG at h
    by_cases q : tk t N p = 20
    · rw [if_pos q] at h
      have a := te_adv (t := t) hp (by omega)
      cases e : pzG t N m 0 d false (te t N p) c [] [] with
      | inl f => rw [e] at h; cases h
      | inr r =>
        obtain ⟨p2, c2, L2, M2⟩ := r
        rw [e] at h
        have z := pzG_adv m 0 d false (te t N p) c [] [] a.2 hc e
        have y := pzG_adv m 2 d b p2 c2 _ _ z.2.1 z.2.2.1 h
        exact ⟨by omega, y.2.1, y.2.2.1, fun w => absurd w (by omega)⟩
    · rw [if_neg q] at h
      by_cases q2 : tk t N p = 21
      · rw [if_pos q2] at h
        have a := te_adv (t := t) hp (by omega)
        cases e : pzG t N m 0 d false (te t N p) c [] [] with
        | inl f => rw [e] at h; cases h
        | inr r =>
          obtain ⟨p2, c2, L2, M2⟩ := r
          rw [e] at h
          have z := pzG_adv m 0 d false (te t N p) c [] [] a.2 hc e
          have y := pzG_adv m 2 d true p2 c2 _ _ z.2.1 z.2.2.1 h
          exact ⟨by omega, y.2.1, y.2.2.1, fun w => absurd w (by omega)⟩
      · rw [if_neg q2] at h
        cases h
        exact ⟨Nat.le_refl _, hp, hc, fun w => absurd w (by omega)⟩

/-! 94.len: the class's pieces are no more than the bytes (pure) -/
theorem pzTl_len {t : Nat → Int} {N : Nat} : ∀ (m p c : Nat) (L : List (Nat × Int)) {p1 c1 : Nat} {L1 : List (Nat × Int)}, p ≤ N → pzTl t N m p c L = .inr (p1, c1, L1) → L1.length + p ≤ p1 + L.length
  | 0, p, c, L, p1, c1, L1, hp, h => by
    cases h
    omega
  | m + 1, p, c, L, p1, c1, L1, hp, h => by
    have h' : (if tk t N p = 142 ∨ tk t N p = 147 then bnd (pzV t N (te t N p) c) (fun p' c' L' => pzTl t N m p' c' (L ++ L' ++ [(if tk t N p = 142 then 13 else 14, 0)])) else .inr (p, c, L)) = .inr (p1, c1, L1) := h
    by_cases q : tk t N p = 142 ∨ tk t N p = 147
    · rw [if_pos q] at h'
      have a := te_adv (t := t) hp (by omega)
      cases e : pzV t N (te t N p) c with
      | inl f => rw [e] at h'; cases h'
      | inr r =>
        obtain ⟨p2, c2, L2⟩ := r
        rw [e] at h'
        have b := pzV_adv a.2 e
        have d := pzTl_len m p2 c2 _ b.2.1 h'
        rw [List.length_append, List.length_append, b.2.2.2.2] at d
        have : ([(if tk t N p = 142 then 13 else 14, (0 : Int))] : List (Nat × Int)).length = 1 := rfl
        omega
    · rw [if_neg q] at h'
      cases h'
      omega
theorem pzT_len {t : Nat → Int} {N p c p1 c1 : Nat} {L1 : List (Nat × Int)} (hp : p ≤ N) (h : pzT t N p c = .inr (p1, c1, L1)) : L1.length + p ≤ p1 := by
  unfold pzT at h
  cases e : pzV t N p c with
  | inl f => rw [e] at h; cases h
  | inr r =>
    obtain ⟨p2, c2, L2⟩ := r
    rw [e] at h
    have b := pzV_adv hp e
    have d := pzTl_len _ p2 c2 _ b.2.1 h
    omega
theorem pzSl_len {t : Nat → Int} {N : Nat} : ∀ (m p c : Nat) (L : List (Nat × Int)) {p1 c1 : Nat} {L1 : List (Nat × Int)}, p ≤ N → pzSl t N m p c L = .inr (p1, c1, L1) → L1.length + p ≤ p1 + L.length
  | 0, p, c, L, p1, c1, L1, hp, h => by
    cases h
    omega
  | m + 1, p, c, L, p1, c1, L1, hp, h => by
    have h' : (if tk t N p = 143 ∨ tk t N p = 145 then bnd (pzT t N (te t N p) c) (fun p' c' L' => pzSl t N m p' c' (L ++ L' ++ [(if tk t N p = 143 then 2 else 3, 0)])) else .inr (p, c, L)) = .inr (p1, c1, L1) := h
    by_cases q : tk t N p = 143 ∨ tk t N p = 145
    · rw [if_pos q] at h'
      have a := te_adv (t := t) hp (by omega)
      cases e : pzT t N (te t N p) c with
      | inl f => rw [e] at h'; cases h'
      | inr r =>
        obtain ⟨p2, c2, L2⟩ := r
        rw [e] at h'
        have b := pzT_adv a.2 e
        have rm := pzT_len a.2 e
        have d := pzSl_len m p2 c2 _ b.2.1 h'
        rw [List.length_append, List.length_append] at d
        have : ([(if tk t N p = 143 then 2 else 3, (0 : Int))] : List (Nat × Int)).length = 1 := rfl
        omega
    · rw [if_neg q] at h'
      cases h'
      omega
theorem pzS_len {t : Nat → Int} {N p c p1 c1 : Nat} {L1 : List (Nat × Int)} (hp : p ≤ N) (h : pzS t N p c = .inr (p1, c1, L1)) : L1.length + p ≤ p1 := by
  unfold pzS at h
  cases e : pzT t N p c with
  | inl f => rw [e] at h; cases h
  | inr r =>
    obtain ⟨p2, c2, L2⟩ := r
    rw [e] at h
    have b := pzT_adv hp e
    have rm := pzT_len hp e
    have d := pzSl_len _ p2 c2 _ b.2.1 h
    omega
theorem pzC_len {t : Nat → Int} {N p c p1 c1 : Nat} {L1 : List (Nat × Int)} (hp : p ≤ N) (h : pzC t N p c = .inr (p1, c1, L1)) : L1.length + p ≤ p1 := by
  unfold pzC at h
  cases e : pzS t N p c with
  | inl f => rw [e] at h; cases h
  | inr r =>
    obtain ⟨p2, c2, L2⟩ := r
    rw [e] at h
    have b := pzS_adv hp e
    have r1 := pzS_len hp e
    have h' : (if tk t N p2 = 160 ∨ tk t N p2 = 161 ∨ tk t N p2 = 162 ∨ tk t N p2 = 23 ∨ tk t N p2 = 24 then (if 60 ≤ c2 then .inl (1 + 8 * bls t N p2 + 3) else bnd (pzS t N (te t N p2) (c2 + 1)) (fun p3 c3 L3 => .inr (p3, c3, L2 ++ L3 ++ [(cmpN (tk t N p2), 0)]))) else .inl (1 + 8 * bls t N p2) : PR) = .inr (p1, c1, L1) := h
    by_cases q : tk t N p2 = 160 ∨ tk t N p2 = 161 ∨ tk t N p2 = 162 ∨ tk t N p2 = 23 ∨ tk t N p2 = 24
    · rw [if_pos q] at h'
      have a := te_adv (t := t) b.2.1 (by omega)
      by_cases q2 : 60 ≤ c2
      · rw [if_pos q2] at h'; cases h'
      · rw [if_neg q2] at h'
        cases e3 : pzS t N (te t N p2) (c2 + 1) with
        | inl f => rw [e3] at h'; cases h'
        | inr r =>
          obtain ⟨p3, c3, L3⟩ := r
          rw [e3] at h'
          have r2 := pzS_len a.2 e3
          cases h'
          rw [List.length_append, List.length_append]
          have : ([(cmpN (tk t N p2), (0 : Int))] : List (Nat × Int)).length = 1 := rfl
          omega
    · rw [if_neg q] at h'
      cases h'
theorem notL_le {b : Bool} : (notL b).length ≤ 1 := by cases b <;> decide
theorem orL_le {b : Bool} : (orL b).length ≤ 1 := by cases b <;> decide
theorem pzG_len {t : Nat → Int} {N : Nat} : ∀ (m md d : Nat) (b : Bool) (p c : Nat) (L M : List (Nat × Int)) {p1 c1 : Nat} {L1 M1 : List (Nat × Int)}, p ≤ N → c ≤ 60 → pzG t N m md d b p c L M = .inr (p1, c1, L1, M1) → (md = 0 → L1.length + p ≤ p1 + (notL b).length) ∧ (md = 1 → L1.length + p ≤ p1) ∧ (2 ≤ md → L1.length + p ≤ p1 + L.length + (orL b).length)
  | 0, md, d, b, p, c, L, M, p1, c1, L1, M1, hp, hc, h => by
    unfold pzG at h
    cases h
  | m + 1, 0, d, b, p, c, L, M, p1, c1, L1, M1, hp, hc, h => by
    rw [pzG_0] at h
    by_cases q : tk t N p = 22
    · rw [if_pos q] at h
      have a := te_adv (t := t) hp (by omega)
      by_cases q2 : 10 ≤ d
      · rw [if_pos q2] at h; cases h
      · rw [if_neg q2] at h
        cases e : pzG t N m 0 (d + 1) (!b) (te t N p) c [] [] with
        | inl f => rw [e] at h; cases h
        | inr r =>
          obtain ⟨p2, c2, L2, M2⟩ := r
          rw [e] at h
          have z := (pzG_len m 0 (d + 1) (!b) (te t N p) c [] [] a.2 hc e).1 rfl
          have n1 : (notL !b).length ≤ 1 := notL_le
          cases h
          exact ⟨fun _ => by omega, fun x => absurd x (by omega), fun x => absurd x (by omega)⟩
    · rw [if_neg q] at h
      by_cases q3 : tk t N p = 191
      · rw [if_pos q3] at h
        have a := te_adv (t := t) hp (by omega)
        by_cases q2 : 10 ≤ d
        · rw [if_pos q2] at h; cases h
        · rw [if_neg q2] at h
          cases e : pzG t N m 1 (d + 1) false (te t N p) c [] [] with
          | inl f => rw [e] at h; cases h
          | inr r =>
            obtain ⟨p2, c2, L2, M2⟩ := r
            rw [e] at h
            have y := pzG_adv m 1 (d + 1) false (te t N p) c [] [] a.2 hc e
            have z := (pzG_len m 1 (d + 1) false (te t N p) c [] [] a.2 hc e).2.1 rfl
            have h' : (if tk t N p2 = 193 then .inr (te t N p2, c2, L2 ++ notL b, M2) else .inl (1 + 8 * bls t N p2) : PT) = .inr (p1, c1, L1, M1) := h
            by_cases q4 : tk t N p2 = 193
            · rw [if_pos q4] at h'
              have a2 := te_adv (t := t) y.2.1 (by omega)
              cases h'
              refine ⟨fun _ => ?_, fun x => absurd x (by omega), fun x => absurd x (by omega)⟩
              rw [List.length_append]
              omega
            · rw [if_neg q4] at h'; cases h'
      · rw [if_neg q3] at h
        cases e : pzC t N p c with
        | inl f => rw [e] at h; cases h
        | inr r =>
          obtain ⟨p2, c2, L2⟩ := r
          rw [e] at h
          have z := pzC_len hp e
          cases h
          refine ⟨fun _ => ?_, fun x => absurd x (by omega), fun x => absurd x (by omega)⟩
          rw [List.length_append]
          omega
  | m + 1, 1, d, b, p, c, L, M, p1, c1, L1, M1, hp, hc, h => by
    rw [pzG_1] at h
    cases e : pzG t N m 0 d false p c [] [] with
    | inl f => rw [e] at h; cases h
    | inr r =>
      obtain ⟨p2, c2, L2, M2⟩ := r
      rw [e] at h
      have y := pzG_adv m 0 d false p c [] [] hp hc e
      have z := (pzG_len m 0 d false p c [] [] hp hc e).1 rfl
      have x := (pzG_len m 2 d false p2 c2 L2 M2 y.2.1 y.2.2.1 h).2.2 (by omega)
      have o0 : (orL false).length = 0 := rfl
      have o1 : (notL false).length = 0 := rfl
      exact ⟨fun x => absurd x (by omega), fun _ => by omega, fun x => absurd x (by omega)⟩
  | m + 1, x + 2, d, b, p, c, L, M, p1, c1, L1, M1, hp, hc, h => by
    have o1 : (notL false).length = 0 := rfl
    rw [pzG_2] at h
    by_cases q : tk t N p = 20
    · rw [if_pos q] at h
      have a := te_adv (t := t) hp (by omega)
      cases e : pzG t N m 0 d false (te t N p) c [] [] with
      | inl f => rw [e] at h; cases h
      | inr r =>
        obtain ⟨p2, c2, L2, M2⟩ := r
        rw [e] at h
        have y := pzG_adv m 0 d false (te t N p) c [] [] a.2 hc e
        have z := (pzG_len m 0 d false (te t N p) c [] [] a.2 hc e).1 rfl
        have x := (pzG_len m 2 d b p2 c2 _ _ y.2.1 y.2.2.1 h).2.2 (by omega)
        rw [List.length_append, List.length_append] at x
        have : ([(10, (0 : Int))] : List (Nat × Int)).length = 1 := rfl
        exact ⟨fun w => absurd w (by omega), fun w => absurd w (by omega), fun _ => by omega⟩
    · rw [if_neg q] at h
      by_cases q2 : tk t N p = 21
      · rw [if_pos q2] at h
        have a := te_adv (t := t) hp (by omega)
        cases e : pzG t N m 0 d false (te t N p) c [] [] with
        | inl f => rw [e] at h; cases h
        | inr r =>
          obtain ⟨p2, c2, L2, M2⟩ := r
          rw [e] at h
          have y := pzG_adv m 0 d false (te t N p) c [] [] a.2 hc e
          have z := (pzG_len m 0 d false (te t N p) c [] [] a.2 hc e).1 rfl
          have x := (pzG_len m 2 d true p2 c2 _ _ y.2.1 y.2.2.1 h).2.2 (by omega)
          rw [List.length_append, List.length_append] at x
          have o1 : (orL true).length = 1 := rfl
          exact ⟨fun w => absurd w (by omega), fun w => absurd w (by omega), fun _ => by omega⟩
      · rw [if_neg q2] at h
        cases h
        refine ⟨fun w => absurd w (by omega), fun w => absurd w (by omega), fun _ => ?_⟩
        rw [List.length_append]
        omega

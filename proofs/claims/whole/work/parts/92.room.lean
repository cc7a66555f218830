/-! 92.room: there is room for a test's pieces (pure) -/
theorem pzSl_room {t : Nat → Int} {N : Nat} : ∀ (m p c : Nat) (L : List (Nat × Int)) {p1 c1 : Nat} {L1 : List (Nat × Int)}, p ≤ N → pzSl t N m p c L = .inr (p1, c1, L1) → 3 * L1.length + p + 4 * c ≤ p1 + 4 * c1 + 3 * L.length
  | 0, p, c, L, p1, c1, L1, hp, h => by
    cases h
    omega
  | m + 1, p, c, L, p1, c1, L1, hp, h => by
    have h' : (if tk t N p = 143 ∨ tk t N p = 145 then bnd (pzT t N (te t N p) c) (fun p' c' L' => pzSl t N m p' c' (L ++ L' ++ [(if tk t N p = 143 then 2 else 3, 0)])) else .inr (p, c, L)) = .inr (p1, c1, L1) := h
    by_cases q : tk t N p = 143 ∨ tk t N p = 145
    · rw [if_pos q] at h'
      have a := te_adv (t := t) hp (by omega)
      cases e : pzT t N (te t N p) c with
      | inl f => rw [e] at h'; cases h'
      | inr r =>
        obtain ⟨p2, c2, L2⟩ := r
        rw [e] at h'
        have b := pzT_adv a.2 e
        have rm := pzT_room a.2 e
        have d := pzSl_room m p2 c2 _ b.2.1 h'
        rw [List.length_append, List.length_append] at d
        have : ([(if tk t N p = 143 then 2 else 3, (0 : Int))] : List (Nat × Int)).length = 1 := rfl
        omega
    · rw [if_neg q] at h'
      cases h'
      omega
theorem pzS_room {t : Nat → Int} {N p c p1 c1 : Nat} {L1 : List (Nat × Int)} (hp : p ≤ N) (h : pzS t N p c = .inr (p1, c1, L1)) : 3 * L1.length + 2 + p + 4 * c ≤ p1 + 4 * c1 := by
  unfold pzS at h
  cases e : pzT t N p c with
  | inl f => rw [e] at h; cases h
  | inr r =>
    obtain ⟨p2, c2, L2⟩ := r
    rw [e] at h
    have b := pzT_adv hp e
    have rm := pzT_room hp e
    have d := pzSl_room _ p2 c2 _ b.2.1 h
    omega
theorem pzC_room {t : Nat → Int} {N p c p1 c1 : Nat} {L1 : List (Nat × Int)} (hp : p ≤ N) (h : pzC t N p c = .inr (p1, c1, L1)) : 3 * L1.length + 6 + p + 4 * c ≤ p1 + 4 * c1 := by
  unfold pzC at h
  cases e : pzS t N p c with
  | inl f => rw [e] at h; cases h
  | inr r =>
    obtain ⟨p2, c2, L2⟩ := r
    rw [e] at h
    have b := pzS_adv hp e
    have r1 := pzS_room hp e
    have h' : (if tk t N p2 = 160 ∨ tk t N p2 = 161 ∨ tk t N p2 = 162 ∨ tk t N p2 = 23 ∨ tk t N p2 = 24 then (if 60 ≤ c2 then .inl (1 + 8 * bls t N p2 + 3) else bnd (pzS t N (te t N p2) (c2 + 1)) (fun p3 c3 L3 => .inr (p3, c3, L2 ++ L3 ++ [(cmpN (tk t N p2), 0)]))) else .inl (1 + 8 * bls t N p2) : PR) = .inr (p1, c1, L1) := h
    by_cases q : tk t N p2 = 160 ∨ tk t N p2 = 161 ∨ tk t N p2 = 162 ∨ tk t N p2 = 23 ∨ tk t N p2 = 24
    · rw [if_pos q] at h'
      have a := te_adv (t := t) b.2.1 (by omega)
      by_cases q2 : 60 ≤ c2
      · rw [if_pos q2] at h'; cases h'
      · rw [if_neg q2] at h'
        cases e3 : pzS t N (te t N p2) (c2 + 1) with
        | inl f => rw [e3] at h'; cases h'
        | inr r =>
          obtain ⟨p3, c3, L3⟩ := r
          rw [e3] at h'
          have r2 := pzS_room a.2 e3
          cases h'
          rw [List.length_append, List.length_append]
          have : ([(cmpN (tk t N p2), (0 : Int))] : List (Nat × Int)).length = 1 := rfl
          omega
    · rw [if_neg q] at h'
      cases h'
/-- not, and, or: so many bytes -/
theorem te_word {t : Nat → Int} {N p v : Nat} (ht : TR t) (hv : v < 23) (h : tk t N p = ((v : Nat) : Int)) : p + strL.getD (wi v) 0 ≤ te t N p := by
  have b := (bls_r (t := t) (N := N) (p := p)).1
  rcases tk_word (N := N) (b := bls t N p) ht hv h with w | w
  · have z := isW_tk hv w
    have y := w.1
    show p + strL.getD (wi v) 0 ≤ teB t N (bls t N p)
    omega
  · omega
theorem pzG_room {t : Nat → Int} {N : Nat} (ht : TR t) : ∀ (m md d : Nat) (b : Bool) (p c : Nat) (L M : List (Nat × Int)) {p1 c1 : Nat} {L1 M1 : List (Nat × Int)}, p ≤ N → c ≤ 60 → pzG t N m md d b p c L M = .inr (p1, c1, L1, M1) → (md ≤ 1 → 3 * M1.length + 2 + p + 4 * c ≤ p1 + 4 * c1) ∧ (2 ≤ md → 3 * M1.length + p + 4 * c ≤ p1 + 4 * c1 + 3 * M.length + 3 * (orL b).length)
  | 0, md, d, b, p, c, L, M, p1, c1, L1, M1, hp, hc, h => by
    unfold pzG at h
    cases h
  | m + 1, 0, d, b, p, c, L, M, p1, c1, L1, M1, hp, hc, h => by
    rw [pzG_0] at h
    by_cases q : tk t N p = 22
    · rw [if_pos q] at h
      have a := te_adv (t := t) hp (by omega)
      have w3 : p + 3 ≤ te t N p := te_word (v := 22) ht (by omega) q
      by_cases q2 : 10 ≤ d
      · rw [if_pos q2] at h; cases h
      · rw [if_neg q2] at h
        cases e : pzG t N m 0 (d + 1) (!b) (te t N p) c [] [] with
        | inl f => rw [e] at h; cases h
        | inr r =>
          obtain ⟨p2, c2, L2, M2⟩ := r
          rw [e] at h
          have z := (pzG_room ht m 0 (d + 1) (!b) (te t N p) c [] [] a.2 hc e).1 (by omega)
          cases h
          refine ⟨fun _ => ?_, fun x => absurd x (by omega)⟩
          rw [List.length_append]
          have : ([(9, (0 : Int))] : List (Nat × Int)).length = 1 := rfl
          omega
    · rw [if_neg q] at h
      by_cases q3 : tk t N p = 191
      · rw [if_pos q3] at h
        have a := te_adv (t := t) hp (by omega)
        by_cases q2 : 10 ≤ d
        · rw [if_pos q2] at h; cases h
        · rw [if_neg q2] at h
          cases e : pzG t N m 1 (d + 1) false (te t N p) c [] [] with
          | inl f => rw [e] at h; cases h
          | inr r =>
            obtain ⟨p2, c2, L2, M2⟩ := r
            rw [e] at h
            have y := pzG_adv m 1 (d + 1) false (te t N p) c [] [] a.2 hc e
            have z := (pzG_room ht m 1 (d + 1) false (te t N p) c [] [] a.2 hc e).1 (by omega)
            have h' : (if tk t N p2 = 193 then .inr (te t N p2, c2, L2 ++ notL b, M2) else .inl (1 + 8 * bls t N p2) : PT) = .inr (p1, c1, L1, M1) := h
            by_cases q4 : tk t N p2 = 193
            · rw [if_pos q4] at h'
              have a2 := te_adv (t := t) y.2.1 (by omega)
              cases h'
              exact ⟨fun _ => by omega, fun x => absurd x (by omega)⟩
            · rw [if_neg q4] at h'; cases h'
      · rw [if_neg q3] at h
        cases e : pzC t N p c with
        | inl f => rw [e] at h; cases h
        | inr r =>
          obtain ⟨p2, c2, L2⟩ := r
          rw [e] at h
          have z := pzC_room hp e
          cases h
          exact ⟨fun _ => by omega, fun x => absurd x (by omega)⟩
  | m + 1, 1, d, b, p, c, L, M, p1, c1, L1, M1, hp, hc, h => by
    rw [pzG_1] at h
    cases e : pzG t N m 0 d false p c [] [] with
    | inl f => rw [e] at h; cases h
    | inr r =>
      obtain ⟨p2, c2, L2, M2⟩ := r
      rw [e] at h
      have y := pzG_adv m 0 d false p c [] [] hp hc e
      have z := (pzG_room ht m 0 d false p c [] [] hp hc e).1 (by omega)
      have x := (pzG_room ht m 2 d false p2 c2 L2 M2 y.2.1 y.2.2.1 h).2 (by omega)
      have o0 : (orL false).length = 0 := rfl
      exact ⟨fun _ => by omega, fun x => absurd x (by omega)⟩
  | m + 1, x + 2, d, b, p, c, L, M, p1, c1, L1, M1, hp, hc, h => by
    rw [pzG_2] at h
    by_cases q : tk t N p = 20
    · rw [if_pos q] at h
      have a := te_adv (t := t) hp (by omega)
      have w3 : p + 3 ≤ te t N p := te_word (v := 20) ht (by omega) q
      cases e : pzG t N m 0 d false (te t N p) c [] [] with
      | inl f => rw [e] at h; cases h
      | inr r =>
        obtain ⟨p2, c2, L2, M2⟩ := r
        rw [e] at h
        have y := pzG_adv m 0 d false (te t N p) c [] [] a.2 hc e
        have z := (pzG_room ht m 0 d false (te t N p) c [] [] a.2 hc e).1 (by omega)
        have x := (pzG_room ht m 2 d b p2 c2 _ _ y.2.1 y.2.2.1 h).2 (by omega)
        rw [List.length_append, List.length_append] at x
        have : ([(10, (0 : Int))] : List (Nat × Int)).length = 1 := rfl
        exact ⟨fun w => absurd w (by omega), fun _ => by omega⟩
    · rw [if_neg q] at h
      by_cases q2 : tk t N p = 21
      · rw [if_pos q2] at h
        have a := te_adv (t := t) hp (by omega)
        have w3 : p + 2 ≤ te t N p := te_word (v := 21) ht (by omega) q2
        cases e : pzG t N m 0 d false (te t N p) c [] [] with
        | inl f => rw [e] at h; cases h
        | inr r =>
          obtain ⟨p2, c2, L2, M2⟩ := r
          rw [e] at h
          have y := pzG_adv m 0 d false (te t N p) c [] [] a.2 hc e
          have z := (pzG_room ht m 0 d false (te t N p) c [] [] a.2 hc e).1 (by omega)
          have x := (pzG_room ht m 2 d true p2 c2 _ _ y.2.1 y.2.2.1 h).2 (by omega)
          rw [List.length_append, List.length_append] at x
          have o1 : (orL true).length = 1 := rfl
          exact ⟨fun w => absurd w (by omega), fun _ => by omega⟩
      · rw [if_neg q2] at h
        cases h
        refine ⟨fun w => absurd w (by omega), fun _ => ?_⟩
        rw [List.length_append]
        omega

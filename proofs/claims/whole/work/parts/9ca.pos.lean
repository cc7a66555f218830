/-! 9ca.pos: a fault is more than 0 (pure) -/
theorem pzV_pos {t : Nat → Int} {N p c : Nat} {f : Int} (hp : p ≤ N) (h : pzV t N p c = .inl f) : 1 ≤ f ∧ f ≤ 8 * N + 5 := by
  have bN := (bls_r (t := t) (N := N) (p := p)).2 hp
  unfold pzV at h
  split at h
  · split at h
    · cases h; omega
    · split at h
      · cases h; omega
      · cases h
  · split at h
    · split at h
      · cases h; omega
      · cases h
    · cases h; omega
theorem pzTl_pos {t : Nat → Int} {N : Nat} : ∀ (m p c : Nat) (L : List (Nat × Int)) {f : Int}, p ≤ N → c ≤ 60 → pzTl t N m p c L = .inl f → 1 ≤ f ∧ f ≤ 8 * N + 5
  | 0, p, c, L, f, hp, hc, h => by cases h
  | m + 1, p, c, L, f, hp, hc, h => by
    have h' : (if tk t N p = 142 ∨ tk t N p = 147 then bnd (pzV t N (te t N p) c) (fun p' c' L' => pzTl t N m p' c' (L ++ L' ++ [(if tk t N p = 142 then 13 else 14, 0)])) else .inr (p, c, L)) = .inl f := h
    by_cases q : tk t N p = 142 ∨ tk t N p = 147
    · rw [if_pos q] at h'
      have a := te_adv (t := t) hp (by omega)
      cases e : pzV t N (te t N p) c with
      | inl g => rw [e] at h'; cases h'; exact pzV_pos a.2 e
      | inr r =>
        obtain ⟨p2, c2, L2⟩ := r
        have b := pzV_adv a.2 e
        rw [e] at h'
        exact pzTl_pos m _ _ _ b.2.1 b.2.2.2.1 h'
    · rw [if_neg q] at h'
      cases h'
theorem pzT_pos {t : Nat → Int} {N p c : Nat} {f : Int} (hp : p ≤ N) (h : pzT t N p c = .inl f) : 1 ≤ f ∧ f ≤ 8 * N + 5 := by
  unfold pzT at h
  cases e : pzV t N p c with
  | inl g => rw [e] at h; cases h; exact pzV_pos hp e
  | inr r =>
    obtain ⟨p2, c2, L2⟩ := r
    have b := pzV_adv hp e
    rw [e] at h
    exact pzTl_pos _ _ _ _ b.2.1 b.2.2.2.1 h
theorem pzSl_pos {t : Nat → Int} {N : Nat} : ∀ (m p c : Nat) (L : List (Nat × Int)) {f : Int}, p ≤ N → c ≤ 60 → pzSl t N m p c L = .inl f → 1 ≤ f ∧ f ≤ 8 * N + 5
  | 0, p, c, L, f, hp, hc, h => by cases h
  | m + 1, p, c, L, f, hp, hc, h => by
    have h' : (if tk t N p = 143 ∨ tk t N p = 145 then bnd (pzT t N (te t N p) c) (fun p' c' L' => pzSl t N m p' c' (L ++ L' ++ [(if tk t N p = 143 then 2 else 3, 0)])) else .inr (p, c, L)) = .inl f := h
    by_cases q : tk t N p = 143 ∨ tk t N p = 145
    · rw [if_pos q] at h'
      have a := te_adv (t := t) hp (by omega)
      cases e : pzT t N (te t N p) c with
      | inl g => rw [e] at h'; cases h'; exact pzT_pos a.2 e
      | inr r =>
        obtain ⟨p2, c2, L2⟩ := r
        have b := pzT_adv a.2 e
        rw [e] at h'
        exact pzSl_pos m _ _ _ b.2.1 b.2.2 h'
    · rw [if_neg q] at h'
      cases h'
theorem pzS_pos {t : Nat → Int} {N p c : Nat} {f : Int} (hp : p ≤ N) (h : pzS t N p c = .inl f) : 1 ≤ f ∧ f ≤ 8 * N + 5 := by
  unfold pzS at h
  cases e : pzT t N p c with
  | inl g => rw [e] at h; cases h; exact pzT_pos hp e
  | inr r =>
    obtain ⟨p2, c2, L2⟩ := r
    have b := pzT_adv hp e
    rw [e] at h
    exact pzSl_pos _ _ _ _ b.2.1 b.2.2 h
theorem pzC_pos {t : Nat → Int} {N p c : Nat} {f : Int} (hp : p ≤ N) (h : pzC t N p c = .inl f) : 1 ≤ f ∧ f ≤ 8 * N + 5 := by
  unfold pzC at h
  cases e : pzS t N p c with
  | inl g => rw [e] at h; cases h; exact pzS_pos hp e
  | inr r =>
    obtain ⟨p2, c2, L2⟩ := r
    have y := pzS_adv hp e
    have bN := (bls_r (t := t) (N := N) (p := p2)).2 y.2.1
    rw [e] at h
    have h' : (if tk t N p2 = 160 ∨ tk t N p2 = 161 ∨ tk t N p2 = 162 ∨ tk t N p2 = 23 ∨ tk t N p2 = 24 then (if 60 ≤ c2 then .inl (1 + 8 * bls t N p2 + 3) else bnd (pzS t N (te t N p2) (c2 + 1)) (fun p3 c3 L3 => .inr (p3, c3, L2 ++ L3 ++ [(cmpN (tk t N p2), 0)]))) else .inl (1 + 8 * bls t N p2) : PR) = .inl f := h
    split at h'
    · rename_i q
      have a := te_adv (t := t) y.2.1 (show tk t N p2 ≠ 32 by omega)
      split at h'
      · cases h'; omega
      · cases e3 : pzS t N (te t N p2) (c2 + 1) with
        | inl g => rw [e3] at h'; cases h'; exact pzS_pos a.2 e3
        | inr r => rw [e3] at h'; cases h'
    · cases h'; omega
theorem pzG_pos {t : Nat → Int} {N : Nat} : ∀ (m md d : Nat) (b : Bool) (p c : Nat) (L M : List (Nat × Int)) {f : Int}, p ≤ N → c ≤ 60 → nd N md p ≤ m → pzG t N m md d b p c L M = .inl f → 1 ≤ f ∧ f ≤ 8 * N + 5
  | 0, md, d, b, p, c, L, M, f, hp, hc, hn, h => by
    unfold nd at hn
    split at hn <;> omega
  | m + 1, 0, d, b, p, c, L, M, f, hp, hc, hn, h => by
    have n0 : nd N 0 p = 2 * (N - p) + 1 := rfl
    have bN := (bls_r (t := t) (N := N) (p := p)).2 hp
    rw [pzG_0] at h
    by_cases q : tk t N p = 22
    · rw [if_pos q] at h
      have a := te_adv (t := t) hp (by omega)
      by_cases q2 : 10 ≤ d
      · rw [if_pos q2] at h; cases h; omega
      · rw [if_neg q2] at h
        cases e : pzG t N m 0 (d + 1) (!b) (te t N p) c [] [] with
        | inl g =>
          rw [e] at h; cases h
          exact pzG_pos m 0 (d + 1) (!b) (te t N p) c [] [] a.2 hc (by show 2 * (N - te t N p) + 1 ≤ m; omega) e
        | inr r => rw [e] at h; cases h
    · rw [if_neg q] at h
      by_cases q3 : tk t N p = 191
      · rw [if_pos q3] at h
        have a := te_adv (t := t) hp (by omega)
        by_cases q2 : 10 ≤ d
        · rw [if_pos q2] at h; cases h; omega
        · rw [if_neg q2] at h
          cases e : pzG t N m 1 (d + 1) false (te t N p) c [] [] with
          | inl g =>
            rw [e] at h; cases h
            exact pzG_pos m 1 (d + 1) false (te t N p) c [] [] a.2 hc (by show 2 * (N - te t N p) + 2 ≤ m; omega) e
          | inr r =>
            obtain ⟨p2, c2, L2, M2⟩ := r
            rw [e] at h
            have y := pzG_adv m 1 (d + 1) false (te t N p) c [] [] a.2 hc e
            have bN2 := (bls_r (t := t) (N := N) (p := p2)).2 y.2.1
            have h' : (if tk t N p2 = 193 then .inr (te t N p2, c2, L2 ++ notL b, M2) else .inl (1 + 8 * bls t N p2) : PT) = .inl f := h
            split at h'
            · cases h'
            · cases h'; omega
      · rw [if_neg q3] at h
        cases e : pzC t N p c with
        | inl g => rw [e] at h; cases h; exact pzC_pos hp e
        | inr r => rw [e] at h; cases h
  | m + 1, 1, d, b, p, c, L, M, f, hp, hc, hn, h => by
    have n0 : nd N 1 p = 2 * (N - p) + 2 := rfl
    rw [pzG_1] at h
    cases e : pzG t N m 0 d false p c [] [] with
    | inl g =>
      rw [e] at h; cases h
      exact pzG_pos m 0 d false p c [] [] hp hc (by show 2 * (N - p) + 1 ≤ m; omega) e
    | inr r =>
      obtain ⟨p2, c2, L2, M2⟩ := r
      rw [e] at h
      have z := pzG_adv m 0 d false p c [] [] hp hc e
      have zz := z.2.2.2 (by omega)
      exact pzG_pos m 2 d false p2 c2 L2 M2 z.2.1 z.2.2.1 (by show 2 * (N - p2) + 2 ≤ m; omega) h
  | m + 1, x + 2, d, b, p, c, L, M, f, hp, hc, hn, h => by
    have n0 : nd N (x + 2) p = 2 * (N - p) + 2 := rfl
    rw [pzG_2] at h
    by_cases q : tk t N p = 20
    · rw [if_pos q] at h
      have a := te_adv (t := t) hp (by omega)
      cases e : pzG t N m 0 d false (te t N p) c [] [] with
      | inl g =>
        rw [e] at h; cases h
        exact pzG_pos m 0 d false (te t N p) c [] [] a.2 hc (by show 2 * (N - te t N p) + 1 ≤ m; omega) e
      | inr r =>
        obtain ⟨p2, c2, L2, M2⟩ := r
        rw [e] at h
        have z := pzG_adv m 0 d false (te t N p) c [] [] a.2 hc e
        exact pzG_pos m 2 d b p2 c2 _ _ z.2.1 z.2.2.1 (by have := z.2.2.2 (by omega); show 2 * (N - p2) + 2 ≤ m; omega) h
    · rw [if_neg q] at h
      by_cases q2 : tk t N p = 21
      · rw [if_pos q2] at h
        have a := te_adv (t := t) hp (by omega)
        cases e : pzG t N m 0 d false (te t N p) c [] [] with
        | inl g =>
          rw [e] at h; cases h
          exact pzG_pos m 0 d false (te t N p) c [] [] a.2 hc (by show 2 * (N - te t N p) + 1 ≤ m; omega) e
        | inr r =>
          obtain ⟨p2, c2, L2, M2⟩ := r
          rw [e] at h
          have z := pzG_adv m 0 d false (te t N p) c [] [] a.2 hc e
          exact pzG_pos m 2 d true p2 c2 _ _ z.2.1 z.2.2.1 (by have := z.2.2.2 (by omega); show 2 * (N - p2) + 2 ≤ m; omega) h
      · rw [if_neg q2] at h
        cases h
theorem pzH_pos {t : Nat → Int} {N p c : Nat} {f : Int} (hp : p ≤ N) (h : pzH t N p c = .inl f) : 1 ≤ f ∧ f ≤ 8 * N + 5 := by
  have bN := (bls_r (t := t) (N := N) (p := p)).2 hp
  unfold pzH at h
  split at h
  · split at h
    · cases h; omega
    · cases h
  · cases h; omega
theorem pzI_pos {t : Nat → Int} {N p c : Nat} {kk f : Int} {L : List (Nat × Int)} (hp : p ≤ N) (hc : c ≤ 60) (h : pzI t N kk p c L = .inl f) : 1 ≤ f ∧ f ≤ 8 * N + 5 := by
  unfold pzI at h
  split at h
  · have a := te_adv (t := t) hp (by omega)
    cases e : pzG t N (2 * N + 2) 1 0 false (te t N p) c [] [] with
    | inl g =>
      rw [e] at h; cases h
      exact pzG_pos _ 1 0 false (te t N p) c [] [] a.2 hc (by show 2 * (N - te t N p) + 2 ≤ 2 * N + 2; omega) e
    | inr r =>
      obtain ⟨p2, c2, L2, M2⟩ := r
      rw [e] at h; cases h
  · cases h
theorem pzK_pos {t : Nat → Int} {N p c n : Nat} {b : Bool} {f : Int} (hp : p ≤ N) (hc : c ≤ 60) (h : pzK t N p c n b = .inl f) : 1 ≤ f ∧ f ≤ 8 * N + 5 := by
  have bN := (bls_r (t := t) (N := N) (p := p)).2 hp
  unfold pzK at h
  split at h
  · have a := te_adv (t := t) hp (by omega)
    split at h
    · cases h; omega
    · split at h
      · exact pzH_pos a.2 h
      · cases e : pzS t N (te t N p) c with
        | inl g => rw [e] at h; cases h; exact pzS_pos a.2 e
        | inr r =>
          obtain ⟨p2, c2, L2⟩ := r
          rw [e] at h
          have y := pzS_adv a.2 e
          exact pzI_pos y.2.1 y.2.2 h
  · cases h; omega

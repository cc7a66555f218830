/-! 91.fuel: how much of fuel a test takes makes no difference (pure) -/
theorem pzG_0 {t : Nat → Int} {N m d p c : Nat} {b : Bool} {L M : List (Nat × Int)} : pzG t N (m + 1) 0 d b p c L M = if tk t N p = 22 then (if 10 ≤ d then .inl (1 + 8 * bls t N p + 2) else bnt (pzG t N m 0 (d + 1) (!b) (te t N p) c [] []) (fun p' c' L M => .inr (p', c', L, M ++ [(9, 0)])))
    else if tk t N p = 191 then (if 10 ≤ d then .inl (1 + 8 * bls t N p + 2) else bnt (pzG t N m 1 (d + 1) false (te t N p) c [] []) (fun p' c' L M => if tk t N p' = 193 then .inr (te t N p', c', L ++ notL b, M) else .inl (1 + 8 * bls t N p')))
    else bns (pzC t N p c) (fun p' c' L => .inr (p', c', L ++ notL b, L)) := by rw [pzG]
theorem pzG_1 {t : Nat → Int} {N m d p c : Nat} {b : Bool} {L M : List (Nat × Int)} : pzG t N (m + 1) 1 d b p c L M = bnt (pzG t N m 0 d false p c [] []) (fun p' c' L M => pzG t N m 2 d false p' c' L M) := by rw [pzG]
theorem pzG_2 {t : Nat → Int} {N m x d p c : Nat} {b : Bool} {L M : List (Nat × Int)} : pzG t N (m + 1) (x + 2) d b p c L M = if tk t N p = 20 then bnt (pzG t N m 0 d false (te t N p) c [] []) (fun p' c' L' M' => pzG t N m 2 d b p' c' (L ++ L' ++ [(10, 0)]) (M ++ M' ++ [(10, 0)]))
    else if tk t N p = 21 then bnt (pzG t N m 0 d false (te t N p) c [] []) (fun p' c' L' M' => pzG t N m 2 d true p' c' (L ++ orL b ++ L') (M ++ orL b ++ M'))
    else .inr (p, c, L ++ orL b, M ++ orL b) := by rw [pzG]
def nd (N md p : Nat) : Nat := 2 * (N - p) + (if md = 0 then 1 else 2)
theorem pzG_fuel {t : Nat → Int} {N : Nat} : ∀ (m m' md d : Nat) (b : Bool) (p c : Nat) (L M : List (Nat × Int)), p ≤ N → c ≤ 60 → nd N md p ≤ m → nd N md p ≤ m' → pzG t N m md d b p c L M = pzG t N m' md d b p c L M
  | 0, m', md, d, b, p, c, L, M, hp, hc, h1, h2 => by
    unfold nd at h1
    split at h1 <;> omega
  | m + 1, 0, md, d, b, p, c, L, M, hp, hc, h1, h2 => by
    unfold nd at h2
    split at h2 <;> omega
  | m + 1, m' + 1, 0, d, b, p, c, L, M, hp, hc, h1, h2 => by
    have n0 : nd N 0 p = 2 * (N - p) + 1 := rfl
    rw [pzG_0, pzG_0]
    by_cases q : tk t N p = 22
    · have a := te_adv (t := t) hp (by omega)
      have e := pzG_fuel (t := t) (N := N) m m' 0 (d + 1) (!b) (te t N p) c [] [] a.2 hc (by show 2 * (N - te t N p) + 1 ≤ m; omega) (by show 2 * (N - te t N p) + 1 ≤ m'; omega)
      rw [if_pos q, if_pos q, e]
    · rw [if_neg q, if_neg q]
      by_cases q3 : tk t N p = 191
      · have a := te_adv (t := t) hp (by omega)
        have e := pzG_fuel (t := t) (N := N) m m' 1 (d + 1) false (te t N p) c [] [] a.2 hc (by show 2 * (N - te t N p) + 2 ≤ m; omega) (by show 2 * (N - te t N p) + 2 ≤ m'; omega)
        rw [if_pos q3, if_pos q3, e]
      · rw [if_neg q3, if_neg q3]
  | m + 1, m' + 1, 1, d, b, p, c, L, M, hp, hc, h1, h2 => by
    have n0 : nd N 1 p = 2 * (N - p) + 2 := rfl
    rw [pzG_1, pzG_1]
    have e := pzG_fuel (t := t) (N := N) m m' 0 d false p c [] [] hp hc (by show 2 * (N - p) + 1 ≤ m; omega) (by show 2 * (N - p) + 1 ≤ m'; omega)
    rw [e]
    cases f : pzG t N m' 0 d false p c [] [] with
    | inl x => rfl
    | inr r =>
      obtain ⟨p2, c2, L2, M2⟩ := r
      have z := pzG_adv m' 0 d false p c [] [] hp hc f
      have zz := z.2.2.2 (by omega)
      exact pzG_fuel (t := t) (N := N) m m' 2 d false p2 c2 L2 M2 z.2.1 z.2.2.1 (by show 2 * (N - p2) + 2 ≤ m; omega) (by show 2 * (N - p2) + 2 ≤ m'; omega)
  | m + 1, m' + 1, x + 2, d, b, p, c, L, M, hp, hc, h1, h2 => by
    have n0 : nd N (x + 2) p = 2 * (N - p) + 2 := by unfold nd; rw [if_neg (by omega)]
    rw [pzG_2, pzG_2]
    by_cases q : tk t N p = 20
    · have a := te_adv (t := t) hp (by omega)
      have e := pzG_fuel (t := t) (N := N) m m' 0 d false (te t N p) c [] [] a.2 hc (by show 2 * (N - te t N p) + 1 ≤ m; omega) (by show 2 * (N - te t N p) + 1 ≤ m'; omega)
      rw [if_pos q, if_pos q, e]
      cases f : pzG t N m' 0 d false (te t N p) c [] [] with
      | inl x => rfl
      | inr r =>
        obtain ⟨p2, c2, L2, M2⟩ := r
        have z := pzG_adv m' 0 d false (te t N p) c [] [] a.2 hc f
        have zz := z.2.2.2 (by omega)
        exact pzG_fuel (t := t) (N := N) m m' 2 d b p2 c2 _ _ z.2.1 z.2.2.1 (by show 2 * (N - p2) + 2 ≤ m; omega) (by show 2 * (N - p2) + 2 ≤ m'; omega)
    · rw [if_neg q, if_neg q]
      by_cases q2 : tk t N p = 21
      · have a := te_adv (t := t) hp (by omega)
        have e := pzG_fuel (t := t) (N := N) m m' 0 d false (te t N p) c [] [] a.2 hc (by show 2 * (N - te t N p) + 1 ≤ m; omega) (by show 2 * (N - te t N p) + 1 ≤ m'; omega)
        rw [if_pos q2, if_pos q2, e]
        cases f : pzG t N m' 0 d false (te t N p) c [] [] with
        | inl x => rfl
        | inr r =>
          obtain ⟨p2, c2, L2, M2⟩ := r
          have z := pzG_adv m' 0 d false (te t N p) c [] [] a.2 hc f
          have zz := z.2.2.2 (by omega)
          exact pzG_fuel (t := t) (N := N) m m' 2 d true p2 c2 _ _ z.2.1 z.2.2.1 (by show 2 * (N - p2) + 2 ≤ m; omega) (by show 2 * (N - p2) + 2 ≤ m'; omega)
      · rw [if_neg q2, if_neg q2]

/-! 9c.rule: a clause, a rule (pure): a fault, or its clauses -/
/-- sort 0 to 3, what a hold holds, the sum, the test as the class writes it, as the check does -/
abbrev Cl : Type := Int × Int × List (Nat × Int) × List (Nat × Int) × List (Nat × Int)
abbrev CR : Type := Int ⊕ (Nat × Nat × Cl)
def d0 : Cl := (0, 0, [], [], [])
/-- the number behind a hold -/
def pzH (t : Nat → Int) (N p c : Nat) : CR :=
  if tk t N p = 31 then (if tvB t N (bls t N p) = -1 ∨ 9999 < tvB t N (bls t N p) then .inl (1 + 8 * bls t N p + 1) else .inr (te t N p, c, (3, tvB t N (bls t N p), [], [], []))) else .inl (1 + 8 * bls t N p)
/-- what stands behind a sum -/
def pzI (t : Nat → Int) (N : Nat) (kk : Int) (p c : Nat) (L : List (Nat × Int)) : CR :=
  if tk t N p = 19 then (match pzG t N (2 * N + 2) 1 0 false (te t N p) c [] [] with
    | .inl f => .inl f
    | .inr (p2, c2, L2, M2) => .inr (p2, c2, (kk, 0, L, L2, M2))) else .inr (p, c, (kk, 0, L, [], []))
def pzK (t : Nat → Int) (N p c n : Nat) (held : Bool) : CR :=
  if 15 ≤ tk t N p ∧ tk t N p ≤ 18 then
    (if n = 12 ∨ (tk t N p = 18 ∧ held = true) then .inl (1 + 8 * bls t N p + 4)
    else if tk t N p = 18 then pzH t N (te t N p) c
    else match pzS t N (te t N p) c with
      | .inl f => .inl f
      | .inr (p1, c1, L1) => pzI t N (tk t N p - 15) p1 c1 L1)
  else .inl (1 + 8 * bls t N p)
def hdB (Cs : List Cl) : Bool := Cs.any (fun x => x.1 == 3)
def hdV (Cs : List Cl) : Int := Cs.foldl (fun v x => if x.1 = 3 then x.2.1 else v) 0
/-- the clauses that are sums -/
def smC (Cs : List Cl) : List Cl := Cs.filter (fun x => x.1 != 3)
def pzR (t : Nat → Int) (N : Nat) : Nat → Nat → Nat → List Cl → Int ⊕ List Cl
  | 0, _, _, _ => .inl 0
  | m + 1, p, c, Cs => match pzK t N p c Cs.length (hdB Cs) with
    | .inl f => .inl f
    | .inr (p1, c1, x) => if tk t N p1 = 159 then pzR t N m (te t N p1) c1 (Cs ++ [x]) else if tk t N p1 = 32 then .inr (Cs ++ [x]) else .inl (1 + 8 * bls t N p1)
theorem pzH_adv {t : Nat → Int} {N p c p1 c1 : Nat} {x : Cl} (hp : p ≤ N) (h : pzH t N p c = .inr (p1, c1, x)) : p < p1 ∧ p1 ≤ N ∧ c1 = c ∧ x.1 = 3 ∧ x.2.2.1 = [] ∧ x.2.2.2.1 = [] ∧ x.2.2.2.2 = [] ∧ (-1 < x.2.1 ∨ x.2.1 < -1) ∧ x.2.1 ≤ 9999 := by
  unfold pzH at h
  split at h
  · rename_i q
    have a := te_adv (t := t) hp (by omega)
    split at h
    · cases h
    · cases h
      exact ⟨a.1, a.2, rfl, rfl, rfl, rfl, rfl, by show -1 < tvB t N (bls t N p) ∨ tvB t N (bls t N p) < -1; omega, by show tvB t N (bls t N p) ≤ 9999; omega⟩
  · cases h
theorem pzI_adv {t : Nat → Int} {N p c p1 c1 : Nat} {kk : Int} {L : List (Nat × Int)} {x : Cl} (hp : p ≤ N) (hc : c ≤ 60) (h : pzI t N kk p c L = .inr (p1, c1, x)) : p ≤ p1 ∧ p1 ≤ N ∧ c1 ≤ 60 ∧ x.1 = kk := by
  unfold pzI at h
  split at h
  · rename_i q
    have a := te_adv (t := t) hp (by omega)
    cases e : pzG t N (2 * N + 2) 1 0 false (te t N p) c [] [] with
    | inl f => rw [e] at h; cases h
    | inr r =>
      obtain ⟨p2, c2, L2, M2⟩ := r
      rw [e] at h
      have z := pzG_adv _ _ _ _ _ _ _ _ a.2 hc e
      cases h
      exact ⟨by omega, z.2.1, z.2.2.1, rfl⟩
  · cases h
    exact ⟨Nat.le_refl _, hp, hc, rfl⟩
theorem pzK_adv {t : Nat → Int} {N p c n p1 c1 : Nat} {b : Bool} {x : Cl} (hp : p ≤ N) (hc : c ≤ 60) (h : pzK t N p c n b = .inr (p1, c1, x)) : p < p1 ∧ p1 ≤ N ∧ c1 ≤ 60 ∧ n ≠ 12 ∧ 0 ≤ x.1 ∧ x.1 ≤ 3 ∧ (x.1 = 3 → b = false) := by
  unfold pzK at h
  split at h
  · rename_i q
    have a := te_adv (t := t) hp (by omega)
    split at h
    · cases h
    · rename_i q2
      split at h
      · rename_i q3
        have z := pzH_adv a.2 h
        refine ⟨by omega, z.2.1, by omega, fun w => q2 (Or.inl w), by omega, by omega, fun _ => ?_⟩
        cases b with
        | false => rfl
        | true => exact absurd (Or.inr ⟨q3, rfl⟩) q2
      · rename_i q3
        cases e : pzS t N (te t N p) c with
        | inl f => rw [e] at h; cases h
        | inr r =>
          obtain ⟨p2, c2, L2⟩ := r
          rw [e] at h
          have y := pzS_adv a.2 e
          have z := pzI_adv y.2.1 y.2.2 h
          exact ⟨by omega, z.2.1, z.2.2.1, fun w => q2 (Or.inl w), by omega, by omega, fun w => absurd w (by omega)⟩
  · cases h
/-- pieces a to b are the sum, b to e the test -/
def Seg (LL : List (Nat × Int)) (a b e : Nat) (s l : List (Nat × Int)) : Prop := ∃ pre post, LL = pre ++ s ++ l ++ post ∧ pre.length = a ∧ a + s.length = b ∧ b + l.length = e
theorem Seg.app {LL M : List (Nat × Int)} {a b e : Nat} {s l : List (Nat × Int)} (h : Seg LL a b e s l) : Seg (LL ++ M) a b e s l := by
  obtain ⟨pre, post, h1, h2, h3, h4⟩ := h
  exact ⟨pre, post ++ M, by rw [h1, List.append_assoc], h2, h3, h4⟩
theorem Seg.new {LL s l : List (Nat × Int)} : Seg (LL ++ s ++ l) LL.length (LL ++ s).length (LL ++ s ++ l).length s l :=
  ⟨LL, [], by rw [List.append_nil], rfl, List.length_append.symm, List.length_append.symm⟩
/-! the class's room: so many pieces as bytes; the check's -/
theorem pzK_len {t : Nat → Int} {N p c n p1 c1 : Nat} {b : Bool} {x : Cl} (ht : TR t) (hp : p ≤ N) (hc : c ≤ 60) (h : pzK t N p c n b = .inr (p1, c1, x)) : x.2.2.1.length + x.2.2.2.1.length + p ≤ p1 ∧ 3 * (x.2.2.1.length + x.2.2.2.2.length) + p + 4 * c ≤ p1 + 4 * c1 := by
  unfold pzK at h
  split at h
  · have a := te_adv (t := t) hp (by omega)
    split at h
    · cases h
    · split at h
      · have z := pzH_adv a.2 h
        rw [z.2.2.2.2.1, z.2.2.2.2.2.1, z.2.2.2.2.2.2.1]
        exact ⟨by show 0 + 0 + p ≤ p1; omega, by show 3 * (0 + 0) + p + 4 * c ≤ p1 + 4 * c1; omega⟩
      · cases e : pzS t N (te t N p) c with
        | inl f => rw [e] at h; cases h
        | inr r =>
          obtain ⟨p2, c2, L2⟩ := r
          rw [e] at h
          have y := pzS_adv a.2 e
          have l1 := pzS_len a.2 e
          have r1 := pzS_room a.2 e
          have h' : pzI t N (tk t N p - 15) p2 c2 L2 = .inr (p1, c1, x) := h
          unfold pzI at h'
          split at h'
          · have a2 := te_adv (t := t) y.2.1 (by omega)
            cases e2 : pzG t N (2 * N + 2) 1 0 false (te t N p2) c2 [] [] with
            | inl f => rw [e2] at h'; cases h'
            | inr r =>
              obtain ⟨p3, c3, L3, M3⟩ := r
              rw [e2] at h'
              have l2 := (pzG_len _ _ _ _ _ _ _ _ a2.2 y.2.2 e2).2.1 rfl
              have r2 := (pzG_room ht _ _ _ _ _ _ _ _ a2.2 y.2.2 e2).1 (by omega)
              cases h'
              exact ⟨by show L2.length + L3.length + p ≤ p1; omega, by show 3 * (L2.length + M3.length) + p + 4 * c ≤ p1 + 4 * c1; omega⟩
          · cases h'
            exact ⟨by show L2.length + 0 + p ≤ p1; omega, by show 3 * (L2.length + 0) + p + 4 * c ≤ p1 + 4 * c1; omega⟩
  · cases h

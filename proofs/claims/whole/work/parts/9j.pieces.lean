/-! 9j.pieces: every piece is a number, a word or a sign; what a rule's clauses are (pure) -/
def PcOK (x : Nat × Int) : Prop := (x.1 = 0 ∧ 0 ≤ x.2 ∧ x.2 ≤ 99999) ∨ (x.1 = 1 ∧ 0 ≤ x.2 ∧ x.2 < 15) ∨ (2 ≤ x.1 ∧ x.1 ≤ 14 ∧ x.1 ≠ 12 ∧ x.2 = 0)
def AOK (L : List (Nat × Int)) : Prop := ∀ x, x ∈ L → PcOK x
theorem AOK.app {L M : List (Nat × Int)} (h : AOK L) (g : AOK M) : AOK (L ++ M) := fun x hx => by
  rcases List.mem_append.mp hx with z | z
  · exact h x z
  · exact g x z
theorem AOK.one {a : Nat} (h1 : 2 ≤ a) (h2 : a ≤ 14) (h3 : a ≠ 12) : AOK [(a, 0)] := fun x hx => by
  rw [List.mem_singleton] at hx
  rw [hx]
  exact Or.inr (Or.inr ⟨h1, h2, h3, rfl⟩)
theorem AOK.nil : AOK [] := fun x hx => absurd hx (by simp)
section PCS
variable {t : Nat → Int} {N : Nat}
theorem pzV_ok {p c p1 c1 : Nat} {L1 : List (Nat × Int)} (ht : TR t) (h : pzV t N p c = .inr (p1, c1, L1)) : AOK L1 := by
  have tv := tvB_r (N := N) ht (b := bls t N p)
  have tk0 := tkB_r (N := N) ht (b := bls t N p)
  have ek : tk t N p = tkB t N (bls t N p) := rfl
  unfold pzV at h
  split at h
  · split at h
    · cases h
    · split at h
      · cases h
      · cases h
        intro x hx
        rw [List.mem_singleton] at hx
        rw [hx]
        exact Or.inl ⟨rfl, by show 0 ≤ tvB t N (bls t N p); omega, by show tvB t N (bls t N p) ≤ 99999; omega⟩
  · split at h
    · split at h
      · cases h
      · cases h
        intro x hx
        rw [List.mem_singleton] at hx
        rw [hx]
        exact Or.inr (Or.inl ⟨rfl, by show 0 ≤ tk t N p; omega, by show tk t N p < 15; assumption⟩)
    · cases h
theorem pzTl_ok (ht : TR t) : ∀ (m p c : Nat) (L : List (Nat × Int)) {p1 c1 : Nat} {L1 : List (Nat × Int)}, AOK L → pzTl t N m p c L = .inr (p1, c1, L1) → AOK L1
  | 0, p, c, L, p1, c1, L1, hv, h => by
    cases h
    exact hv
  | m + 1, p, c, L, p1, c1, L1, hv, h => by
    have h' : (if tk t N p = 142 ∨ tk t N p = 147 then bnd (pzV t N (te t N p) c) (fun p' c' L' => pzTl t N m p' c' (L ++ L' ++ [(if tk t N p = 142 then 13 else 14, 0)])) else .inr (p, c, L)) = .inr (p1, c1, L1) := h
    by_cases q : tk t N p = 142 ∨ tk t N p = 147
    · rw [if_pos q] at h'
      cases e : pzV t N (te t N p) c with
      | inl f => rw [e] at h'; cases h'
      | inr r =>
        obtain ⟨p2, c2, L2⟩ := r
        rw [e] at h'
        refine pzTl_ok ht m p2 c2 _ ((hv.app (pzV_ok ht e)).app (AOK.one ?_ ?_ ?_)) h'
        all_goals (split <;> decide)
    · rw [if_neg q] at h'
      cases h'
      exact hv
theorem pzT_ok {p c p1 c1 : Nat} {L1 : List (Nat × Int)} (ht : TR t) (h : pzT t N p c = .inr (p1, c1, L1)) : AOK L1 := by
  unfold pzT at h
  cases e : pzV t N p c with
  | inl f => rw [e] at h; cases h
  | inr r =>
    obtain ⟨p2, c2, L2⟩ := r
    rw [e] at h
    exact pzTl_ok ht _ p2 c2 _ (pzV_ok ht e) h
theorem pzSl_ok (ht : TR t) : ∀ (m p c : Nat) (L : List (Nat × Int)) {p1 c1 : Nat} {L1 : List (Nat × Int)}, AOK L → pzSl t N m p c L = .inr (p1, c1, L1) → AOK L1
  | 0, p, c, L, p1, c1, L1, hv, h => by
    cases h
    exact hv
  | m + 1, p, c, L, p1, c1, L1, hv, h => by
    have h' : (if tk t N p = 143 ∨ tk t N p = 145 then bnd (pzT t N (te t N p) c) (fun p' c' L' => pzSl t N m p' c' (L ++ L' ++ [(if tk t N p = 143 then 2 else 3, 0)])) else .inr (p, c, L)) = .inr (p1, c1, L1) := h
    by_cases q : tk t N p = 143 ∨ tk t N p = 145
    · rw [if_pos q] at h'
      cases e : pzT t N (te t N p) c with
      | inl f => rw [e] at h'; cases h'
      | inr r =>
        obtain ⟨p2, c2, L2⟩ := r
        rw [e] at h'
        refine pzSl_ok ht m p2 c2 _ ((hv.app (pzT_ok ht e)).app (AOK.one ?_ ?_ ?_)) h'
        all_goals (split <;> decide)
    · rw [if_neg q] at h'
      cases h'
      exact hv
theorem pzS_ok {p c p1 c1 : Nat} {L1 : List (Nat × Int)} (ht : TR t) (h : pzS t N p c = .inr (p1, c1, L1)) : AOK L1 := by
  unfold pzS at h
  cases e : pzT t N p c with
  | inl f => rw [e] at h; cases h
  | inr r =>
    obtain ⟨p2, c2, L2⟩ := r
    rw [e] at h
    exact pzSl_ok ht _ p2 c2 _ (pzT_ok ht e) h
theorem cmpN_r {k : Int} : 4 ≤ cmpN k ∧ cmpN k ≤ 8 := by
  unfold cmpN
  split
  · omega
  · split
    · omega
    · split
      · omega
      · split <;> omega
theorem pzC_ok {p c p1 c1 : Nat} {L1 : List (Nat × Int)} (ht : TR t) (h : pzC t N p c = .inr (p1, c1, L1)) : AOK L1 := by
  unfold pzC at h
  cases e : pzS t N p c with
  | inl f => rw [e] at h; cases h
  | inr r =>
    obtain ⟨p2, c2, L2⟩ := r
    rw [e] at h
    have h' : (if tk t N p2 = 160 ∨ tk t N p2 = 161 ∨ tk t N p2 = 162 ∨ tk t N p2 = 23 ∨ tk t N p2 = 24 then (if 60 ≤ c2 then .inl (1 + 8 * bls t N p2 + 3) else bnd (pzS t N (te t N p2) (c2 + 1)) (fun p3 c3 L3 => .inr (p3, c3, L2 ++ L3 ++ [(cmpN (tk t N p2), 0)]))) else .inl (1 + 8 * bls t N p2) : PR) = .inr (p1, c1, L1) := h
    split at h'
    · split at h'
      · cases h'
      · cases e3 : pzS t N (te t N p2) (c2 + 1) with
        | inl f => rw [e3] at h'; cases h'
        | inr r =>
          obtain ⟨p3, c3, L3⟩ := r
          rw [e3] at h'
          have r := cmpN_r (k := tk t N p2)
          cases h'
          exact ((pzS_ok ht e).app (pzS_ok ht e3)).app (AOK.one (by omega) (by omega) (by omega))
    · cases h'
theorem notL_ok {b : Bool} : AOK (notL b) := by
  cases b with
  | false => exact AOK.nil
  | true => exact AOK.one (by decide) (by decide) (by decide)
theorem orL_ok {b : Bool} : AOK (orL b) := by
  cases b with
  | false => exact AOK.nil
  | true => exact AOK.one (by decide) (by decide) (by decide)
theorem pzG_ok (ht : TR t) : ∀ (m md d : Nat) (b : Bool) (p c : Nat) (L M : List (Nat × Int)) {p1 c1 : Nat} {L1 M1 : List (Nat × Int)}, AOK L → AOK M → pzG t N m md d b p c L M = .inr (p1, c1, L1, M1) → AOK L1 ∧ AOK M1
  | 0, md, d, b, p, c, L, M, p1, c1, L1, M1, hL, hM, h => by
    unfold pzG at h
    cases h
  | m + 1, 0, d, b, p, c, L, M, p1, c1, L1, M1, hL, hM, h => by
    rw [pzG_0] at h
    split at h
    · split at h
      · cases h
      · cases e : pzG t N m 0 (d + 1) (!b) (te t N p) c [] [] with
        | inl f => rw [e] at h; cases h
        | inr r =>
          obtain ⟨p2, c2, L2, M2⟩ := r
          rw [e] at h
          have z := pzG_ok ht m 0 (d + 1) (!b) (te t N p) c [] [] AOK.nil AOK.nil e
          cases h
          exact ⟨z.1, z.2.app (AOK.one (by decide) (by decide) (by decide))⟩
    · split at h
      · split at h
        · cases h
        · cases e : pzG t N m 1 (d + 1) false (te t N p) c [] [] with
          | inl f => rw [e] at h; cases h
          | inr r =>
            obtain ⟨p2, c2, L2, M2⟩ := r
            rw [e] at h
            have z := pzG_ok ht m 1 (d + 1) false (te t N p) c [] [] AOK.nil AOK.nil e
            have h' : (if tk t N p2 = 193 then .inr (te t N p2, c2, L2 ++ notL b, M2) else .inl (1 + 8 * bls t N p2) : PT) = .inr (p1, c1, L1, M1) := h
            split at h'
            · cases h'
              exact ⟨z.1.app notL_ok, z.2⟩
            · cases h'
      · cases e : pzC t N p c with
        | inl f => rw [e] at h; cases h
        | inr r =>
          obtain ⟨p2, c2, L2⟩ := r
          rw [e] at h
          have z := pzC_ok ht e
          cases h
          exact ⟨z.app notL_ok, z⟩
  | m + 1, 1, d, b, p, c, L, M, p1, c1, L1, M1, hL, hM, h => by
    rw [pzG_1] at h
    cases e : pzG t N m 0 d false p c [] [] with
    | inl f => rw [e] at h; cases h
    | inr r =>
      obtain ⟨p2, c2, L2, M2⟩ := r
      rw [e] at h
      have z := pzG_ok ht m 0 d false p c [] [] AOK.nil AOK.nil e
      exact pzG_ok ht m 2 d false p2 c2 L2 M2 z.1 z.2 h
  | m + 1, x + 2, d, b, p, c, L, M, p1, c1, L1, M1, hL, hM, h => by
    rw [pzG_2] at h
    have a10 : AOK [(10, 0)] := AOK.one (by decide) (by decide) (by decide)
    split at h
    · cases e : pzG t N m 0 d false (te t N p) c [] [] with
      | inl f => rw [e] at h; cases h
      | inr r =>
        obtain ⟨p2, c2, L2, M2⟩ := r
        rw [e] at h
        have z := pzG_ok ht m 0 d false (te t N p) c [] [] AOK.nil AOK.nil e
        exact pzG_ok ht m 2 d b p2 c2 _ _ ((hL.app z.1).app a10) ((hM.app z.2).app a10) h
    · split at h
      · cases e : pzG t N m 0 d false (te t N p) c [] [] with
        | inl f => rw [e] at h; cases h
        | inr r =>
          obtain ⟨p2, c2, L2, M2⟩ := r
          rw [e] at h
          have z := pzG_ok ht m 0 d false (te t N p) c [] [] AOK.nil AOK.nil e
          exact pzG_ok ht m 2 d true p2 c2 _ _ ((hL.app orL_ok).app z.1) ((hM.app orL_ok).app z.2) h
      · cases h
        exact ⟨hL.app orL_ok, hM.app orL_ok⟩
/-- a clause as it can be told -/
def ClOK (x : Cl) : Prop := (x.1 = 3 ∧ 0 ≤ x.2.1 ∧ x.2.1 ≤ 9999) ∨ (0 ≤ x.1 ∧ x.1 ≤ 2 ∧ AOK x.2.2.1 ∧ AOK x.2.2.2.1 ∧ AOK x.2.2.2.2 ∧ (∀ wf, ∃ v, VS wf 3 x.2.2.1 [v]) ∧ ((x.2.2.2.1 = [] ∧ x.2.2.2.2 = []) ∨ (x.2.2.2.1 ≠ [] ∧ x.2.2.2.2 ≠ [] ∧ ∀ wf, ∃ v, (v = 0 ∨ v = 1) ∧ VS wf 26 x.2.2.2.1 [v] ∧ VS wf 26 x.2.2.2.2 [v])))
theorem VS.ne {wf : Nat → Int} {n : Nat} {L : List (Nat × Int)} {v : Int} (h : VS wf n L [v]) (hn : n ≤ 32) : L ≠ [] := fun e => by
  have z := h [] (by show 0 + n ≤ 32; omega)
  rw [e] at z
  cases z
theorem pzK_ok {p c n p1 c1 : Nat} {b : Bool} {x : Cl} (ht : TR t) (hp : p ≤ N) (hc : c ≤ 60) (h : pzK t N p c n b = .inr (p1, c1, x)) : ClOK x := by
  have tkn : ∀ q, tk t N q = tkB t N (bls t N q) := fun q => rfl
  unfold pzK at h
  split at h
  · rename_i kin
    have a := te_adv (t := t) hp (by omega)
    split at h
    · cases h
    · split at h
      · left
        have tv := tvB_r (N := N) ht (b := bls t N (te t N p))
        unfold pzH at h
        split at h
        · split at h
          · cases h
          · cases h
            exact ⟨rfl, by show 0 ≤ tvB t N (bls t N (te t N p)); omega, by show tvB t N (bls t N (te t N p)) ≤ 9999; omega⟩
        · cases h
      · rename_i n18
        right
        cases e : pzS t N (te t N p) c with
        | inl f => rw [e] at h; cases h
        | inr r =>
          obtain ⟨p2, c2, L2⟩ := r
          rw [e] at h
          have y := pzS_adv a.2 e
          have h' : pzI t N (tk t N p - 15) p2 c2 L2 = .inr (p1, c1, x) := h
          unfold pzI at h'
          split at h'
          · have a2 := te_adv (t := t) y.2.1 (by omega)
            cases e2 : pzG t N (2 * N + 2) 1 0 false (te t N p2) c2 [] [] with
            | inl f => rw [e2] at h'; cases h'
            | inr r =>
              obtain ⟨p3, c3, L3, M3⟩ := r
              rw [e2] at h'
              have z := pzG_ok ht _ _ _ _ _ _ _ _ AOK.nil AOK.nil e2
              have vs : ∀ wf, ∃ v, (v = 0 ∨ v = 1) ∧ VS wf 26 L3 [v] ∧ VS wf 26 M3 [v] := fun wf => (pzG_vs (wf := wf) _ _ _ _ _ _ _ _ (by omega) e2).2.1 rfl
              cases h'
              obtain ⟨v, _, v1, v2⟩ := vs (fun _ => 0)
              exact ⟨by show 0 ≤ tk t N p - 15; omega, by show tk t N p - 15 ≤ 2; omega, pzS_ok ht e, z.1, z.2, fun wf => pzS_vs e, Or.inr ⟨v1.ne (by omega), v2.ne (by omega), vs⟩⟩
          · cases h'
            exact ⟨by show 0 ≤ tk t N p - 15; omega, by show tk t N p - 15 ≤ 2; omega, pzS_ok ht e, AOK.nil, AOK.nil, fun wf => pzS_vs e, Or.inl ⟨rfl, rfl⟩⟩
  · cases h
theorem pzR_ok (ht : TR t) : ∀ (m p c : Nat) (Cs : List Cl) {Ds : List Cl}, p ≤ N → c ≤ 60 → (∀ x, x ∈ Cs → ClOK x) → Cs.length ≤ 12 → pzR t N m p c Cs = .inr Ds → (∀ x, x ∈ Ds → ClOK x) ∧ Ds.length ≤ 12
  | 0, p, c, Cs, Ds, hp, hc, hC, hl, h => by cases h
  | m + 1, p, c, Cs, Ds, hp, hc, hC, hl, h => by
    rw [pzR_eq2] at h
    cases e : pzK t N p c Cs.length (hdB Cs) with
    | inl g => rw [e] at h; cases h
    | inr r =>
      obtain ⟨p1, c1, x⟩ := r
      rw [e] at h
      have ad := pzK_adv hp hc e
      have ok := pzK_ok ht hp hc e
      have la : (Cs ++ [x]).length = Cs.length + 1 := by rw [List.length_append]; rfl
      have hC' : ∀ y, y ∈ Cs ++ [x] → ClOK y := fun y hy => by
        rcases List.mem_append.mp hy with z | z
        · exact hC y z
        · rw [List.mem_singleton] at z; rw [z]; exact ok
      have h' : (if tk t N p1 = 159 then pzR t N m (te t N p1) c1 (Cs ++ [x]) else if tk t N p1 = 32 then .inr (Cs ++ [x]) else .inl (1 + 8 * bls t N p1) : Int ⊕ List Cl) = .inr Ds := h
      split at h'
      · have ta := te_adv (t := t) ad.2.1 (by omega)
        exact pzR_ok ht m _ _ _ ta.2 ad.2.2.1 hC' (by omega) h'
      · split at h'
        · cases h'
          exact ⟨hC', by omega⟩
        · cases h'
end PCS

/-! 80.sumd: a sum (class) -/
def pTe (t : Nat → Int) (N p c : Nat) (L : List (Nat × Int)) : PR := pzTl t N (N + 1 - p) p c L
def pSe (t : Nat → Int) (N p c : Nat) (L : List (Nat × Int)) : PR := pzSl t N (N + 1 - p) p c L
theorem pzV_adv {t : Nat → Int} {N p c p1 c1 : Nat} {L1 : List (Nat × Int)} (hp : p ≤ N) (h : pzV t N p c = .inr (p1, c1, L1)) : p < p1 ∧ p1 ≤ N ∧ c1 = c + 1 ∧ c1 ≤ 60 ∧ L1.length = 1 := by
  have bb := bls_r (t := t) (N := N) (p := p)
  have ter := te_r (t := t) (bb.2 hp)
  have b1 := bb.1
  unfold pzV at h
  by_cases c1' : tk t N p = 31
  · rw [if_pos c1'] at h
    have z := ter.2.2.2 (by show ¬ tk t N p = 32; omega)
    have y := ter.2.2.1 z
    split at h
    · cases h
    · split at h
      · cases h
      · cases h
        exact ⟨by show p < teB t N (bls t N p); omega, ter.2.1, rfl, by omega, rfl⟩
  · rw [if_neg c1'] at h
    split at h
    · rename_i c2
      have z := ter.2.2.2 (by show ¬ tk t N p = 32; omega)
      have y := ter.2.2.1 z
      split at h
      · cases h
      · cases h
        exact ⟨by show p < teB t N (bls t N p); omega, ter.2.1, rfl, by omega, rfl⟩
    · cases h
theorem te_adv {t : Nat → Int} {N p : Nat} (hp : p ≤ N) (h : tk t N p ≠ 32) : p < te t N p ∧ te t N p ≤ N := by
  have bb := bls_r (t := t) (N := N) (p := p)
  have ter := te_r (t := t) (bb.2 hp)
  have b1 := bb.1
  have z := ter.2.2.2 h
  have y := ter.2.2.1 z
  exact ⟨by show p < teB t N (bls t N p); omega, ter.2.1⟩
theorem pzTl_fuel {t : Nat → Int} {N : Nat} : ∀ (m m' p c : Nat) (L : List (Nat × Int)), p ≤ N → N < p + m → N < p + m' → pzTl t N m p c L = pzTl t N m' p c L
  | 0, m', p, c, L, hp, h1, h2 => by omega
  | m + 1, 0, p, c, L, hp, h1, h2 => by omega
  | m + 1, m' + 1, p, c, L, hp, h1, h2 => by
    show (if _ then _ else _) = (if _ then _ else _)
    by_cases q : tk t N p = 142 ∨ tk t N p = 147
    · rw [if_pos q, if_pos q]
      have a := te_adv (t := t) hp (by omega)
      cases e : pzV t N (te t N p) c with
      | inl f => rfl
      | inr r =>
        obtain ⟨p1, c1, L1⟩ := r
        have b := pzV_adv a.2 e
        exact pzTl_fuel m m' p1 c1 _ b.2.1 (by omega) (by omega)
    · rw [if_neg q, if_neg q]
theorem pTe_eq {t : Nat → Int} {N p c : Nat} {L : List (Nat × Int)} (hp : p ≤ N) : pTe t N p c L = if tk t N p = 142 ∨ tk t N p = 147 then bnd (pzV t N (te t N p) c) (fun p' c' L' => pTe t N p' c' (L ++ L' ++ [(if tk t N p = 142 then 13 else 14, 0)])) else .inr (p, c, L) := by
  unfold pTe
  rw [show N + 1 - p = (N - p) + 1 by omega]
  show (if _ then _ else _) = _
  by_cases q : tk t N p = 142 ∨ tk t N p = 147
  · rw [if_pos q, if_pos q]
    have a := te_adv (t := t) hp (by omega)
    cases e : pzV t N (te t N p) c with
    | inl f => rfl
    | inr r =>
      obtain ⟨p1, c1, L1⟩ := r
      have b := pzV_adv a.2 e
      exact pzTl_fuel (N - p) (N + 1 - p1) p1 c1 _ b.2.1 (by omega) (by omega)
  · rw [if_neg q, if_neg q]
theorem pzTl_adv {t : Nat → Int} {N : Nat} : ∀ (m p c : Nat) (L : List (Nat × Int)) {p1 c1 : Nat} {L1 : List (Nat × Int)}, p ≤ N → c ≤ 60 → pzTl t N m p c L = .inr (p1, c1, L1) → p ≤ p1 ∧ p1 ≤ N ∧ c1 ≤ 60
  | 0, p, c, L, p1, c1, L1, hp, hc, h => by
    cases h
    exact ⟨Nat.le_refl _, hp, hc⟩
  | m + 1, p, c, L, p1, c1, L1, hp, hc, h => by
    have h' : (if tk t N p = 142 ∨ tk t N p = 147 then bnd (pzV t N (te t N p) c) (fun p' c' L' => pzTl t N m p' c' (L ++ L' ++ [(if tk t N p = 142 then 13 else 14, 0)])) else .inr (p, c, L)) = .inr (p1, c1, L1) := h
    by_cases q : tk t N p = 142 ∨ tk t N p = 147
    · rw [if_pos q] at h'
      have a := te_adv (t := t) hp (by omega)
      cases e : pzV t N (te t N p) c with
      | inl f => rw [e] at h'; cases h'
      | inr r =>
        obtain ⟨p2, c2, L2⟩ := r
        rw [e] at h'
        have b := pzV_adv a.2 e
        have d := pzTl_adv m p2 c2 _ b.2.1 b.2.2.2.1 h'
        omega
    · rw [if_neg q] at h'
      cases h'
      exact ⟨Nat.le_refl _, hp, hc⟩
theorem pzT_adv {t : Nat → Int} {N p c p1 c1 : Nat} {L1 : List (Nat × Int)} (hp : p ≤ N) (h : pzT t N p c = .inr (p1, c1, L1)) : p < p1 ∧ p1 ≤ N ∧ c1 ≤ 60 := by
  unfold pzT at h
  cases e : pzV t N p c with
  | inl f => rw [e] at h; cases h
  | inr r =>
    obtain ⟨p2, c2, L2⟩ := r
    rw [e] at h
    have b := pzV_adv hp e
    have d := pzTl_adv _ p2 c2 _ b.2.1 b.2.2.2.1 h
    omega
theorem pzSl_fuel {t : Nat → Int} {N : Nat} : ∀ (m m' p c : Nat) (L : List (Nat × Int)), p ≤ N → N < p + m → N < p + m' → pzSl t N m p c L = pzSl t N m' p c L
  | 0, m', p, c, L, hp, h1, h2 => by omega
  | m + 1, 0, p, c, L, hp, h1, h2 => by omega
  | m + 1, m' + 1, p, c, L, hp, h1, h2 => by
    show (if _ then _ else _) = (if _ then _ else _)
    by_cases q : tk t N p = 143 ∨ tk t N p = 145
    · rw [if_pos q, if_pos q]
      have a := te_adv (t := t) hp (by omega)
      cases e : pzT t N (te t N p) c with
      | inl f => rfl
      | inr r =>
        obtain ⟨p1, c1, L1⟩ := r
        have b := pzT_adv a.2 e
        exact pzSl_fuel m m' p1 c1 _ b.2.1 (by omega) (by omega)
    · rw [if_neg q, if_neg q]
theorem pSe_eq {t : Nat → Int} {N p c : Nat} {L : List (Nat × Int)} (hp : p ≤ N) : pSe t N p c L = if tk t N p = 143 ∨ tk t N p = 145 then bnd (pzT t N (te t N p) c) (fun p' c' L' => pSe t N p' c' (L ++ L' ++ [(if tk t N p = 143 then 2 else 3, 0)])) else .inr (p, c, L) := by
  unfold pSe
  rw [show N + 1 - p = (N - p) + 1 by omega]
  show (if _ then _ else _) = _
  by_cases q : tk t N p = 143 ∨ tk t N p = 145
  · rw [if_pos q, if_pos q]
    have a := te_adv (t := t) hp (by omega)
    cases e : pzT t N (te t N p) c with
    | inl f => rfl
    | inr r =>
      obtain ⟨p1, c1, L1⟩ := r
      have b := pzT_adv a.2 e
      exact pzSl_fuel (N - p) (N + 1 - p1) p1 c1 _ b.2.1 (by omega) (by omega)
  · rw [if_neg q, if_neg q]
def opM (s : Int) : List (Nat × Int) := if s = 142 then [(13, 0)] else if s = 147 then [(14, 0)] else []
def opA (s : Int) : List (Nat × Int) := if s = 143 then [(2, 0)] else if s = 145 then [(3, 0)] else []
/-- what is still to come, from the head of the reader's loop -/
def hdR (t : Nat → Int) (N : Nat) (sg wt : Int) (p c : Nat) (LS LT : List (Nat × Int)) : PR :=
  bnd (bnd (pzV t N p c) (fun p1 c1 L1 => pTe t N p1 c1 (LT ++ L1 ++ opM sg))) (fun p2 c2 L2 => pSe t N p2 c2 (LS ++ L2 ++ opA wt))
theorem hdR_0 {t : Nat → Int} {N p c : Nat} : hdR t N 0 0 p c [] [] = pzS t N p c := by
  unfold hdR pzS pzT
  cases e : pzV t N p c with
  | inl f => rfl
  | inr r =>
    obtain ⟨p1, c1, L1⟩ := r
    show bnd (pTe t N p1 c1 ([] ++ L1 ++ opM 0)) _ = bnd (pzTl t N (N + 1 - p1) p1 c1 L1) _
    have e1 : opM 0 = [] := rfl
    have e2 : opA 0 = [] := rfl
    rw [e1, e2, List.nil_append, List.append_nil]
    show bnd (pzTl t N (N + 1 - p1) p1 c1 L1) _ = _
    congr 1
    funext p2 c2 L2
    rw [List.nil_append, List.append_nil]
    rfl
/-- one turn of the loop: a sign of a term, a sign of a sum, or the end -/
theorem hdR_eq {t : Nat → Int} {N p c p1 c1 : Nat} {LS LT L1 : List (Nat × Int)} {sg wt : Int} (hp : p ≤ N) (e : pzV t N p c = .inr (p1, c1, L1)) :
    hdR t N sg wt p c LS LT = if tk t N p1 = 142 ∨ tk t N p1 = 147 then hdR t N (tk t N p1) wt (te t N p1) c1 LS (LT ++ L1 ++ opM sg)
      else if tk t N p1 = 143 ∨ tk t N p1 = 145 then hdR t N (tk t N p1) (tk t N p1) (te t N p1) c1 (LS ++ (LT ++ L1 ++ opM sg) ++ opA wt) []
      else .inr (p1, c1, LS ++ (LT ++ L1 ++ opM sg) ++ opA wt) := by
  have b := pzV_adv hp e
  have e0 : hdR t N sg wt p c LS LT = bnd (pTe t N p1 c1 (LT ++ L1 ++ opM sg)) (fun p2 c2 L2 => pSe t N p2 c2 (LS ++ L2 ++ opA wt)) := by
    unfold hdR
    rw [e]
    rfl
  rw [e0, pTe_eq b.2.1]
  by_cases q : tk t N p1 = 142 ∨ tk t N p1 = 147
  · rw [if_pos q, if_pos q]
    unfold hdR
    have eo : opM (tk t N p1) = [(if tk t N p1 = 142 then 13 else 14, 0)] := by
      unfold opM
      rcases q with q | q <;> rw [q] <;> rfl
    rw [eo]
  · rw [if_neg q, if_neg q]
    show pSe t N p1 c1 (LS ++ (LT ++ L1 ++ opM sg) ++ opA wt) = _
    rw [pSe_eq b.2.1]
    by_cases q2 : tk t N p1 = 143 ∨ tk t N p1 = 145
    · rw [if_pos q2, if_pos q2]
      have eo : opA (tk t N p1) = [(if tk t N p1 = 143 then 2 else 3, 0)] := by
        unfold opA
        rcases q2 with q2 | q2 <;> rw [q2] <;> rfl
      have em : opM (tk t N p1) = [] := by
        unfold opM
        rcases q2 with q2 | q2 <;> rw [q2] <;> rfl
      unfold hdR pzT
      rw [eo, em]
      cases e2 : pzV t N (te t N p1) c1 with
      | inl f => rfl
      | inr r =>
        obtain ⟨p3, c3, L3⟩ := r
        show bnd (pzTl t N (N + 1 - p3) p3 c3 L3) _ = bnd (pTe t N p3 c3 ([] ++ L3 ++ [])) _
        rw [List.nil_append, List.append_nil]
        rfl
    · rw [if_neg q2, if_neg q2]

/-! 9f.sem: what a list of pieces comes to (pure) -/
def bo (k : Nat) (a b : Int) : Int := if k = 2 then w64 (a + b) else if k = 3 then w64 (a - b) else if k = 13 then w64 (a * b) else if k = 14 then (if b = 0 then 0 else w64 (Int.tdiv a b)) else if k = 4 then (if a < b then 1 else 0) else if k = 5 then (if a ≤ b then 1 else 0) else if k = 6 then (if a = b then 1 else 0) else if k = 7 then (if b ≤ a then 1 else 0) else if k = 8 then (if b < a then 1 else 0) else if k = 10 then land64 a b else lor64 a b
def evN (S : List Int) : Option (List Int) := match S with
  | a :: S' => some (w64 (1 - a) :: S')
  | [] => none
def evB (k : Nat) (S : List Int) : Option (List Int) := match S with
  | b :: a :: S' => some (bo k a b :: S')
  | _ => none
def ev1 (wf : Nat → Int) (x : Nat × Int) (S : List Int) : Option (List Int) :=
  if x.1 = 0 then (if S.length < 32 then some (x.2 :: S) else none)
  else if x.1 = 1 then (if S.length < 32 then some (wf x.2.toNat :: S) else none)
  else if x.1 = 9 then evN S else evB x.1 S
def evL (wf : Nat → Int) : List (Nat × Int) → List Int → Option (List Int)
  | [], S => some S
  | x :: L, S => (ev1 wf x S).bind (evL wf L)
section SEM
variable {wf : Nat → Int} {t : Nat → Int} {N : Nat}
theorem ev_app : ∀ (L M : List (Nat × Int)) (S : List Int), evL wf (L ++ M) S = (evL wf L S).bind (evL wf M)
  | [], M, S => rfl
  | x :: L, M, S => by
    show (ev1 wf x S).bind (evL wf (L ++ M)) = ((ev1 wf x S).bind (evL wf L)).bind (evL wf M)
    cases ev1 wf x S with
    | none => rfl
    | some S' => exact ev_app L M S'
/-- on any stack with n places left the list puts T -/
def VS (wf : Nat → Int) (n : Nat) (L : List (Nat × Int)) (T : List Int) : Prop := ∀ S : List Int, S.length + n ≤ 32 → evL wf L S = some (T ++ S)
theorem VS.mono {n n' : Nat} {L : List (Nat × Int)} {T : List Int} (h : VS wf n L T) (hn : n ≤ n') : VS wf n' L T := fun S hS => h S (by omega)
theorem VS.app {n n1 n2 : Nat} {L M : List (Nat × Int)} {T T' : List Int} (h1 : VS wf n1 L T) (h2 : VS wf n2 M T') (g1 : n1 ≤ n) (g2 : n2 + T.length ≤ n) : VS wf n (L ++ M) (T' ++ T) := fun S hS => by
  rw [ev_app, h1 S (by omega)]
  show evL wf M (T ++ S) = _
  rw [h2 (T ++ S) (by rw [List.length_append]; omega), List.append_assoc]
theorem VS.one {n : Nat} {L : List (Nat × Int)} {T T' : List Int} {x : Nat × Int} (h : VS wf n L T) (hx : ∀ S, ev1 wf x (T ++ S) = some (T' ++ S)) : VS wf n (L ++ [x]) T' := fun S hS => by
  rw [ev_app, h S hS]
  show (ev1 wf x (T ++ S)).bind (evL wf []) = _
  rw [hx S]
  rfl
theorem VS.bin {n : Nat} {L : List (Nat × Int)} {a b : Int} {T : List Int} {k : Nat} (h : VS wf n L (b :: a :: T)) (h0 : k ≠ 0) (h1 : k ≠ 1) (h9 : k ≠ 9) : VS wf n (L ++ [(k, 0)]) (bo k a b :: T) := h.one (fun S => by
  unfold ev1
  rw [if_neg h0, if_neg h1, if_neg h9]
  rfl)
theorem VS.nt {n : Nat} {L : List (Nat × Int)} {a : Int} (h : VS wf n L [a]) : VS wf n (L ++ [(9, 0)]) [w64 (1 - a)] := h.one (fun S => rfl)
theorem pzV_vs {p c p1 c1 : Nat} {L1 : List (Nat × Int)} (h : pzV t N p c = .inr (p1, c1, L1)) : ∃ v, VS wf 1 L1 [v] := by
  unfold pzV at h
  split at h
  · split at h
    · cases h
    · split at h
      · cases h
      · cases h
        exact ⟨_, fun S hS => by
          show (ev1 wf (0, _) S).bind (evL wf []) = _
          unfold ev1
          rw [if_pos rfl, if_pos (by omega)]
          rfl⟩
  · split at h
    · split at h
      · cases h
      · cases h
        exact ⟨_, fun S hS => by
          show (ev1 wf (1, _) S).bind (evL wf []) = _
          unfold ev1
          rw [if_neg (show ¬ (1 : Nat) = 0 by decide), if_pos rfl, if_pos (by omega)]
          rfl⟩
    · cases h
theorem pzTl_vs : ∀ (m p c : Nat) (L : List (Nat × Int)) {p1 c1 : Nat} {L1 : List (Nat × Int)}, (∃ v, VS wf 2 L [v]) → pzTl t N m p c L = .inr (p1, c1, L1) → ∃ v, VS wf 2 L1 [v]
  | 0, p, c, L, p1, c1, L1, hv, h => by
    cases h
    exact hv
  | m + 1, p, c, L, p1, c1, L1, hv, h => by
    have h' : (if tk t N p = 142 ∨ tk t N p = 147 then bnd (pzV t N (te t N p) c) (fun p' c' L' => pzTl t N m p' c' (L ++ L' ++ [(if tk t N p = 142 then 13 else 14, 0)])) else .inr (p, c, L)) = .inr (p1, c1, L1) := h
    by_cases q : tk t N p = 142 ∨ tk t N p = 147
    · rw [if_pos q] at h'
      cases e : pzV t N (te t N p) c with
      | inl f => rw [e] at h'; cases h'
      | inr r =>
        obtain ⟨p2, c2, L2⟩ := r
        rw [e] at h'
        obtain ⟨v, hv⟩ := hv
        obtain ⟨x, hx⟩ := pzV_vs (wf := wf) e
        refine pzTl_vs m p2 c2 _ ⟨_, ((hv.app hx (n := 2) (Nat.le_refl 2) (Nat.le_refl 2)).bin ?_ ?_ ?_)⟩ h'
        all_goals (split <;> decide)
    · rw [if_neg q] at h'
      cases h'
      exact hv
theorem pzT_vs {p c p1 c1 : Nat} {L1 : List (Nat × Int)} (h : pzT t N p c = .inr (p1, c1, L1)) : ∃ v, VS wf 2 L1 [v] := by
  unfold pzT at h
  cases e : pzV t N p c with
  | inl f => rw [e] at h; cases h
  | inr r =>
    obtain ⟨p2, c2, L2⟩ := r
    rw [e] at h
    obtain ⟨x, hx⟩ := pzV_vs (wf := wf) e
    exact pzTl_vs _ p2 c2 _ ⟨x, hx.mono (by omega)⟩ h
theorem pzSl_vs : ∀ (m p c : Nat) (L : List (Nat × Int)) {p1 c1 : Nat} {L1 : List (Nat × Int)}, (∃ v, VS wf 3 L [v]) → pzSl t N m p c L = .inr (p1, c1, L1) → ∃ v, VS wf 3 L1 [v]
  | 0, p, c, L, p1, c1, L1, hv, h => by
    cases h
    exact hv
  | m + 1, p, c, L, p1, c1, L1, hv, h => by
    have h' : (if tk t N p = 143 ∨ tk t N p = 145 then bnd (pzT t N (te t N p) c) (fun p' c' L' => pzSl t N m p' c' (L ++ L' ++ [(if tk t N p = 143 then 2 else 3, 0)])) else .inr (p, c, L)) = .inr (p1, c1, L1) := h
    by_cases q : tk t N p = 143 ∨ tk t N p = 145
    · rw [if_pos q] at h'
      cases e : pzT t N (te t N p) c with
      | inl f => rw [e] at h'; cases h'
      | inr r =>
        obtain ⟨p2, c2, L2⟩ := r
        rw [e] at h'
        obtain ⟨v, hv⟩ := hv
        obtain ⟨x, hx⟩ := pzT_vs (wf := wf) e
        refine pzSl_vs m p2 c2 _ ⟨_, ((hv.app hx (n := 3) (Nat.le_refl 3) (Nat.le_refl 3)).bin ?_ ?_ ?_)⟩ h'
        all_goals (split <;> decide)
    · rw [if_neg q] at h'
      cases h'
      exact hv
theorem pzS_vs {p c p1 c1 : Nat} {L1 : List (Nat × Int)} (h : pzS t N p c = .inr (p1, c1, L1)) : ∃ v, VS wf 3 L1 [v] := by
  unfold pzS at h
  cases e : pzT t N p c with
  | inl f => rw [e] at h; cases h
  | inr r =>
    obtain ⟨p2, c2, L2⟩ := r
    rw [e] at h
    obtain ⟨x, hx⟩ := pzT_vs (wf := wf) e
    exact pzSl_vs _ p2 c2 _ ⟨x, hx.mono (by omega)⟩ h
theorem bo_cmp {k : Int} {a b : Int} : (bo (cmpN k) a b = 0 ∨ bo (cmpN k) a b = 1) ∧ cmpN k ≠ 0 ∧ cmpN k ≠ 1 ∧ cmpN k ≠ 9 := by
  have h : cmpN k = 4 ∨ cmpN k = 5 ∨ cmpN k = 6 ∨ cmpN k = 7 ∨ cmpN k = 8 := by
    unfold cmpN
    split
    · omega
    · split
      · omega
      · split
        · omega
        · split <;> omega
  refine ⟨?_, by omega, by omega, by omega⟩
  rcases h with h | h | h | h | h <;> rw [h]
  · show (if a < b then (1 : Int) else 0) = 0 ∨ (if a < b then (1 : Int) else 0) = 1
    split <;> simp
  · show (if a ≤ b then (1 : Int) else 0) = 0 ∨ (if a ≤ b then (1 : Int) else 0) = 1
    split <;> simp
  · show (if a = b then (1 : Int) else 0) = 0 ∨ (if a = b then (1 : Int) else 0) = 1
    split <;> simp
  · show (if b ≤ a then (1 : Int) else 0) = 0 ∨ (if b ≤ a then (1 : Int) else 0) = 1
    split <;> simp
  · show (if b < a then (1 : Int) else 0) = 0 ∨ (if b < a then (1 : Int) else 0) = 1
    split <;> simp
theorem pzC_vs {p c p1 c1 : Nat} {L1 : List (Nat × Int)} (h : pzC t N p c = .inr (p1, c1, L1)) : ∃ v, (v = 0 ∨ v = 1) ∧ VS wf 4 L1 [v] := by
  unfold pzC at h
  cases e : pzS t N p c with
  | inl f => rw [e] at h; cases h
  | inr r =>
    obtain ⟨p2, c2, L2⟩ := r
    rw [e] at h
    have h' : (if tk t N p2 = 160 ∨ tk t N p2 = 161 ∨ tk t N p2 = 162 ∨ tk t N p2 = 23 ∨ tk t N p2 = 24 then (if 60 ≤ c2 then .inl (1 + 8 * bls t N p2 + 3) else bnd (pzS t N (te t N p2) (c2 + 1)) (fun p3 c3 L3 => .inr (p3, c3, L2 ++ L3 ++ [(cmpN (tk t N p2), 0)]))) else .inl (1 + 8 * bls t N p2) : PR) = .inr (p1, c1, L1) := h
    by_cases q : tk t N p2 = 160 ∨ tk t N p2 = 161 ∨ tk t N p2 = 162 ∨ tk t N p2 = 23 ∨ tk t N p2 = 24
    · rw [if_pos q] at h'
      by_cases q2 : 60 ≤ c2
      · rw [if_pos q2] at h'; cases h'
      · rw [if_neg q2] at h'
        cases e3 : pzS t N (te t N p2) (c2 + 1) with
        | inl f => rw [e3] at h'; cases h'
        | inr r =>
          obtain ⟨p3, c3, L3⟩ := r
          rw [e3] at h'
          cases h'
          obtain ⟨a, ha⟩ := pzS_vs (wf := wf) e
          obtain ⟨b, hb⟩ := pzS_vs (wf := wf) e3
          have bc := bo_cmp (k := tk t N p2) (a := a) (b := b)
          exact ⟨_, bc.1, (ha.app hb (n := 4) (by omega) (Nat.le_refl 4)).bin bc.2.1 bc.2.2.1 bc.2.2.2⟩
    · rw [if_neg q] at h'
      cases h'
def n01 (b : Bool) (v : Int) : Int := if b = true then 1 - v else v
theorem notL_vs {b : Bool} {n : Nat} {L : List (Nat × Int)} {v : Int} (hv : v = 0 ∨ v = 1) (h : VS wf n L [v]) : VS wf n (L ++ notL b) [n01 b v] := by
  cases b with
  | false => rw [show L ++ notL false = L from List.append_nil L]; exact h
  | true =>
    have z := h.nt
    rcases hv with rfl | rfl <;> exact z
theorem and01 {a b : Int} (ha : a = 0 ∨ a = 1) (hb : b = 0 ∨ b = 1) : bo 10 a b = 0 ∨ bo 10 a b = 1 := by
  rcases ha with rfl | rfl <;> rcases hb with rfl | rfl
  · left; rfl
  · left; rfl
  · left; rfl
  · right; rfl
theorem or01 {a b : Int} (ha : a = 0 ∨ a = 1) (hb : b = 0 ∨ b = 1) : bo 11 a b = 0 ∨ bo 11 a b = 1 := by
  rcases ha with rfl | rfl <;> rcases hb with rfl | rfl
  · left; rfl
  · right; rfl
  · right; rfl
  · right; rfl
/-- the last value, and the one that waits for an or -/
def tw (b : Bool) (c o : Int) : List Int := if b = true then [c, o] else [c]
theorem orL_vs {b : Bool} {n : Nat} {L M : List (Nat × Int)} {c o : Int} (hc : c = 0 ∨ c = 1) (ho : o = 0 ∨ o = 1) (h : VS wf n L (tw b c o)) (g : VS wf n M (tw b c o)) : ∃ v, (v = 0 ∨ v = 1) ∧ VS wf n (L ++ orL b) [v] ∧ VS wf n (M ++ orL b) [v] := by
  cases b with
  | false =>
    rw [show L ++ orL false = L from List.append_nil L, show M ++ orL false = M from List.append_nil M]
    exact ⟨c, hc, h, g⟩
  | true => exact ⟨bo 11 o c, or01 ho hc, h.bin (T := []) (by decide) (by decide) (by decide), g.bin (T := []) (by decide) (by decide) (by decide)⟩
theorem pzG_vs : ∀ (m md d : Nat) (b : Bool) (p c : Nat) (L M : List (Nat × Int)) {p1 c1 : Nat} {L1 M1 : List (Nat × Int)}, d ≤ 10 → pzG t N m md d b p c L M = .inr (p1, c1, L1, M1) →
    (md = 0 → ∃ v, (v = 0 ∨ v = 1) ∧ VS wf (4 + 2 * (10 - d)) L1 [n01 b v] ∧ VS wf (4 + 2 * (10 - d)) M1 [v]) ∧
    (md = 1 → ∃ v, (v = 0 ∨ v = 1) ∧ VS wf (6 + 2 * (10 - d)) L1 [v] ∧ VS wf (6 + 2 * (10 - d)) M1 [v]) ∧
    (2 ≤ md → ∀ x o, (x = 0 ∨ x = 1) → (o = 0 ∨ o = 1) → VS wf (6 + 2 * (10 - d)) L (tw b x o) → VS wf (6 + 2 * (10 - d)) M (tw b x o) → ∃ v, (v = 0 ∨ v = 1) ∧ VS wf (6 + 2 * (10 - d)) L1 [v] ∧ VS wf (6 + 2 * (10 - d)) M1 [v])
  | 0, md, d, b, p, c, L, M, p1, c1, L1, M1, hd, h => by
    unfold pzG at h
    cases h
  | m + 1, 0, d, b, p, c, L, M, p1, c1, L1, M1, hd, h => by
    refine ⟨fun _ => ?_, fun x => absurd x (by omega), fun x => absurd x (by omega)⟩
    rw [pzG_0] at h
    by_cases q : tk t N p = 22
    · rw [if_pos q] at h
      by_cases q2 : 10 ≤ d
      · rw [if_pos q2] at h; cases h
      · rw [if_neg q2] at h
        cases e : pzG t N m 0 (d + 1) (!b) (te t N p) c [] [] with
        | inl f => rw [e] at h; cases h
        | inr r =>
          obtain ⟨p2, c2, L2, M2⟩ := r
          rw [e] at h
          obtain ⟨v, hv, hL, hM⟩ := (pzG_vs m 0 (d + 1) (!b) (te t N p) c [] [] (by omega) e).1 rfl
          cases h
          have nM := (hM.mono (n' := 4 + 2 * (10 - d)) (by omega)).nt
          have ev : w64 (1 - v) = 1 - v := by rcases hv with rfl | rfl <;> rfl
          refine ⟨1 - v, by omega, ?_, ev ▸ nM⟩
          have el : n01 b (1 - v) = n01 (!b) v := by
            cases b
            · rfl
            · show 1 - (1 - v) = v
              omega
          rw [el]
          exact hL.mono (by omega)
    · rw [if_neg q] at h
      by_cases q3 : tk t N p = 191
      · rw [if_pos q3] at h
        by_cases q2 : 10 ≤ d
        · rw [if_pos q2] at h; cases h
        · rw [if_neg q2] at h
          cases e : pzG t N m 1 (d + 1) false (te t N p) c [] [] with
          | inl f => rw [e] at h; cases h
          | inr r =>
            obtain ⟨p2, c2, L2, M2⟩ := r
            rw [e] at h
            obtain ⟨v, hv, hL, hM⟩ := (pzG_vs m 1 (d + 1) false (te t N p) c [] [] (by omega) e).2.1 rfl
            have h' : (if tk t N p2 = 193 then .inr (te t N p2, c2, L2 ++ notL b, M2) else .inl (1 + 8 * bls t N p2) : PT) = .inr (p1, c1, L1, M1) := h
            by_cases q4 : tk t N p2 = 193
            · rw [if_pos q4] at h'
              cases h'
              exact ⟨v, hv, notL_vs hv (hL.mono (by omega)), hM.mono (by omega)⟩
            · rw [if_neg q4] at h'; cases h'
      · rw [if_neg q3] at h
        cases e : pzC t N p c with
        | inl f => rw [e] at h; cases h
        | inr r =>
          obtain ⟨p2, c2, L2⟩ := r
          rw [e] at h
          obtain ⟨v, hv, hL⟩ := pzC_vs (wf := wf) e
          cases h
          exact ⟨v, hv, notL_vs hv (hL.mono (by omega)), hL.mono (by omega)⟩
  | m + 1, 1, d, b, p, c, L, M, p1, c1, L1, M1, hd, h => by
    refine ⟨fun x => absurd x (by omega), fun _ => ?_, fun x => absurd x (by omega)⟩
    rw [pzG_1] at h
    cases e : pzG t N m 0 d false p c [] [] with
    | inl f => rw [e] at h; cases h
    | inr r =>
      obtain ⟨p2, c2, L2, M2⟩ := r
      rw [e] at h
      obtain ⟨v, hv, hL, hM⟩ := (pzG_vs m 0 d false p c [] [] hd e).1 rfl
      exact (pzG_vs m 2 d false p2 c2 L2 M2 hd h).2.2 (by omega) v 0 hv (Or.inl rfl) (hL.mono (by omega)) (hM.mono (by omega))
  | m + 1, x + 2, d, b, p, c, L, M, p1, c1, L1, M1, hd, h => by
    refine ⟨fun x => absurd x (by omega), fun x => absurd x (by omega), fun _ y o hy ho hL hM => ?_⟩
    rw [pzG_2] at h
    have lt : (tw b y o).length ≤ 2 := by cases b with
      | false => exact Nat.le_succ 1
      | true => exact Nat.le_refl 2
    by_cases q : tk t N p = 20
    · rw [if_pos q] at h
      cases e : pzG t N m 0 d false (te t N p) c [] [] with
      | inl f => rw [e] at h; cases h
      | inr r =>
        obtain ⟨p2, c2, L2, M2⟩ := r
        rw [e] at h
        obtain ⟨v, hv, gL, gM⟩ := (pzG_vs m 0 d false (te t N p) c [] [] hd e).1 rfl
        have tl : ∀ z, [z] ++ tw b y o = z :: y :: (tw b y o).tail := fun z => by cases b <;> rfl
        have tc : ∀ z, z :: (tw b y o).tail = tw b z o := fun z => by cases b <;> rfl
        have aL := hL.app gL (n := 6 + 2 * (10 - d)) (Nat.le_refl _) (by omega)
        have aM := hM.app gM (n := 6 + 2 * (10 - d)) (Nat.le_refl _) (by omega)
        rw [tl] at aL aM
        have bL := aL.bin (k := 10) (by decide) (by decide) (by decide)
        have bM := aM.bin (k := 10) (by decide) (by decide) (by decide)
        rw [tc] at bL bM
        exact (pzG_vs m 2 d b p2 c2 _ _ hd h).2.2 (by omega) _ o (and01 hy hv) ho bL bM
    · rw [if_neg q] at h
      by_cases q2 : tk t N p = 21
      · rw [if_pos q2] at h
        cases e : pzG t N m 0 d false (te t N p) c [] [] with
        | inl f => rw [e] at h; cases h
        | inr r =>
          obtain ⟨p2, c2, L2, M2⟩ := r
          rw [e] at h
          obtain ⟨v, hv, gL, gM⟩ := (pzG_vs m 0 d false (te t N p) c [] [] hd e).1 rfl
          obtain ⟨u, hu, uL, uM⟩ := orL_vs hy ho hL hM
          exact (pzG_vs m 2 d true p2 c2 _ _ hd h).2.2 (by omega) v u hv hu (uL.app gL (Nat.le_refl _) (by show 4 + 2 * (10 - d) + 1 ≤ _; omega)) (uM.app gM (Nat.le_refl _) (by show 4 + 2 * (10 - d) + 1 ≤ _; omega))
      · rw [if_neg q2] at h
        cases h
        exact orL_vs hy ho hL hM
/-- what a list alone comes to -/
def vOf (wf : Nat → Int) (L : List (Nat × Int)) : Int := match evL wf L [] with
  | some (v :: _) => v
  | _ => 0
theorem vOf_eq {n : Nat} {L : List (Nat × Int)} {v : Int} (h : VS wf n L [v]) (hn : n ≤ 32) : vOf wf L = v := by
  unfold vOf
  rw [h [] (by show 0 + n ≤ 32; omega)]
  rfl
end SEM

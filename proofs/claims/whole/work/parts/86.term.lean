/-! 86.term: a term (check) -/
theorem pzTl_room {t : Nat → Int} {N : Nat} : ∀ (m p c : Nat) (L : List (Nat × Int)) {p1 c1 : Nat} {L1 : List (Nat × Int)}, p ≤ N → pzTl t N m p c L = .inr (p1, c1, L1) → 3 * L1.length + p + 4 * c ≤ p1 + 4 * c1 + 3 * L.length
  | 0, p, c, L, p1, c1, L1, hp, h => by
    cases h
    omega
  | m + 1, p, c, L, p1, c1, L1, hp, h => by
    have h' : (if tk t N p = 142 ∨ tk t N p = 147 then bnd (pzV t N (te t N p) c) (fun p' c' L' => pzTl t N m p' c' (L ++ L' ++ [(if tk t N p = 142 then 13 else 14, 0)])) else .inr (p, c, L)) = .inr (p1, c1, L1) := h
    by_cases q : tk t N p = 142 ∨ tk t N p = 147
    · rw [if_pos q] at h'
      have a := te_adv (t := t) hp (by omega)
      cases e : pzV t N (te t N p) c with
      | inl f => rw [e] at h'; cases h'
      | inr r =>
        obtain ⟨p2, c2, L2⟩ := r
        rw [e] at h'
        have b := pzV_adv a.2 e
        have d := pzTl_room m p2 c2 _ b.2.1 h'
        rw [List.length_append, List.length_append, b.2.2.2.2] at d
        have : ([(if tk t N p = 142 then 13 else 14, (0 : Int))] : List (Nat × Int)).length = 1 := rfl
        omega
    · rw [if_neg q] at h'
      cases h'
      omega
theorem pzT_room {t : Nat → Int} {N p c p1 c1 : Nat} {L1 : List (Nat × Int)} (hp : p ≤ N) (h : pzT t N p c = .inr (p1, c1, L1)) : 3 * L1.length + 2 + p + 4 * c ≤ p1 + 4 * c1 := by
  unfold pzT at h
  cases e : pzV t N p c with
  | inl f => rw [e] at h; cases h
  | inr r =>
    obtain ⟨p2, c2, L2⟩ := r
    rw [e] at h
    have b := pzV_adv hp e
    have d := pzTl_room _ p2 c2 _ b.2.1 h
    omega
/-- a sign of one byte is the token there -/
theorem sgn_tk {t : Nat → Int} {N b : Nat} (ht : TR t) {cc : Int} (hc : cc = 42 ∨ cc = 47 ∨ cc = 43 ∨ cc = 45 ∨ cc = 91 ∨ cc = 93 ∨ cc = 59) : (tkB t N b = 100 + cc ↔ b < N ∧ t b = cc) ∧ (b < N ∧ t b = cc → teB t N b = b + 1) := by
  have hb := ht b
  have d := wdT_r (t := t) (f := b) (e := le t N b)
  constructor
  · constructor
    · intro z
      unfold tkB at z
      split at z
      · omega
      · split at z
        · omega
        · split at z
          · omega
          · split at z
            · split at z <;> omega
            · exact ⟨by omega, by omega⟩
    · intro ⟨h1, h2⟩
      unfold tkB
      rw [if_neg (by omega), if_neg (fun y => by unfold isLt at y; rw [decide_eq_true_eq] at y; omega), if_neg (fun y => by unfold isDg at y; rw [decide_eq_true_eq] at y; omega), if_neg (fun y => by have := y.2.2; omega), h2]
  · intro ⟨h1, h2⟩
    unfold teB
    rw [if_neg (by omega), if_neg (fun y => by unfold isLt at y; rw [decide_eq_true_eq] at y; omega), if_neg (fun y => by unfold isDg at y; rw [decide_eq_true_eq] at y; omega), if_neg (fun y => by have := y.2.2; omega)]
section TRX
variable {G : Gl} {w : Wd} {k : Nat} {σ : Mem} {Q : Option AV → Mem → Prop} {t : Nat → Int} {N s : Nat}
set_option maxRecDepth 100000 in
set_option maxHeartbeats 1000000 in
theorem kx_blf (hk : 6 ≤ k) {f B : Int} (X : XFb σ t N f B) (q : ∀ σ', XFb σ' t N f B → same SXq σ σ' → Q none σ') : CC G w w k (0, 0) 155 [vr 21 0 0] σ Q := by
  have X' := X
  obtain ⟨T, e41, hf, h1, h2, h3, h4⟩ := X
  by_cases c : σ 21 40 0 0 ≤ N
  · obtain ⟨p, hp⟩ : ∃ p : Nat, σ 21 40 0 0 = (p : Int) := ⟨(σ 21 40 0 0).toNat, by omega⟩
    refine kx_bl T (by omega) (by omega) hp (fun σ1 h40 s1 => ?_)
    have br := (bls_r (t := t) (N := N) (p := p)).2 (by omega)
    have tN := T.2.1
    exact q σ1 ⟨T.keep s1 rfl rfl, (s1 21 41 rfl 0 0).trans e41, hf, by rw [h40]; omega, by rw [h40]; omega, by rw [s1 21 46 rfl]; exact h3, by rw [s1 21 46 rfl]; exact h4⟩ (S401_q (S40_1 s1))
  · have r := q σ X' same.refl
    have t1 := T.1
    have t2 := T.2.1
    have lt : ¬ σ 21 40 0 0 < (N : Int) := by omega
    refine CC_of (okY_of (by decide) (by decide)) (by decide) ?_
    show TT G w w w k (0, 0) 155 0 [some (vr 21 0 0)] [] σ Q
    refine TT_vb ok155 (sm3_ok G w) 60 [0] ?_
    simp -implicitDefEqProofs only [↓b155_0, ↓b155_4, ↓b155_9, ↓b155_22, b155_0, b155_4, b155_9, b155_22, nLE3, layE8, t1, lt, k3_154, r154, I32, ↓xb, xb, ps, lpad, lat, aok2, rd2, aaok, aav, alok, alen, aok, akk, csum, isLg, cmpI, clsE, Option.elim, eq_self, List.mem_cons, List.not_mem_nil, or_false, false_or, List.append_nil, List.nil_append, List.cons_append, List.append_eq, List.replicate, List.length_cons, List.length_nil, List.map_cons, List.map_nil, ↓reduceIte, reduceCtorEq, if_true, if_false, true_and, and_true, false_and, and_false, and_self, not_true_eq_false, not_false_eq_true, forall_const, true_implies, false_implies, implies_true, Nat.reduceAdd, Nat.reduceSub, Nat.reduceLT, Nat.reduceLeDiff, Nat.reduceEqDiff, Nat.reduceMul, Nat.reducePow, Nat.add_one_ne_zero, Nat.add_one_sub_one, Nat.add_zero, Nat.zero_add, Int.reduceLT, Int.reduceLE, Int.reduceNeg, Int.reduceAdd, Int.reduceSub, Int.reduceToNat, Int.reduceEq, Int.reduceMul, Int.reducePow, Int.cast_ofNat_Int, Int.toNat_natCast, ne_eq, Bool.false_eq_true, true_or, or_true, or_self, Nat.not_lt_zero, ite_e0, ite_e1, lc_lt, lc_ge, lc_gt, lc_le, lc_eq, Classical.not_not]
    with_reducible repeat' (first | (refine And.intro ?_ ?_) | intro _)
    all_goals try omega
    all_goals first | omega | exact r
end TRX

/-! 9i.rulex: a rule whole (check) -/
/-- the check's rule s holds these clauses -/
def RcG (σ : Mem) (s : Nat) (Cs : List Cl) : Prop := ∃ LL : List (Nat × Int), LL.length ≤ 300 ∧ (∀ i, i < LL.length → σ 21 50 0 (300 * s + i) = (((LL.getD i (0, 0)).1 : Nat) : Int) ∧ σ 21 51 0 (300 * s + i) = (LL.getD i (0, 0)).2) ∧ RcX σ s LL Cs ∧ σ 21 52 0 s = ((Cs.length : Nat) : Int)
abbrev SXE : Nat → Nat → Bool := fun o f => o == 21 && (f == 39 || f == 40 || f == 41 || f == 42 || f == 43 || f == 44 || f == 45 || f == 46 || f == 47 || f == 50 || f == 51 || f == 52 || f == 53 || f == 54 || f == 55 || f == 56 || f == 57 || f == 58)
theorem SXR_E {σ σ' : Mem} (h : same SXR σ σ') : same SXE σ σ' := h.mono (fun o f z => by
  have z' : (o == 21 && (f == 40 || f == 41 || f == 44 || f == 45 || f == 46 || f == 47 || f == 50 || f == 51 || f == 53 || f == 54 || f == 55 || f == 56 || f == 57 || f == 58)) = true := z
  show (o == 21 && (f == 39 || f == 40 || f == 41 || f == 42 || f == 43 || f == 44 || f == 45 || f == 46 || f == 47 || f == 50 || f == 51 || f == 52 || f == 53 || f == 54 || f == 55 || f == 56 || f == 57 || f == 58)) = true
  simp only [Bool.and_eq_true, Bool.or_eq_true, beq_iff_eq] at z' ⊢
  refine ⟨z'.1, ?_⟩
  have := z'.2
  omega)
section RLX
variable {G : Gl} {w : Wd} {k : Nat} {σ : Mem} {Q : Option AV → Mem → Prop} {t : Nat → Int} {N s : Nat}
theorem pzR_eq2 {m p c : Nat} {Cs : List Cl} : pzR t N (m + 1) p c Cs = (match pzK t N p c Cs.length (hdB Cs) with
    | .inl f => .inl f
    | .inr (p1, c1, x) => if tk t N p1 = 159 then pzR t N m (te t N p1) c1 (Cs ++ [x]) else if tk t N p1 = 32 then .inr (Cs ++ [x]) else .inl (1 + 8 * bls t N p1)) := rfl
theorem pzR_pos : ∀ (m p c : Nat) (Cs : List Cl) {f : Int}, p ≤ N → c ≤ 60 → Cs.length ≤ 12 → 13 ≤ Cs.length + m → pzR t N m p c Cs = .inl f → 1 ≤ f ∧ f ≤ 8 * N + 5
  | 0, p, c, Cs, f, hp, hc, hC, hm, h => by omega
  | m + 1, p, c, Cs, f, hp, hc, hC, hm, h => by
    rw [pzR_eq2] at h
    cases e : pzK t N p c Cs.length (hdB Cs) with
    | inl g => rw [e] at h; cases h; exact pzK_pos hp hc e
    | inr r =>
      obtain ⟨p1, c1, x⟩ := r
      rw [e] at h
      have ad := pzK_adv hp hc e
      have bN := (bls_r (t := t) (N := N) (p := p1)).2 ad.2.1
      have h' : (if tk t N p1 = 159 then pzR t N m (te t N p1) c1 (Cs ++ [x]) else if tk t N p1 = 32 then .inr (Cs ++ [x]) else .inl (1 + 8 * bls t N p1) : Int ⊕ List Cl) = .inl f := h
      have la : (Cs ++ [x]).length = Cs.length + 1 := by rw [List.length_append]; rfl
      split at h'
      · have ta := te_adv (t := t) ad.2.1 (by omega)
        exact pzR_pos m _ _ _ ta.2 ad.2.2.1 (by omega) (by omega) h'
      · split at h'
        · cases h'
        · cases h'; omega
theorem tk_32 {b : Nat} (ht : TR t) : tkB t N b = 32 ↔ N ≤ b := by
  have hb := ht b
  have d := wdT_r (t := t) (f := b) (e := le t N b)
  constructor
  · intro h
    unfold tkB at h
    split at h
    · assumption
    · split at h
      · omega
      · split at h
        · omega
        · split at h
          · split at h <;> omega
          · omega
  · intro h
    unfold tkB
    rw [if_pos h]
/-! the end: the slot's clauses are told, the tape is empty -/
set_option maxRecDepth 100000 in
set_option maxHeartbeats 1000000 in
theorem kx_r137 (hk : 8 ≤ k) (hs7 : s ≤ 7) {n : Nat} {f : Int} (e41 : σ 21 41 0 0 = f) (hf : 0 ≤ f ∧ f ≤ 10000) (e42 : σ 21 42 0 0 = ((s : Nat) : Int)) (e43 : σ 21 43 0 0 = ((s : Nat) : Int)) {l2 : Option AV}
    (q : ∀ σ', σ' = up (up (up σ 21 39 0 0 0) 21 52 0 s n) 21 43 0 0 (if f = 0 then (s : Int) + 1 else (s : Int) + 0) → Q (some (vi (if f = 0 then (s : Int) else -2 - f))) σ') : TT G w w w k (0, 0) 174 137 [some (vr 21 0 0), some (vi n), l2] [] σ Q := by
  have u42 : up σ 21 39 0 0 0 21 42 0 0 = ((s : Nat) : Int) := (upp_nf (by decide)).trans e42
  have u41 : ∀ v, up (up σ 21 39 0 0 0) 21 52 0 s v 21 41 0 0 = f := fun v => (upp_nf (by decide)).trans ((upp_nf (by decide)).trans e41)
  have u43 : ∀ v, up (up σ 21 39 0 0 0) 21 52 0 s v 21 43 0 0 = ((s : Nat) : Int) := fun v => (upp_nf (by decide)).trans ((upp_nf (by decide)).trans e43)
  have v41 : ∀ v x, up (up (up σ 21 39 0 0 0) 21 52 0 s v) 21 43 0 0 x 21 41 0 0 = f := fun v x => (upp_nf (by decide)).trans (u41 v)
  have v43 : ∀ v x, up (up (up σ 21 39 0 0 0) 21 52 0 s v) 21 43 0 0 x 21 43 0 0 = x := fun v x => upp_eq
  by_cases f0 : f = 0
  · have r := q _ rfl
    rw [if_pos f0, if_pos f0] at r
    have en : (s : Int) + 1 - 1 = (s : Int) := by omega
    have f0' : f ≤ 0 := by omega
    refine TT_vb ok174 (sm3_ok G w) 60 [] ?_
    simp -implicitDefEqProofs only [↓b174_0, ↓b174_9, ↓b174_11, ↓b174_48, ↓b174_52, ↓b174_57, ↓b174_64, ↓b174_71, ↓b174_82, ↓b174_86, ↓b174_91, ↓b174_100, ↓b174_107, ↓b174_118, ↓b174_122, ↓b174_123, ↓b174_137, ↓b174_164, ↓b174_168, ↓b174_169, ↓b174_180, ↓b174_190, ↓b174_196, b174_0, b174_9, b174_11, b174_48, b174_52, b174_57, b174_64, b174_71, b174_82, b174_86, b174_91, b174_100, b174_107, b174_118, b174_122, b174_123, b174_137, b174_164, b174_168, b174_169, b174_180, b174_190, b174_196, nLE3, layE8, u42, u41, u43, v41, v43, f0, en, n3_173, n3_155, k3_154, r154, n3_153, I32, ↓xb, xb, ps, lpad, lat, aok2, rd2, aaok, aav, alok, alen, aok, akk, csum, isLg, cmpI, clsE, Option.elim, eq_self, List.mem_cons, List.not_mem_nil, or_false, false_or, List.append_nil, List.nil_append, List.cons_append, List.append_eq, List.replicate, List.length_cons, List.length_nil, List.map_cons, List.map_nil, ↓reduceIte, reduceCtorEq, if_true, if_false, true_and, and_true, false_and, and_false, and_self, not_true_eq_false, not_false_eq_true, forall_const, true_implies, false_implies, implies_true, Nat.reduceAdd, Nat.reduceSub, Nat.reduceLT, Nat.reduceLeDiff, Nat.reduceEqDiff, Nat.reduceMul, Nat.reducePow, Nat.add_one_ne_zero, Nat.add_one_sub_one, Nat.add_zero, Nat.zero_add, Int.reduceLT, Int.reduceLE, Int.reduceNeg, Int.reduceAdd, Int.reduceSub, Int.reduceToNat, Int.reduceEq, Int.reduceMul, Int.reducePow, Int.cast_ofNat_Int, Int.toNat_natCast, ne_eq, Bool.false_eq_true, true_or, or_true, or_self, Nat.not_lt_zero, ite_e0, ite_e1, lc_lt, lc_ge, lc_gt, lc_le, lc_eq, Classical.not_not]
    with_reducible repeat' (first | (refine And.intro ?_ ?_) | intro _)
    all_goals try omega
    all_goals first | omega | exact r
  · have r := q _ rfl
    rw [if_neg f0, if_neg f0] at r
    have f0' : ¬ f ≤ 0 := by omega
    refine TT_vb ok174 (sm3_ok G w) 60 [] ?_
    simp -implicitDefEqProofs only [↓b174_0, ↓b174_9, ↓b174_11, ↓b174_48, ↓b174_52, ↓b174_57, ↓b174_64, ↓b174_71, ↓b174_82, ↓b174_86, ↓b174_91, ↓b174_100, ↓b174_107, ↓b174_118, ↓b174_122, ↓b174_123, ↓b174_137, ↓b174_164, ↓b174_168, ↓b174_169, ↓b174_180, ↓b174_190, ↓b174_196, b174_0, b174_9, b174_11, b174_48, b174_52, b174_57, b174_64, b174_71, b174_82, b174_86, b174_91, b174_100, b174_107, b174_118, b174_122, b174_123, b174_137, b174_164, b174_168, b174_169, b174_180, b174_190, b174_196, nLE3, layE8, u42, u41, u43, v41, v43, f0, f0', n3_173, n3_155, k3_154, r154, n3_153, I32, ↓xb, xb, ps, lpad, lat, aok2, rd2, aaok, aav, alok, alen, aok, akk, csum, isLg, cmpI, clsE, Option.elim, eq_self, List.mem_cons, List.not_mem_nil, or_false, false_or, List.append_nil, List.nil_append, List.cons_append, List.append_eq, List.replicate, List.length_cons, List.length_nil, List.map_cons, List.map_nil, ↓reduceIte, reduceCtorEq, if_true, if_false, true_and, and_true, false_and, and_false, and_self, not_true_eq_false, not_false_eq_true, forall_const, true_implies, false_implies, implies_true, Nat.reduceAdd, Nat.reduceSub, Nat.reduceLT, Nat.reduceLeDiff, Nat.reduceEqDiff, Nat.reduceMul, Nat.reducePow, Nat.add_one_ne_zero, Nat.add_one_sub_one, Nat.add_zero, Nat.zero_add, Int.reduceLT, Int.reduceLE, Int.reduceNeg, Int.reduceAdd, Int.reduceSub, Int.reduceToNat, Int.reduceEq, Int.reduceMul, Int.reducePow, Int.cast_ofNat_Int, Int.toNat_natCast, ne_eq, Bool.false_eq_true, true_or, or_true, or_self, Nat.not_lt_zero, ite_e0, ite_e1, lc_lt, lc_ge, lc_gt, lc_le, lc_eq, Classical.not_not]
    with_reducible repeat' (first | (refine And.intro ?_ ?_) | intro _)
    all_goals try omega
    all_goals first | omega | exact r
/-! the loop is left -/
set_option maxRecDepth 100000 in
set_option maxHeartbeats 1000000 in
theorem kx_r48 (hk : 12 ≤ k) (hs7 : s ≤ 7) {n : Nat} {f : Int} (T : FTS σ t) (e41 : σ 21 41 0 0 = f) (hf : 0 ≤ f ∧ f ≤ 10000) (e42 : σ 21 42 0 0 = ((s : Nat) : Int)) (e43 : σ 21 43 0 0 = ((s : Nat) : Int))
    (q : ∀ σ', FTS σ' t → same SXE σ σ' → σ' 21 39 0 0 = 0 → σ' 21 43 0 0 = (if f = 0 then (s : Int) + 1 else (s : Int) + 0) → (∀ f' i, 50 ≤ f' → f' ≤ 57 → f' ≠ 52 → σ' 21 f' 0 i = σ 21 f' 0 i) → σ' 21 52 0 s = ((n : Nat) : Int) → Q (some (vi (if f = 0 then (s : Int) else -2 - f))) σ') : TT G w w w k (0, 0) 174 48 [some (vr 21 0 0), some (vi n), some (vi 0)] [] σ Q := by
  have g := fun l2 => kx_r137 (G := G) (w := w) (k := k) (σ := σ) (Q := Q) (s := s) (n := n) (f := f) (l2 := l2) (by omega) hs7 e41 hf e42 e43 (fun σ' e' => by
    refine q σ' (fun f' i x a b c d => ?_) ?_ ?_ ?_ (fun f' i h1 h2 h3 => ?_) ?_
    · have z := T f' i x a b c d
      rw [e42] at z
      rw [e', upp_nf (by omega), upp_nf (show 42 ≠ 43 by decide), upp_nf (show 42 ≠ 52 by decide), upp_nf (show 42 ≠ 39 by decide), e42]
      by_cases c52 : f' = 52
      · subst c52
        have lb : lowB 52 = 1 := rfl
        rw [lb] at z
        rw [up_at (by omega), upp_nf (by decide)]
        exact z
      · rw [upp_nf c52, upp_nf (by omega)]
        exact z
    · rw [e']
      exact ((same.refl.put rfl).put rfl).put rfl
    · rw [e', upp_nf (by decide), upp_nf (by decide), upp_eq]
    · rw [e', upp_eq]
    · rw [e', upp_nf (by omega), upp_nf h3, upp_nf (by omega)]
    · rw [e', upp_nf (by decide), upp_eq])
  refine TT_vb ok174 (sm3_ok G w) 60 [52, 137] ?_
  simp -implicitDefEqProofs only [↓b174_0, ↓b174_9, ↓b174_11, ↓b174_48, ↓b174_52, ↓b174_57, ↓b174_64, ↓b174_71, ↓b174_82, ↓b174_86, ↓b174_91, ↓b174_100, ↓b174_107, ↓b174_118, ↓b174_122, ↓b174_123, ↓b174_137, ↓b174_164, ↓b174_168, ↓b174_169, ↓b174_180, ↓b174_190, ↓b174_196, b174_0, b174_9, b174_11, b174_48, b174_52, b174_57, b174_64, b174_71, b174_82, b174_86, b174_91, b174_100, b174_107, b174_118, b174_122, b174_123, b174_137, b174_164, b174_168, b174_169, b174_180, b174_190, b174_196, nLE3, layE8, hk, n3_173, n3_155, k3_154, r154, n3_153, I32, ↓xb, xb, ps, lpad, lat, aok2, rd2, aaok, aav, alok, alen, aok, akk, csum, isLg, cmpI, clsE, Option.elim, eq_self, List.mem_cons, List.not_mem_nil, or_false, false_or, List.append_nil, List.nil_append, List.cons_append, List.append_eq, List.replicate, List.length_cons, List.length_nil, List.map_cons, List.map_nil, ↓reduceIte, reduceCtorEq, if_true, if_false, true_and, and_true, false_and, and_false, and_self, not_true_eq_false, not_false_eq_true, forall_const, true_implies, false_implies, implies_true, Nat.reduceAdd, Nat.reduceSub, Nat.reduceLT, Nat.reduceLeDiff, Nat.reduceEqDiff, Nat.reduceMul, Nat.reducePow, Nat.add_one_ne_zero, Nat.add_one_sub_one, Nat.add_zero, Nat.zero_add, Int.reduceLT, Int.reduceLE, Int.reduceNeg, Int.reduceAdd, Int.reduceSub, Int.reduceToNat, Int.reduceEq, Int.reduceMul, Int.reducePow, Int.cast_ofNat_Int, Int.toNat_natCast, ne_eq, Bool.false_eq_true, true_or, or_true, or_self, Nat.not_lt_zero, ite_e0, ite_e1, lc_lt, lc_ge, lc_gt, lc_le, lc_eq, Classical.not_not]
  with_reducible repeat' (first | (refine And.intro ?_ ?_) | intro _)
  all_goals try omega
  all_goals first | omega | exact g _
/-! a fault was told: the rule is done -/
theorem FTS.p (T : FTS σ t) {v : Int} : FTS (up σ 21 40 0 0 v) t := fun f' i x a b c d => by
  rw [upp_nf (by omega), upp_nf (show 42 ≠ 40 by decide)]
  exact T f' i x a b c d
set_option maxRecDepth 100000 in
set_option maxHeartbeats 1000000 in
theorem kx_r57f (hk : 20 ≤ k) (hs7 : s ≤ 7) {n : Nat} (hn : n ≤ 13) {f : Int} (hf : 1 ≤ f ∧ f ≤ 10000) (F : XFb σ t N f 1000) (e42 : σ 21 42 0 0 = ((s : Nat) : Int)) (e43 : σ 21 43 0 0 = ((s : Nat) : Int)) {l2 : Option AV}
    (q : ∀ σ', FTS σ' t → same SXE σ σ' → σ' 21 39 0 0 = 0 → σ' 21 43 0 0 = ((s : Nat) : Int) → Q (some (vi (-2 - f))) σ') : TT G w w w k (0, 0) 174 57 [some (vr 21 0 0), some (vi n), l2] [] σ Q := by
  have n0 : ¬ f = 0 := by omega
  refine TT_vb ok174 (sm3_ok G w) 60 [48] ?_
  simp -implicitDefEqProofs only [↓b174_0, ↓b174_9, ↓b174_11, ↓b174_48, ↓b174_52, ↓b174_57, ↓b174_64, ↓b174_71, ↓b174_82, ↓b174_86, ↓b174_91, ↓b174_100, ↓b174_107, ↓b174_118, ↓b174_122, ↓b174_123, ↓b174_137, ↓b174_164, ↓b174_168, ↓b174_169, ↓b174_180, ↓b174_190, ↓b174_196, b174_0, b174_9, b174_11, b174_48, b174_52, b174_57, b174_64, b174_71, b174_82, b174_86, b174_91, b174_100, b174_107, b174_118, b174_122, b174_123, b174_137, b174_164, b174_168, b174_169, b174_180, b174_190, b174_196, nLE3, layE8, hk, n3_173, n3_155, k3_154, r154, n3_153, I32, ↓xb, xb, ps, lpad, lat, aok2, rd2, aaok, aav, alok, alen, aok, akk, csum, isLg, cmpI, clsE, Option.elim, eq_self, List.mem_cons, List.not_mem_nil, or_false, false_or, List.append_nil, List.nil_append, List.cons_append, List.append_eq, List.replicate, List.length_cons, List.length_nil, List.map_cons, List.map_nil, ↓reduceIte, reduceCtorEq, if_true, if_false, true_and, and_true, false_and, and_false, and_self, not_true_eq_false, not_false_eq_true, forall_const, true_implies, false_implies, implies_true, Nat.reduceAdd, Nat.reduceSub, Nat.reduceLT, Nat.reduceLeDiff, Nat.reduceEqDiff, Nat.reduceMul, Nat.reducePow, Nat.add_one_ne_zero, Nat.add_one_sub_one, Nat.add_zero, Nat.zero_add, Int.reduceLT, Int.reduceLE, Int.reduceNeg, Int.reduceAdd, Int.reduceSub, Int.reduceToNat, Int.reduceEq, Int.reduceMul, Int.reducePow, Int.cast_ofNat_Int, Int.toNat_natCast, ne_eq, Bool.false_eq_true, true_or, or_true, or_self, Nat.not_lt_zero, ite_e0, ite_e1, lc_lt, lc_ge, lc_gt, lc_le, lc_eq, Classical.not_not]
  with_reducible repeat' (first | (refine And.intro ?_ ?_) | intro _)
  all_goals try omega
  all_goals first | omega | skip
  refine kx_blf (by omega) F (fun σ2 F2 s2 => ?_)
  have f41 := F2.2.1
  have fne := F2.2.2.1
  have b1 := F2.2.2.2.1
  have b2 := F2.2.2.2.2.1
  have r := kx_r48 (G := G) (w := w) (k := k) (σ := up σ2 21 40 0 0 (σ2 21 40 0 0 + 1)) (Q := Q) (t := t) (s := s) (n := n + 1) (f := f) (by omega) hs7 F2.1.2.1.2.p (by rw [upp_nf (by decide)]; exact f41) (by omega) (by rw [upp_nf (by decide), s2 21 42 rfl]; exact e42) (by rw [upp_nf (by decide), s2 21 43 rfl]; exact e43) (fun σ' h1 h2 h3 h4 _ _ => by
    rw [if_neg n0] at h4 ⊢
    exact q σ' h1 (((SXR_E (SXT_R (SXq_T s2))).put rfl).trans h2) h3 (by rw [h4, Int.add_zero]))
  rw [show (((n + 1 : Nat) : Int)) = (n : Int) + 1 by omega] at r
  simp -implicitDefEqProofs only [↓b174_0, ↓b174_9, ↓b174_11, ↓b174_48, ↓b174_52, ↓b174_57, ↓b174_64, ↓b174_71, ↓b174_82, ↓b174_86, ↓b174_91, ↓b174_100, ↓b174_107, ↓b174_118, ↓b174_122, ↓b174_123, ↓b174_137, ↓b174_164, ↓b174_168, ↓b174_169, ↓b174_180, ↓b174_190, ↓b174_196, b174_0, b174_9, b174_11, b174_48, b174_52, b174_57, b174_64, b174_71, b174_82, b174_86, b174_91, b174_100, b174_107, b174_118, b174_122, b174_123, b174_137, b174_164, b174_168, b174_169, b174_180, b174_190, b174_196, nLE3, layE8, f41, fne, n3_173, n3_155, k3_154, r154, n3_153, I32, ↓xb, xb, ps, lpad, lat, aok2, rd2, aaok, aav, alok, alen, aok, akk, csum, isLg, cmpI, clsE, Option.elim, eq_self, List.mem_cons, List.not_mem_nil, or_false, false_or, List.append_nil, List.nil_append, List.cons_append, List.append_eq, List.replicate, List.length_cons, List.length_nil, List.map_cons, List.map_nil, ↓reduceIte, reduceCtorEq, if_true, if_false, true_and, and_true, false_and, and_false, and_self, not_true_eq_false, not_false_eq_true, forall_const, true_implies, false_implies, implies_true, Nat.reduceAdd, Nat.reduceSub, Nat.reduceLT, Nat.reduceLeDiff, Nat.reduceEqDiff, Nat.reduceMul, Nat.reducePow, Nat.add_one_ne_zero, Nat.add_one_sub_one, Nat.add_zero, Nat.zero_add, Int.reduceLT, Int.reduceLE, Int.reduceNeg, Int.reduceAdd, Int.reduceSub, Int.reduceToNat, Int.reduceEq, Int.reduceMul, Int.reducePow, Int.cast_ofNat_Int, Int.toNat_natCast, ne_eq, Bool.false_eq_true, true_or, or_true, or_self, Nat.not_lt_zero, ite_e0, ite_e1, lc_lt, lc_ge, lc_gt, lc_le, lc_eq, Classical.not_not]
  with_reducible repeat' (first | (refine And.intro ?_ ?_) | intro _)
  all_goals try omega
  all_goals first | omega | exact r
set_option maxRecDepth 100000 in
set_option maxHeartbeats 1000000 in
theorem kx_rl (ht : TR t) (hk : 130 ≤ k) (hs7 : s ≤ 7) {RR : Int ⊕ List Cl}
    (qf : ∀ f, RR = .inl f → ∀ σ', FTS σ' t → same SXE σ σ' → σ' 21 39 0 0 = 0 → σ' 21 43 0 0 = ((s : Nat) : Int) → Q (some (vi (-2 - f))) σ')
    (qk : ∀ Cs, RR = .inr Cs → ∀ σ', FTS σ' t → RcG σ' s Cs → same SXE σ σ' → σ' 21 39 0 0 = 0 → σ' 21 43 0 0 = ((s : Nat) : Int) + 1 → Q (some (vi s)) σ') :
    ∀ (m p c : Nat) (Cs : List Cl) (LL : List (Nat × Int)) (σ' : Mem), p ≤ N → c ≤ 60 → 3 * LL.length ≤ p + 4 * c → Cs.length ≤ 12 → 13 ≤ Cs.length + m → XSt σ' t N s p c LL → σ' 21 45 0 0 = 0 → σ' 21 43 0 0 = ((s : Nat) : Int) → RcX σ' s LL Cs → pzR t N m p c Cs = RR → same SXE σ σ' →
      TT G w w w k (0, 0) 174 48 [some (vr 21 0 0), some (vi (Cs.length : Nat)), some (vi 1)] [] σ' Q
  | 0, p, c, Cs, LL, σ', hp, hc, hl, hC, hm, X, e45, e43, C, hR, hs => by omega
  | m + 1, p, c, Cs, LL, σ', hp, hc, hl, hC, hm, X, e45, e43, C, hR, hs => by
    have ih := kx_rl ht hk hs7 qf qk m
    have N4 := X.1.2.1
    rw [pzR_eq2] at hR
    have fbd : ∀ f : Int, pzK t N p c Cs.length (hdB Cs) = .inl f → ∀ σ2, XFb σ2 t N f 1000 → same SXR σ' σ2 → ∀ l2, TT G w w w k (0, 0) 174 57 [some (vr 21 0 0), some (vi (Cs.length : Nat)), l2] [] σ2 Q := fun f ef σ2 F2 s2 l2 => by
      have fp := pzK_pos hp hc ef
      rw [ef] at hR
      exact kx_r57f (by omega) hs7 (by omega) (by omega) F2 ((s2 21 42 rfl 0 0).trans X.2.2.2.1) ((s2 21 43 rfl 0 0).trans e43) (fun σ3 h1 h2 h3 h4 => qf f hR.symm σ3 h1 ((hs.trans (SXR_E s2)).trans h2) h3 h4)
    have gbd : ∀ p1 c1 x, pzK t N p c Cs.length (hdB Cs) = .inr (p1, c1, x) → ∀ pe σ2, pe ≤ N → bls t N pe = bls t N p1 → XSt σ2 t N s pe c1 (LL ++ x.2.2.1 ++ x.2.2.2.2) → σ2 21 45 0 0 = 0 → RcX σ2 s (LL ++ x.2.2.1 ++ x.2.2.2.2) (Cs ++ [x]) → same SXR σ' σ2 → ∀ l2, TT G w w w k (0, 0) 174 57 [some (vr 21 0 0), some (vi (Cs.length : Nat)), l2] [] σ2 Q := fun p1 c1 x ex pe σ2 hpe ebe X2 f45 C2 s2 l2 => by
      have ad := pzK_adv hp hc ex
      have rm := (pzK_len ht hp hc ex).2
      have bN := (bls_r (t := t) (N := N) (p := p1)).2 ad.2.1
      have pb := (bls_r (t := t) (N := N) (p := p1)).1
      have bs : ∀ a : Int, band a 255 = a % 256 := fun a => band_255
      have ek : tk t N p1 = tkB t N (bls t N p1) := rfl
      have et : te t N p1 = teB t N (bls t N p1) := rfl
      have sg := sgn_tk (N := N) (b := bls t N p1) ht (cc := 59) (by omega)
      have k32 := tk_32 (N := N) (b := bls t N p1) ht
      have la : (Cs ++ [x]).length = Cs.length + 1 := by rw [List.length_append]; rfl
      have lx : (LL ++ x.2.2.1 ++ x.2.2.2.2).length = LL.length + (x.2.2.1.length + x.2.2.2.2.length) := by rw [List.length_append, List.length_append]; omega
      rw [ex] at hR
      have hR' : (if tk t N p1 = 159 then pzR t N m (te t N p1) c1 (Cs ++ [x]) else if tk t N p1 = 32 then .inr (Cs ++ [x]) else .inl (1 + 8 * bls t N p1) : Int ⊕ List Cl) = RR := hR
      have f43 : σ2 21 43 0 0 = ((s : Nat) : Int) := (s2 21 43 rfl 0 0).trans e43
      refine TT_vb ok174 (sm3_ok G w) 60 [48] ?_
      simp -implicitDefEqProofs only [↓b174_0, ↓b174_9, ↓b174_11, ↓b174_48, ↓b174_52, ↓b174_57, ↓b174_64, ↓b174_71, ↓b174_82, ↓b174_86, ↓b174_91, ↓b174_100, ↓b174_107, ↓b174_118, ↓b174_122, ↓b174_123, ↓b174_137, ↓b174_164, ↓b174_168, ↓b174_169, ↓b174_180, ↓b174_190, ↓b174_196, b174_0, b174_9, b174_11, b174_48, b174_52, b174_57, b174_64, b174_71, b174_82, b174_86, b174_91, b174_100, b174_107, b174_118, b174_122, b174_123, b174_137, b174_164, b174_168, b174_169, b174_180, b174_190, b174_196, nLE3, layE8, hk, n3_173, n3_155, k3_154, r154, n3_153, I32, ↓xb, xb, ps, lpad, lat, aok2, rd2, aaok, aav, alok, alen, aok, akk, csum, isLg, cmpI, clsE, Option.elim, eq_self, List.mem_cons, List.not_mem_nil, or_false, false_or, List.append_nil, List.nil_append, List.cons_append, List.append_eq, List.replicate, List.length_cons, List.length_nil, List.map_cons, List.map_nil, ↓reduceIte, reduceCtorEq, if_true, if_false, true_and, and_true, false_and, and_false, and_self, not_true_eq_false, not_false_eq_true, forall_const, true_implies, false_implies, implies_true, Nat.reduceAdd, Nat.reduceSub, Nat.reduceLT, Nat.reduceLeDiff, Nat.reduceEqDiff, Nat.reduceMul, Nat.reducePow, Nat.add_one_ne_zero, Nat.add_one_sub_one, Nat.add_zero, Nat.zero_add, Int.reduceLT, Int.reduceLE, Int.reduceNeg, Int.reduceAdd, Int.reduceSub, Int.reduceToNat, Int.reduceEq, Int.reduceMul, Int.reducePow, Int.cast_ofNat_Int, Int.toNat_natCast, ne_eq, Bool.false_eq_true, true_or, or_true, or_self, Nat.not_lt_zero, ite_e0, ite_e1, lc_lt, lc_ge, lc_gt, lc_le, lc_eq, Classical.not_not]
      with_reducible repeat' (first | (refine And.intro ?_ ?_) | intro _)
      all_goals try omega
      all_goals first | omega | skip
      refine kx_bl X2.1 (by omega) hpe X2.2.1 (fun σ3 h40 s3 => ?_)
      rw [ebe] at h40
      have X3 := X2.move (S40_1 s3) h40 ((s3 21 41 rfl 0 0).trans X2.2.2.1)
      have S3 := SXR_E (SXT_R (SXq_T (S401_q (S40_1 s3))))
      have t1 := X3.1.1
      have g41 := X3.2.2.1
      have T3 := X3.1.2.1.2
      have ex45 : σ3 21 45 0 0 = 0 := (s3 21 45 rfl 0 0).trans f45
      have ex43 : σ3 21 43 0 0 = ((s : Nat) : Int) := (s3 21 43 rfl 0 0).trans f43
      have ex42 := X3.2.2.2.1
      have s32 : ∀ f i, 50 ≤ f → f ≤ 57 → σ3 21 f 0 i = σ2 21 f 0 i := fun f i h1 h2 => by
        have : f = 50 ∨ f = 51 ∨ f = 52 ∨ f = 53 ∨ f = 54 ∨ f = 55 ∨ f = 56 ∨ f = 57 := by omega
        rcases this with rfl | rfl | rfl | rfl | rfl | rfl | rfl | rfl <;> exact s3 21 _ rfl 0 i
      have rcp : ∀ σ4 : Mem, (∀ f i, 50 ≤ f → f ≤ 57 → f ≠ 52 → σ4 21 f 0 i = σ2 21 f 0 i) → RcX σ4 s (LL ++ x.2.2.1 ++ x.2.2.2.2) (Cs ++ [x]) := fun σ4 h j hj => by
        obtain ⟨a, b, e, h3, h4, h5, h6, h7, h8⟩ := C2 j hj
        exact ⟨a, b, e, (h 53 _ (by omega) (by omega) (by omega)).trans h3, fun z => (h 54 _ (by omega) (by omega) (by omega)).trans (h4 z), (h 55 _ (by omega) (by omega) (by omega)).trans h5, (h 56 _ (by omega) (by omega) (by omega)).trans h6, (h 57 _ (by omega) (by omega) (by omega)).trans h7, h8⟩
      by_cases k159 : tk t N p1 = 159
      · have cb := sg.1.mp k159
        have ete : te t N p1 = bls t N p1 + 1 := sg.2 cb
        rw [if_pos k159] at hR'
        have lt : ((bls t N p1 : Nat) : Int) < (N : Int) := by omega
        have ge : ¬ (N : Int) ≤ ((bls t N p1 : Nat) : Int) := by omega
        have e59 : σ3 21 49 0 (bls t N p1) % 256 = 59 := (X3.1.2.2 _ cb.1).1.trans cb.2
        have r := ih (te t N p1) c1 (Cs ++ [x]) _ _ (by omega) ad.2.2.1 (by omega) (by omega) (by omega) (X3.move (p' := te t N p1) (same.refl.put rfl) upp_eq (by rw [upp_nf (by decide)]; exact g41)) (by rw [upp_nf (by decide)]; exact ex45) (by rw [upp_nf (by decide)]; exact ex43) (rcp _ (fun f i h1 h2 h3 => by rw [upp_nf (by omega)]; exact s32 f i h1 h2)) hR' (((hs.trans (SXR_E s2)).trans S3).trans (same.refl.put rfl))
        rw [ete, la, show (((bls t N p1 + 1 : Nat) : Int)) = ((bls t N p1 : Nat) : Int) + 1 by omega, show (((Cs.length + 1 : Nat) : Int)) = (Cs.length : Int) + 1 by omega] at r
        simp -implicitDefEqProofs only [↓b174_0, ↓b174_9, ↓b174_11, ↓b174_48, ↓b174_52, ↓b174_57, ↓b174_64, ↓b174_71, ↓b174_82, ↓b174_86, ↓b174_91, ↓b174_100, ↓b174_107, ↓b174_118, ↓b174_122, ↓b174_123, ↓b174_137, ↓b174_164, ↓b174_168, ↓b174_169, ↓b174_180, ↓b174_190, ↓b174_196, b174_0, b174_9, b174_11, b174_48, b174_52, b174_57, b174_64, b174_71, b174_82, b174_86, b174_91, b174_100, b174_107, b174_118, b174_122, b174_123, b174_137, b174_164, b174_168, b174_169, b174_180, b174_190, b174_196, nLE3, layE8, h40, t1, g41, lt, ge, bs, e59, n3_173, n3_155, k3_154, r154, n3_153, I32, ↓xb, xb, ps, lpad, lat, aok2, rd2, aaok, aav, alok, alen, aok, akk, csum, isLg, cmpI, clsE, Option.elim, eq_self, List.mem_cons, List.not_mem_nil, or_false, false_or, List.append_nil, List.nil_append, List.cons_append, List.append_eq, List.replicate, List.length_cons, List.length_nil, List.map_cons, List.map_nil, ↓reduceIte, reduceCtorEq, if_true, if_false, true_and, and_true, false_and, and_false, and_self, not_true_eq_false, not_false_eq_true, forall_const, true_implies, false_implies, implies_true, Nat.reduceAdd, Nat.reduceSub, Nat.reduceLT, Nat.reduceLeDiff, Nat.reduceEqDiff, Nat.reduceMul, Nat.reducePow, Nat.add_one_ne_zero, Nat.add_one_sub_one, Nat.add_zero, Nat.zero_add, Int.reduceLT, Int.reduceLE, Int.reduceNeg, Int.reduceAdd, Int.reduceSub, Int.reduceToNat, Int.reduceEq, Int.reduceMul, Int.reducePow, Int.cast_ofNat_Int, Int.toNat_natCast, ne_eq, Bool.false_eq_true, true_or, or_true, or_self, Nat.not_lt_zero, ite_e0, ite_e1, lc_lt, lc_ge, lc_gt, lc_le, lc_eq, Classical.not_not]
        with_reducible repeat' (first | (refine And.intro ?_ ?_) | intro _)
        all_goals try omega
        all_goals first | omega | exact r
      · by_cases kk32 : tk t N p1 = 32
        · have ge : (N : Int) ≤ ((bls t N p1 : Nat) : Int) := by have := k32.mp kk32; omega
          rw [if_neg k159, if_pos kk32] at hR'
          have r := kx_r48 (G := G) (w := w) (k := k) (σ := up σ3 21 40 0 0 (((bls t N p1 : Nat) : Int) + 1)) (Q := Q) (t := t) (s := s) (n := Cs.length + 1) (f := 0) (by omega) hs7 T3.p (by rw [upp_nf (by decide)]; exact g41) (by omega) (by rw [upp_nf (by decide)]; exact ex42) (by rw [upp_nf (by decide)]; exact ex43) (fun σ' h1 h2 h3 h4 h5 h6 => by
            have cells : ∀ f i, 50 ≤ f → f ≤ 57 → f ≠ 52 → σ' 21 f 0 i = σ2 21 f 0 i := fun f i g1 g2 g3 => by rw [h5 f i g1 g2 g3, upp_nf (by omega)]; exact s32 f i g1 g2
            have e5 := X2.2.2.2.2.2.2.2
            refine qk _ hR'.symm σ' h1 ⟨_, by omega, fun i hi => ?_, rcp σ' cells, by rw [la]; exact h6⟩ ((((hs.trans (SXR_E s2)).trans S3).trans (same.refl.put rfl)).trans h2) h3 h4
            rw [cells 50 _ (by omega) (by omega) (by omega), cells 51 _ (by omega) (by omega) (by omega)]
            exact e5 i hi)
          rw [show (((Cs.length + 1 : Nat) : Int)) = (Cs.length : Int) + 1 by omega] at r
          simp -implicitDefEqProofs only [↓b174_0, ↓b174_9, ↓b174_11, ↓b174_48, ↓b174_52, ↓b174_57, ↓b174_64, ↓b174_71, ↓b174_82, ↓b174_86, ↓b174_91, ↓b174_100, ↓b174_107, ↓b174_118, ↓b174_122, ↓b174_123, ↓b174_137, ↓b174_164, ↓b174_168, ↓b174_169, ↓b174_180, ↓b174_190, ↓b174_196, b174_0, b174_9, b174_11, b174_48, b174_52, b174_57, b174_64, b174_71, b174_82, b174_86, b174_91, b174_100, b174_107, b174_118, b174_122, b174_123, b174_137, b174_164, b174_168, b174_169, b174_180, b174_190, b174_196, nLE3, layE8, h40, t1, g41, ge, n3_173, n3_155, k3_154, r154, n3_153, I32, ↓xb, xb, ps, lpad, lat, aok2, rd2, aaok, aav, alok, alen, aok, akk, csum, isLg, cmpI, clsE, Option.elim, eq_self, List.mem_cons, List.not_mem_nil, or_false, false_or, List.append_nil, List.nil_append, List.cons_append, List.append_eq, List.replicate, List.length_cons, List.length_nil, List.map_cons, List.map_nil, ↓reduceIte, reduceCtorEq, if_true, if_false, true_and, and_true, false_and, and_false, and_self, not_true_eq_false, not_false_eq_true, forall_const, true_implies, false_implies, implies_true, Nat.reduceAdd, Nat.reduceSub, Nat.reduceLT, Nat.reduceLeDiff, Nat.reduceEqDiff, Nat.reduceMul, Nat.reducePow, Nat.add_one_ne_zero, Nat.add_one_sub_one, Nat.add_zero, Nat.zero_add, Int.reduceLT, Int.reduceLE, Int.reduceNeg, Int.reduceAdd, Int.reduceSub, Int.reduceToNat, Int.reduceEq, Int.reduceMul, Int.reducePow, Int.cast_ofNat_Int, Int.toNat_natCast, ne_eq, Bool.false_eq_true, true_or, or_true, or_self, Nat.not_lt_zero, ite_e0, ite_e1, lc_lt, lc_ge, lc_gt, lc_le, lc_eq, Classical.not_not]
          with_reducible repeat' (first | (refine And.intro ?_ ?_) | intro _)
          all_goals try omega
          all_goals first | omega | exact r
        · have ge : ¬ (N : Int) ≤ ((bls t N p1 : Nat) : Int) := fun z => kk32 (k32.mpr (by omega))
          have lt : ((bls t N p1 : Nat) : Int) < (N : Int) := by omega
          rw [if_neg k159, if_neg kk32] at hR'
          have n59 : σ3 21 49 0 (bls t N p1) % 256 ≠ 59 := fun z => k159 (sg.1.mpr ⟨by omega, (X3.1.2.2 _ (by omega)).1.symm.trans z⟩)
          have f0 : ¬ (1 + 8 * ((bls t N p1 : Nat) : Int) = 0) := by omega
          have T4 : FTS (up (up σ3 21 41 0 0 (1 + 8 * ((bls t N p1 : Nat) : Int))) 21 40 0 0 (((bls t N p1 : Nat) : Int) + 1)) t := fun f' i x a b c d => by
            rw [upp_nf (by omega), upp_nf (by omega), upp_nf (show 42 ≠ 40 by decide), upp_nf (show 42 ≠ 41 by decide)]
            exact T3 f' i x a b c d
          have r := kx_r48 (G := G) (w := w) (k := k) (Q := Q) (t := t) (s := s) (n := Cs.length + 1) (f := 1 + 8 * ((bls t N p1 : Nat) : Int)) (by omega) hs7 T4 (by rw [upp_nf (by decide), upp_eq]) (by omega) (by rw [upp_nf (by decide), upp_nf (by decide)]; exact ex42) (by rw [upp_nf (by decide), upp_nf (by decide)]; exact ex43) (fun σ' h1 h2 h3 h4 h5 h6 => by
            rw [if_neg f0] at h4 ⊢
            exact qf _ hR'.symm σ' h1 ((((hs.trans (SXR_E s2)).trans S3).trans ((same.refl.put rfl).put rfl)).trans h2) h3 (by rw [h4, Int.add_zero]))
          rw [show (((Cs.length + 1 : Nat) : Int)) = (Cs.length : Int) + 1 by omega] at r
          have u41 : ∀ v, up σ3 21 41 0 0 v 21 41 0 0 = v := fun v => upp_eq
          have u40 : ∀ v, up σ3 21 41 0 0 v 21 40 0 0 = ((bls t N p1 : Nat) : Int) := fun v => (upp_nf (by decide)).trans h40
          simp -implicitDefEqProofs only [↓b174_0, ↓b174_9, ↓b174_11, ↓b174_48, ↓b174_52, ↓b174_57, ↓b174_64, ↓b174_71, ↓b174_82, ↓b174_86, ↓b174_91, ↓b174_100, ↓b174_107, ↓b174_118, ↓b174_122, ↓b174_123, ↓b174_137, ↓b174_164, ↓b174_168, ↓b174_169, ↓b174_180, ↓b174_190, ↓b174_196, b174_0, b174_9, b174_11, b174_48, b174_52, b174_57, b174_64, b174_71, b174_82, b174_86, b174_91, b174_100, b174_107, b174_118, b174_122, b174_123, b174_137, b174_164, b174_168, b174_169, b174_180, b174_190, b174_196, nLE3, layE8, h40, t1, g41, lt, ge, bs, n59, n3_173, n3_155, k3_154, r154, n3_153, I32, ↓xb, xb, ps, lpad, lat, aok2, rd2, aaok, aav, alok, alen, aok, akk, csum, isLg, cmpI, clsE, Option.elim, eq_self, List.mem_cons, List.not_mem_nil, or_false, false_or, List.append_nil, List.nil_append, List.cons_append, List.append_eq, List.replicate, List.length_cons, List.length_nil, List.map_cons, List.map_nil, ↓reduceIte, reduceCtorEq, if_true, if_false, true_and, and_true, false_and, and_false, and_self, not_true_eq_false, not_false_eq_true, forall_const, true_implies, false_implies, implies_true, Nat.reduceAdd, Nat.reduceSub, Nat.reduceLT, Nat.reduceLeDiff, Nat.reduceEqDiff, Nat.reduceMul, Nat.reducePow, Nat.add_one_ne_zero, Nat.add_one_sub_one, Nat.add_zero, Nat.zero_add, Int.reduceLT, Int.reduceLE, Int.reduceNeg, Int.reduceAdd, Int.reduceSub, Int.reduceToNat, Int.reduceEq, Int.reduceMul, Int.reducePow, Int.cast_ofNat_Int, Int.toNat_natCast, ne_eq, Bool.false_eq_true, true_or, or_true, or_self, Nat.not_lt_zero, ite_e0, ite_e1, lc_lt, lc_ge, lc_gt, lc_le, lc_eq, Classical.not_not]
          with_reducible repeat' (first | (refine And.intro ?_ ?_) | intro _)
          all_goals try omega
          all_goals first | omega | skip
          refine kx_fails0 (x := 0) (by omega) g41 (by omega) (by omega) ?_
          rw [Int.add_zero]
          simp -implicitDefEqProofs only [↓b174_0, ↓b174_9, ↓b174_11, ↓b174_48, ↓b174_52, ↓b174_57, ↓b174_64, ↓b174_71, ↓b174_82, ↓b174_86, ↓b174_91, ↓b174_100, ↓b174_107, ↓b174_118, ↓b174_122, ↓b174_123, ↓b174_137, ↓b174_164, ↓b174_168, ↓b174_169, ↓b174_180, ↓b174_190, ↓b174_196, b174_0, b174_9, b174_11, b174_48, b174_52, b174_57, b174_64, b174_71, b174_82, b174_86, b174_91, b174_100, b174_107, b174_118, b174_122, b174_123, b174_137, b174_164, b174_168, b174_169, b174_180, b174_190, b174_196, nLE3, layE8, u41, u40, f0, n3_173, n3_155, k3_154, r154, n3_153, I32, ↓xb, xb, ps, lpad, lat, aok2, rd2, aaok, aav, alok, alen, aok, akk, csum, isLg, cmpI, clsE, Option.elim, eq_self, List.mem_cons, List.not_mem_nil, or_false, false_or, List.append_nil, List.nil_append, List.cons_append, List.append_eq, List.replicate, List.length_cons, List.length_nil, List.map_cons, List.map_nil, ↓reduceIte, reduceCtorEq, if_true, if_false, true_and, and_true, false_and, and_false, and_self, not_true_eq_false, not_false_eq_true, forall_const, true_implies, false_implies, implies_true, Nat.reduceAdd, Nat.reduceSub, Nat.reduceLT, Nat.reduceLeDiff, Nat.reduceEqDiff, Nat.reduceMul, Nat.reducePow, Nat.add_one_ne_zero, Nat.add_one_sub_one, Nat.add_zero, Nat.zero_add, Int.reduceLT, Int.reduceLE, Int.reduceNeg, Int.reduceAdd, Int.reduceSub, Int.reduceToNat, Int.reduceEq, Int.reduceMul, Int.reducePow, Int.cast_ofNat_Int, Int.toNat_natCast, ne_eq, Bool.false_eq_true, true_or, or_true, or_self, Nat.not_lt_zero, ite_e0, ite_e1, lc_lt, lc_ge, lc_gt, lc_le, lc_eq, Classical.not_not]
          with_reducible repeat' (first | (refine And.intro ?_ ?_) | intro _)
          all_goals try omega
          all_goals first | omega | exact r
    refine TT_vb ok174 (sm3_ok G w) 60 [57, 137] ?_
    simp -implicitDefEqProofs only [↓b174_0, ↓b174_9, ↓b174_11, ↓b174_48, ↓b174_52, ↓b174_57, ↓b174_64, ↓b174_71, ↓b174_82, ↓b174_86, ↓b174_91, ↓b174_100, ↓b174_107, ↓b174_118, ↓b174_122, ↓b174_123, ↓b174_137, ↓b174_164, ↓b174_168, ↓b174_169, ↓b174_180, ↓b174_190, ↓b174_196, b174_0, b174_9, b174_11, b174_48, b174_52, b174_57, b174_64, b174_71, b174_82, b174_86, b174_91, b174_100, b174_107, b174_118, b174_122, b174_123, b174_137, b174_164, b174_168, b174_169, b174_180, b174_190, b174_196, nLE3, layE8, hk, n3_173, n3_155, k3_154, r154, n3_153, I32, ↓xb, xb, ps, lpad, lat, aok2, rd2, aaok, aav, alok, alen, aok, akk, csum, isLg, cmpI, clsE, Option.elim, eq_self, List.mem_cons, List.not_mem_nil, or_false, false_or, List.append_nil, List.nil_append, List.cons_append, List.append_eq, List.replicate, List.length_cons, List.length_nil, List.map_cons, List.map_nil, ↓reduceIte, reduceCtorEq, if_true, if_false, true_and, and_true, false_and, and_false, and_self, not_true_eq_false, not_false_eq_true, forall_const, true_implies, false_implies, implies_true, Nat.reduceAdd, Nat.reduceSub, Nat.reduceLT, Nat.reduceLeDiff, Nat.reduceEqDiff, Nat.reduceMul, Nat.reducePow, Nat.add_one_ne_zero, Nat.add_one_sub_one, Nat.add_zero, Nat.zero_add, Int.reduceLT, Int.reduceLE, Int.reduceNeg, Int.reduceAdd, Int.reduceSub, Int.reduceToNat, Int.reduceEq, Int.reduceMul, Int.reducePow, Int.cast_ofNat_Int, Int.toNat_natCast, ne_eq, Bool.false_eq_true, true_or, or_true, or_self, Nat.not_lt_zero, ite_e0, ite_e1, lc_lt, lc_ge, lc_gt, lc_le, lc_eq, Classical.not_not]
    with_reducible repeat' (first | (refine And.intro ?_ ?_) | intro _)
    all_goals try omega
    all_goals first | omega | skip
    refine kx_clause ht (by omega) hs7 X e45 C hp hc hl hC (fun f ef σ2 F2 s2 => ?_) (fun p1 c1 x ex pe σ2 hpe ebe X2 f45 C2 s2 => ?_)
    · have r := fbd f ef σ2 F2 s2
      simp -implicitDefEqProofs only [↓b174_0, ↓b174_9, ↓b174_11, ↓b174_48, ↓b174_52, ↓b174_57, ↓b174_64, ↓b174_71, ↓b174_82, ↓b174_86, ↓b174_91, ↓b174_100, ↓b174_107, ↓b174_118, ↓b174_122, ↓b174_123, ↓b174_137, ↓b174_164, ↓b174_168, ↓b174_169, ↓b174_180, ↓b174_190, ↓b174_196, b174_0, b174_9, b174_11, b174_48, b174_52, b174_57, b174_64, b174_71, b174_82, b174_86, b174_91, b174_100, b174_107, b174_118, b174_122, b174_123, b174_137, b174_164, b174_168, b174_169, b174_180, b174_190, b174_196, nLE3, layE8, hk, n3_173, n3_155, k3_154, r154, n3_153, I32, ↓xb, xb, ps, lpad, lat, aok2, rd2, aaok, aav, alok, alen, aok, akk, csum, isLg, cmpI, clsE, Option.elim, eq_self, List.mem_cons, List.not_mem_nil, or_false, false_or, List.append_nil, List.nil_append, List.cons_append, List.append_eq, List.replicate, List.length_cons, List.length_nil, List.map_cons, List.map_nil, ↓reduceIte, reduceCtorEq, if_true, if_false, true_and, and_true, false_and, and_false, and_self, not_true_eq_false, not_false_eq_true, forall_const, true_implies, false_implies, implies_true, Nat.reduceAdd, Nat.reduceSub, Nat.reduceLT, Nat.reduceLeDiff, Nat.reduceEqDiff, Nat.reduceMul, Nat.reducePow, Nat.add_one_ne_zero, Nat.add_one_sub_one, Nat.add_zero, Nat.zero_add, Int.reduceLT, Int.reduceLE, Int.reduceNeg, Int.reduceAdd, Int.reduceSub, Int.reduceToNat, Int.reduceEq, Int.reduceMul, Int.reducePow, Int.cast_ofNat_Int, Int.toNat_natCast, ne_eq, Bool.false_eq_true, true_or, or_true, or_self, Nat.not_lt_zero, ite_e0, ite_e1, lc_lt, lc_ge, lc_gt, lc_le, lc_eq, Classical.not_not]
      with_reducible repeat' (first | (refine And.intro ?_ ?_) | intro _)
      all_goals try omega
      all_goals first | omega | exact r _
    · have r := gbd p1 c1 x ex pe σ2 hpe ebe X2 f45 C2 s2
      simp -implicitDefEqProofs only [↓b174_0, ↓b174_9, ↓b174_11, ↓b174_48, ↓b174_52, ↓b174_57, ↓b174_64, ↓b174_71, ↓b174_82, ↓b174_86, ↓b174_91, ↓b174_100, ↓b174_107, ↓b174_118, ↓b174_122, ↓b174_123, ↓b174_137, ↓b174_164, ↓b174_168, ↓b174_169, ↓b174_180, ↓b174_190, ↓b174_196, b174_0, b174_9, b174_11, b174_48, b174_52, b174_57, b174_64, b174_71, b174_82, b174_86, b174_91, b174_100, b174_107, b174_118, b174_122, b174_123, b174_137, b174_164, b174_168, b174_169, b174_180, b174_190, b174_196, nLE3, layE8, hk, n3_173, n3_155, k3_154, r154, n3_153, I32, ↓xb, xb, ps, lpad, lat, aok2, rd2, aaok, aav, alok, alen, aok, akk, csum, isLg, cmpI, clsE, Option.elim, eq_self, List.mem_cons, List.not_mem_nil, or_false, false_or, List.append_nil, List.nil_append, List.cons_append, List.append_eq, List.replicate, List.length_cons, List.length_nil, List.map_cons, List.map_nil, ↓reduceIte, reduceCtorEq, if_true, if_false, true_and, and_true, false_and, and_false, and_self, not_true_eq_false, not_false_eq_true, forall_const, true_implies, false_implies, implies_true, Nat.reduceAdd, Nat.reduceSub, Nat.reduceLT, Nat.reduceLeDiff, Nat.reduceEqDiff, Nat.reduceMul, Nat.reducePow, Nat.add_one_ne_zero, Nat.add_one_sub_one, Nat.add_zero, Nat.zero_add, Int.reduceLT, Int.reduceLE, Int.reduceNeg, Int.reduceAdd, Int.reduceSub, Int.reduceToNat, Int.reduceEq, Int.reduceMul, Int.reducePow, Int.cast_ofNat_Int, Int.toNat_natCast, ne_eq, Bool.false_eq_true, true_or, or_true, or_self, Nat.not_lt_zero, ite_e0, ite_e1, lc_lt, lc_ge, lc_gt, lc_le, lc_eq, Classical.not_not]
      with_reducible repeat' (first | (refine And.intro ?_ ?_) | intro _)
      all_goals try omega
      all_goals first | omega | exact r _
set_option maxRecDepth 100000 in
set_option maxHeartbeats 1000000 in
theorem kx_rule (ht : TR t) (hk : 135 ≤ k) {n : Nat} (e43 : σ 21 43 0 0 = ((n : Nat) : Int)) (hn : n ≤ 7) (e39 : σ 21 39 0 0 = ((N : Nat) : Int)) (hN : N ≤ 400) (hb : ∀ i, i < N → σ 21 49 0 i % 256 = t i ∧ -128 ≤ σ 21 49 0 i ∧ σ 21 49 0 i ≤ 127) (e48 : σ 21 48 0 0 = 15)
    (hF : ∀ f i x, 50 ≤ f → f ≤ 57 → i < 4096 → t (cd f i x) = 1 → σ 21 f 0 i = x ∧ (i : Int) < lowB f * n)
    (qf : ∀ f, pzR t N 13 0 0 [] = .inl f → ∀ σ', FTS σ' t → same SXE σ σ' → σ' 21 39 0 0 = 0 → σ' 21 43 0 0 = ((n : Nat) : Int) → Q (some (vi (-2 - f))) σ')
    (qk : ∀ Cs, pzR t N 13 0 0 [] = .inr Cs → ∀ σ', FTS σ' t → RcG σ' n Cs → same SXE σ σ' → σ' 21 39 0 0 = 0 → σ' 21 43 0 0 = ((n : Nat) : Int) + 1 → Q (some (vi n)) σ') : CC G w w k (0, 0) 174 [vr 21 0 0] σ Q := by
  obtain ⟨σ1, h1⟩ : ∃ σ1, σ1 = up (up (up (up (up (up σ 21 42 0 0 ((n : Nat) : Int)) 21 40 0 0 0) 21 41 0 0 0) 21 44 0 0 0) 21 45 0 0 0) 21 46 0 0 0 := ⟨_, rfl⟩
  have m : ∀ f, f ≠ 40 → f ≠ 41 → f ≠ 42 → f ≠ 44 → f ≠ 45 → f ≠ 46 → ∀ r c, σ1 21 f r c = σ 21 f r c := fun f a b c d e g r c' => by
    rw [h1, upp_nf g, upp_nf e, upp_nf d, upp_nf b, upp_nf a, upp_nf c]
  have m42 : σ1 21 42 0 0 = ((n : Nat) : Int) := by rw [h1, upp_nf (by decide), upp_nf (by decide), upp_nf (by decide), upp_nf (by decide), upp_nf (by decide), upp_eq]
  have m40 : σ1 21 40 0 0 = 0 := by rw [h1, upp_nf (by decide), upp_nf (by decide), upp_nf (by decide), upp_nf (by decide), upp_eq]
  have m41 : σ1 21 41 0 0 = 0 := by rw [h1, upp_nf (by decide), upp_nf (by decide), upp_nf (by decide), upp_eq]
  have m44 : σ1 21 44 0 0 = 0 := by rw [h1, upp_nf (by decide), upp_nf (by decide), upp_eq]
  have m45 : σ1 21 45 0 0 = 0 := by rw [h1, upp_nf (by decide), upp_eq]
  have m46 : σ1 21 46 0 0 = 0 := by rw [h1, upp_eq]
  have S1 : same SXE σ σ1 := by rw [h1]; exact ((((((same.refl.put rfl).put rfl).put rfl).put rfl).put rfl).put rfl)
  have X1 : XSt σ1 t N n 0 0 [] := by
    refine ⟨⟨by rw [m 39 (by decide) (by decide) (by decide) (by decide) (by decide) (by decide)]; exact e39, ⟨hN, fun f i x a b c d => ?_⟩, fun i hi => by rw [m 49 (by decide) (by decide) (by decide) (by decide) (by decide) (by decide)]; exact hb i hi⟩, m40, m41, m42, m44, m46, by rw [m 48 (by decide) (by decide) (by decide) (by decide) (by decide) (by decide)]; exact e48, fun i hi => absurd hi (by simp)⟩
    rw [m f (by omega) (by omega) (by omega) (by omega) (by omega) (by omega), m42]
    exact hF f i x a b c d
  have r := kx_rl (G := G) (w := w) (k := k) (σ := σ1) (Q := Q) (s := n) ht (by omega) hn (fun f ef σ' a b c d => qf f ef σ' a (S1.trans b) c d) (fun Cs ec σ' a a2 b c d => qk Cs ec σ' a a2 (S1.trans b) c d) 13 0 0 [] [] σ1 (Nat.zero_le _) (by omega) (Nat.zero_le _) (Nat.zero_le _) (Nat.le_refl _) X1 m45 (by rw [m 43 (by decide) (by decide) (by decide) (by decide) (by decide) (by decide)]; exact e43) (fun j hj => absurd hj (by simp)) rfl same.refl
  have n8 : ¬ ((n : Int) = 8) := by omega
  rw [h1] at r
  refine CC_vb ok174 (by decide) (sm3_ok G w) 60 [48] (Nat.le_of_ble_eq_true rfl) ?_
  simp -implicitDefEqProofs only [↓b174_0, ↓b174_9, ↓b174_11, ↓b174_48, ↓b174_52, ↓b174_57, ↓b174_64, ↓b174_71, ↓b174_82, ↓b174_86, ↓b174_91, ↓b174_100, ↓b174_107, ↓b174_118, ↓b174_122, ↓b174_123, ↓b174_137, ↓b174_164, ↓b174_168, ↓b174_169, ↓b174_180, ↓b174_190, ↓b174_196, b174_0, b174_9, b174_11, b174_48, b174_52, b174_57, b174_64, b174_71, b174_82, b174_86, b174_91, b174_100, b174_107, b174_118, b174_122, b174_123, b174_137, b174_164, b174_168, b174_169, b174_180, b174_190, b174_196, nLE3, layE8, e43, n8, n3_173, n3_155, k3_154, r154, n3_153, I32, ↓xb, xb, ps, lpad, lat, aok2, rd2, aaok, aav, alok, alen, aok, akk, csum, isLg, cmpI, clsE, Option.elim, eq_self, List.mem_cons, List.not_mem_nil, or_false, false_or, List.append_nil, List.nil_append, List.cons_append, List.append_eq, List.replicate, List.length_cons, List.length_nil, List.map_cons, List.map_nil, ↓reduceIte, reduceCtorEq, if_true, if_false, true_and, and_true, false_and, and_false, and_self, not_true_eq_false, not_false_eq_true, forall_const, true_implies, false_implies, implies_true, Nat.reduceAdd, Nat.reduceSub, Nat.reduceLT, Nat.reduceLeDiff, Nat.reduceEqDiff, Nat.reduceMul, Nat.reducePow, Nat.add_one_ne_zero, Nat.add_one_sub_one, Nat.add_zero, Nat.zero_add, Int.reduceLT, Int.reduceLE, Int.reduceNeg, Int.reduceAdd, Int.reduceSub, Int.reduceToNat, Int.reduceEq, Int.reduceMul, Int.reducePow, Int.cast_ofNat_Int, Int.toNat_natCast, ne_eq, Bool.false_eq_true, true_or, or_true, or_self, Nat.not_lt_zero, ite_e0, ite_e1, lc_lt, lc_ge, lc_gt, lc_le, lc_eq, Classical.not_not]
  with_reducible repeat' (first | (refine And.intro ?_ ?_) | intro _)
  all_goals try omega
  all_goals first | omega | exact r
set_option maxRecDepth 100000 in
set_option maxHeartbeats 1000000 in
theorem kx_rule8 (hk : 10 ≤ k) (e43 : σ 21 43 0 0 = 8) (q : Q (some (vi (-1))) σ) : CC G w w k (0, 0) 174 [vr 21 0 0] σ Q := by
  refine CC_vb ok174 (by decide) (sm3_ok G w) 60 [48] (Nat.le_of_ble_eq_true rfl) ?_
  simp -implicitDefEqProofs only [↓b174_0, ↓b174_9, ↓b174_11, ↓b174_48, ↓b174_52, ↓b174_57, ↓b174_64, ↓b174_71, ↓b174_82, ↓b174_86, ↓b174_91, ↓b174_100, ↓b174_107, ↓b174_118, ↓b174_122, ↓b174_123, ↓b174_137, ↓b174_164, ↓b174_168, ↓b174_169, ↓b174_180, ↓b174_190, ↓b174_196, b174_0, b174_9, b174_11, b174_48, b174_52, b174_57, b174_64, b174_71, b174_82, b174_86, b174_91, b174_100, b174_107, b174_118, b174_122, b174_123, b174_137, b174_164, b174_168, b174_169, b174_180, b174_190, b174_196, nLE3, layE8, e43, n3_173, n3_155, k3_154, r154, n3_153, I32, ↓xb, xb, ps, lpad, lat, aok2, rd2, aaok, aav, alok, alen, aok, akk, csum, isLg, cmpI, clsE, Option.elim, eq_self, List.mem_cons, List.not_mem_nil, or_false, false_or, List.append_nil, List.nil_append, List.cons_append, List.append_eq, List.replicate, List.length_cons, List.length_nil, List.map_cons, List.map_nil, ↓reduceIte, reduceCtorEq, if_true, if_false, true_and, and_true, false_and, and_false, and_self, not_true_eq_false, not_false_eq_true, forall_const, true_implies, false_implies, implies_true, Nat.reduceAdd, Nat.reduceSub, Nat.reduceLT, Nat.reduceLeDiff, Nat.reduceEqDiff, Nat.reduceMul, Nat.reducePow, Nat.add_one_ne_zero, Nat.add_one_sub_one, Nat.add_zero, Nat.zero_add, Int.reduceLT, Int.reduceLE, Int.reduceNeg, Int.reduceAdd, Int.reduceSub, Int.reduceToNat, Int.reduceEq, Int.reduceMul, Int.reducePow, Int.cast_ofNat_Int, Int.toNat_natCast, ne_eq, Bool.false_eq_true, true_or, or_true, or_self, Nat.not_lt_zero, ite_e0, ite_e1, lc_lt, lc_ge, lc_gt, lc_le, lc_eq, Classical.not_not]
  with_reducible repeat' (first | (refine And.intro ?_ ?_) | intro _)
  all_goals try omega
  all_goals first | omega | exact q
end RLX

/-! 68.reachx: the table of joins (check): a set's row -/
abbrev S701 : Nat → Nat → Bool := fun o f => o == 21 && (f == 70 || f == 71)
section RCX
variable {G : Gl} {w : Wd} {k : Nat} {σ : Mem} {Q : Option AV → Mem → Prop} {P : Pt}
theorem MR.s701 {σ' : Mem} (M : MR σ P) (hs : same S701 σ σ') : MR σ' P := M.keep hs (fun f a b => by
  show ((21 : Nat) == 21 && (f == 70 || f == 71)) = false
  simp; omega)
/-- row s of the table: what it is before and after the lines to each house -/
def RW (P : Pt) (n : Nat) (b : Nat → Int) (m x : Nat) (v : Int) : Prop := (∀ o, o < m → v ≤ b o + dP P o x) ∧ ∃ o, o < n ∧ v = b o + dP P o x
set_option maxRecDepth 100000 in
set_option maxHeartbeats 1000000 in
theorem kx_mv_c (M0 : MR σ P) (W : WF P) (hk : 8 ≤ k) {s : Nat} (hs12 : s < 4096)
    (q : ∀ (σ' : Mem), (∀ x, x < (P 2 0).toNat → σ' 21 71 0 x = σ 21 70 0 (12 * s + x)) → (∀ c, σ' 21 70 0 c = σ 21 70 0 c) → same S701 σ σ' → TT G w w w k (0, 0) 221 32 [some (vr 21 0 0), some (vi s), some (vi (P 2 0)), some (vi 0), none, none] [] σ' Q) :
    ∀ (m : Nat) (i : Int) (σ' : Mem), 0 ≤ i → i ≤ P 2 0 → P 2 0 < i + m → (∀ x, x < i.toNat → σ' 21 71 0 x = σ 21 70 0 (12 * s + x)) → (∀ c, σ' 21 70 0 c = σ 21 70 0 c) → same S701 σ σ' →
      TT G w w w k (0, 0) 221 2 [some (vr 21 0 0), some (vi s), some (vi (P 2 0)), some (vi i), none, none] [] σ' Q
  | 0, i, σ', h0, h1, h2, _, _, _ => by omega
  | m + 1, i, σ', h0, h1, h2, hc, h7, hs => by
    have ih := kx_mv_c M0 W hk hs12 q m (i + 1)
    have w1 := W.sc.1
    have ix : (12 * (s : Int) + i).toNat = 12 * s + i.toNat := by omega
    by_cases hi : i < P 2 0
    · refine TT_vb ok221 (sm3_ok G w) 60 [2, 32] ?_
      simp -implicitDefEqProofs only [↓b221_0, ↓b221_2, ↓b221_7, ↓b221_30, ↓b221_32, ↓b221_37, ↓b221_40, ↓b221_46, ↓b221_60, ↓b221_89, ↓b221_94, ↓b221_105, ↓b221_112, ↓b221_118, b221_0, b221_2, b221_7, b221_30, b221_32, b221_37, b221_40, b221_46, b221_60, b221_89, b221_94, b221_105, b221_112, b221_118, nLE4, layE8, ix, k3_133, r133, I32, ↓xb, xb, ps, lpad, lat, aok2, rd2, aaok, aav, alok, alen, aok, akk, csum, isLg, cmpI, clsE, Option.elim, eq_self, List.mem_cons, List.not_mem_nil, or_false, false_or, List.append_nil, List.nil_append, List.cons_append, List.append_eq, List.replicate, List.length_cons, List.length_nil, List.map_cons, List.map_nil, ↓reduceIte, reduceCtorEq, if_true, if_false, true_and, and_true, false_and, and_false, and_self, not_true_eq_false, not_false_eq_true, forall_const, true_implies, false_implies, implies_true, Nat.reduceAdd, Nat.reduceSub, Nat.reduceLT, Nat.reduceLeDiff, Nat.reduceEqDiff, Nat.reduceMul, Nat.reducePow, Nat.add_one_ne_zero, Nat.add_one_sub_one, Nat.add_zero, Nat.zero_add, Int.reduceLT, Int.reduceLE, Int.reduceNeg, Int.reduceAdd, Int.reduceSub, Int.reduceToNat, Int.reduceEq, Int.reduceMul, Int.reducePow, Int.cast_ofNat_Int, Int.toNat_natCast, ne_eq, Bool.false_eq_true, true_or, or_true, or_self, Nat.not_lt_zero, ite_e0, ite_e1, lc_lt, lc_ge, lc_gt, lc_le, lc_eq, Classical.not_not]
      with_reducible repeat' (first | (refine And.intro ?_ ?_) | intro _)
      all_goals try omega
      all_goals first | omega | skip
      refine ih _ (by omega) (by omega) (by omega) (fun x hx => ?_) (fun c => ?_) (hs.put rfl)
      · by_cases e : x = i.toNat
        · subst e; rw [upp_eq]; exact h7 _
        · rw [upp_nc e]; exact hc x (by omega)
      · rw [upp_nf (by decide)]; exact h7 c
    · have e : i = P 2 0 := by omega
      refine TT_vb ok221 (sm3_ok G w) 60 [2, 32] ?_
      simp -implicitDefEqProofs only [↓b221_0, ↓b221_2, ↓b221_7, ↓b221_30, ↓b221_32, ↓b221_37, ↓b221_40, ↓b221_46, ↓b221_60, ↓b221_89, ↓b221_94, ↓b221_105, ↓b221_112, ↓b221_118, b221_0, b221_2, b221_7, b221_30, b221_32, b221_37, b221_40, b221_46, b221_60, b221_89, b221_94, b221_105, b221_112, b221_118, nLE4, layE8, hk, k3_133, r133, I32, ↓xb, xb, ps, lpad, lat, aok2, rd2, aaok, aav, alok, alen, aok, akk, csum, isLg, cmpI, clsE, Option.elim, eq_self, List.mem_cons, List.not_mem_nil, or_false, false_or, List.append_nil, List.nil_append, List.cons_append, List.append_eq, List.replicate, List.length_cons, List.length_nil, List.map_cons, List.map_nil, ↓reduceIte, reduceCtorEq, if_true, if_false, true_and, and_true, false_and, and_false, and_self, not_true_eq_false, not_false_eq_true, forall_const, true_implies, false_implies, implies_true, Nat.reduceAdd, Nat.reduceSub, Nat.reduceLT, Nat.reduceLeDiff, Nat.reduceEqDiff, Nat.reduceMul, Nat.reducePow, Nat.add_one_ne_zero, Nat.add_one_sub_one, Nat.add_zero, Nat.zero_add, Int.reduceLT, Int.reduceLE, Int.reduceNeg, Int.reduceAdd, Int.reduceSub, Int.reduceToNat, Int.reduceEq, Int.reduceMul, Int.reducePow, Int.cast_ofNat_Int, Int.toNat_natCast, ne_eq, Bool.false_eq_true, true_or, or_true, or_self, Nat.not_lt_zero, ite_e0, ite_e1, lc_lt, lc_ge, lc_gt, lc_le, lc_eq, Classical.not_not]
      with_reducible repeat' (first | (refine And.intro ?_ ?_) | intro _)
      all_goals try omega
      all_goals first | omega | exact q σ' (fun x hx => hc x (by omega)) h7 hs
set_option maxRecDepth 100000 in
set_option maxHeartbeats 1000000 in
theorem kx_mv_i (W : WF P) (hk : 10 ≤ k) {s : Nat} (hs12 : s < 4096) {h : Int} (hh : 0 ≤ h ∧ h < P 2 0) {b : Nat → Int} (hb : ∀ x, x < (P 2 0).toNat → 0 ≤ b x ∧ b x ≤ 99999)
    (q : ∀ (σ' : Mem) (v : Int) (l5 : Option AV), RW P (P 2 0).toNat b (P 2 0).toNat h.toNat v → MR σ' P → (∀ c, σ' 21 70 0 c = if c = 12 * s + h.toNat then v else σ 21 70 0 c) → (∀ x, σ' 21 71 0 x = σ 21 71 0 x) → same S701 σ σ' → TT G w w w k (0, 0) 221 112 [some (vr 21 0 0), some (vi s), some (vi (P 2 0)), some (vi h), some (vi (P 2 0)), l5] [] σ' Q) (h71 : ∀ x, x < (P 2 0).toNat → σ 21 71 0 x = b x) :
    ∀ (m : Nat) (o v : Int) (σ' : Mem) (l5 : Option AV), 0 ≤ o → o ≤ P 2 0 → P 2 0 < o + m → RW P (P 2 0).toNat b o.toNat h.toNat v → 0 ≤ v → v ≤ 99999 → MR σ' P → (∀ c, σ' 21 70 0 c = if c = 12 * s + h.toNat then v else σ 21 70 0 c) → (∀ x, σ' 21 71 0 x = σ 21 71 0 x) → same S701 σ σ' →
      TT G w w w k (0, 0) 221 40 [some (vr 21 0 0), some (vi s), some (vi (P 2 0)), some (vi h), some (vi o), l5] [] σ' Q
  | 0, o, v, σ', l5, h0, h1, h2, _, _, _, _, _, _, _ => by omega
  | m + 1, o, v, σ', l5, h0, h1, h2, hr, v0, v1, M, hc, h7, hs => by
    have ih := kx_mv_i W hk hs12 hh hb q h71 m (o + 1)
    have w1 := W.sc.1
    have ix : (12 * (s : Int) + h).toNat = 12 * s + h.toNat := by omega
    by_cases hi : o < P 2 0
    · have x1 := M.xy W (a := o) (by omega)
      have x2 := M.xy W (a := h) (by omega)
      have x3 := M.far_m (a := o) (b := h)
      have fr := farP_r W (a := o) (b := h) (by omega) (by omega)
      have ed : dP P o.toNat h.toNat = farP P o h := by
        unfold dP
        rw [show ((o.toNat : Nat) : Int) = o by omega, show ((h.toNat : Nat) : Int) = h by omega]
      have e1 : σ' 21 71 0 o.toNat = b o.toNat := (h7 _).trans (h71 _ (by omega))
      have e2 : σ' 21 70 0 (12 * s + h.toNat) = v := (hc _).trans (if_pos rfl)
      have br := hb o.toNat (by omega)
      have fin : ∀ v', v' = min v (b o.toNat + farP P o h) → TT G w w w k (0, 0) 221 40 [some (vr 21 0 0), some (vi s), some (vi (P 2 0)), some (vi h), some (vi (o + 1)), some (vi (b o.toNat + farP P o h))] [] (up σ' 21 70 0 (12 * s + h.toNat) v') Q := fun v' e => by
        refine ih v' _ _ (by omega) (by omega) (by omega) ⟨fun y hy => ?_, ?_⟩ (by omega) (by omega) ?_ (fun c => ?_) (fun x => ?_) (hs.put rfl)
        · by_cases c : y = o.toNat
          · rw [c, ed]; omega
          · have := hr.1 y (by omega)
            omega
        · by_cases c : v ≤ b o.toNat + farP P o h
          · rw [show v' = v by omega]; exact hr.2
          · exact ⟨o.toNat, by omega, by rw [ed]; omega⟩
        · exact M.s701 (same.put same.refl rfl)
        · by_cases c' : c = 12 * s + h.toNat
          · rw [if_pos c', c', upp_eq]
          · rw [if_neg c', upp_nc c', hc, if_neg c']
        · rw [upp_nf (by decide)]; exact h7 x
      by_cases c : v ≤ b o.toNat + farP P o h
      · have f := fin v (by omega)
        refine TT_vb ok221 (sm3_ok G w) 60 [40, 112] ?_
        simp -implicitDefEqProofs only [↓b221_0, ↓b221_2, ↓b221_7, ↓b221_30, ↓b221_32, ↓b221_37, ↓b221_40, ↓b221_46, ↓b221_60, ↓b221_89, ↓b221_94, ↓b221_105, ↓b221_112, ↓b221_118, b221_0, b221_2, b221_7, b221_30, b221_32, b221_37, b221_40, b221_46, b221_60, b221_89, b221_94, b221_105, b221_112, b221_118, nLE4, layE8, ix, x1, x2, x3, e1, e2, k3_133, r133, I32, ↓xb, xb, ps, lpad, lat, aok2, rd2, aaok, aav, alok, alen, aok, akk, csum, isLg, cmpI, clsE, Option.elim, eq_self, List.mem_cons, List.not_mem_nil, or_false, false_or, List.append_nil, List.nil_append, List.cons_append, List.append_eq, List.replicate, List.length_cons, List.length_nil, List.map_cons, List.map_nil, ↓reduceIte, reduceCtorEq, if_true, if_false, true_and, and_true, false_and, and_false, and_self, not_true_eq_false, not_false_eq_true, forall_const, true_implies, false_implies, implies_true, Nat.reduceAdd, Nat.reduceSub, Nat.reduceLT, Nat.reduceLeDiff, Nat.reduceEqDiff, Nat.reduceMul, Nat.reducePow, Nat.add_one_ne_zero, Nat.add_one_sub_one, Nat.add_zero, Nat.zero_add, Int.reduceLT, Int.reduceLE, Int.reduceNeg, Int.reduceAdd, Int.reduceSub, Int.reduceToNat, Int.reduceEq, Int.reduceMul, Int.reducePow, Int.cast_ofNat_Int, Int.toNat_natCast, ne_eq, Bool.false_eq_true, true_or, or_true, or_self, Nat.not_lt_zero, ite_e0, ite_e1, lc_lt, lc_ge, lc_gt, lc_le, lc_eq, Classical.not_not]
        with_reducible repeat' (first | (refine And.intro ?_ ?_) | intro _)
        all_goals try omega
        all_goals first | omega | exact f
      · have f := fin (b o.toNat + farP P o h) (by omega)
        refine TT_vb ok221 (sm3_ok G w) 60 [40, 112] ?_
        simp -implicitDefEqProofs only [↓b221_0, ↓b221_2, ↓b221_7, ↓b221_30, ↓b221_32, ↓b221_37, ↓b221_40, ↓b221_46, ↓b221_60, ↓b221_89, ↓b221_94, ↓b221_105, ↓b221_112, ↓b221_118, b221_0, b221_2, b221_7, b221_30, b221_32, b221_37, b221_40, b221_46, b221_60, b221_89, b221_94, b221_105, b221_112, b221_118, nLE4, layE8, ix, x1, x2, x3, e1, e2, k3_133, r133, I32, ↓xb, xb, ps, lpad, lat, aok2, rd2, aaok, aav, alok, alen, aok, akk, csum, isLg, cmpI, clsE, Option.elim, eq_self, List.mem_cons, List.not_mem_nil, or_false, false_or, List.append_nil, List.nil_append, List.cons_append, List.append_eq, List.replicate, List.length_cons, List.length_nil, List.map_cons, List.map_nil, ↓reduceIte, reduceCtorEq, if_true, if_false, true_and, and_true, false_and, and_false, and_self, not_true_eq_false, not_false_eq_true, forall_const, true_implies, false_implies, implies_true, Nat.reduceAdd, Nat.reduceSub, Nat.reduceLT, Nat.reduceLeDiff, Nat.reduceEqDiff, Nat.reduceMul, Nat.reducePow, Nat.add_one_ne_zero, Nat.add_one_sub_one, Nat.add_zero, Nat.zero_add, Int.reduceLT, Int.reduceLE, Int.reduceNeg, Int.reduceAdd, Int.reduceSub, Int.reduceToNat, Int.reduceEq, Int.reduceMul, Int.reducePow, Int.cast_ofNat_Int, Int.toNat_natCast, ne_eq, Bool.false_eq_true, true_or, or_true, or_self, Nat.not_lt_zero, ite_e0, ite_e1, lc_lt, lc_ge, lc_gt, lc_le, lc_eq, Classical.not_not]
        with_reducible repeat' (first | (refine And.intro ?_ ?_) | intro _)
        all_goals try omega
        all_goals first | omega | exact f
    · have e : o = P 2 0 := by omega
      subst e
      have r := q σ' v l5 hr M hc h7 hs
      refine TT_vb ok221 (sm3_ok G w) 60 [40, 112] ?_
      simp -implicitDefEqProofs only [↓b221_0, ↓b221_2, ↓b221_7, ↓b221_30, ↓b221_32, ↓b221_37, ↓b221_40, ↓b221_46, ↓b221_60, ↓b221_89, ↓b221_94, ↓b221_105, ↓b221_112, ↓b221_118, b221_0, b221_2, b221_7, b221_30, b221_32, b221_37, b221_40, b221_46, b221_60, b221_89, b221_94, b221_105, b221_112, b221_118, nLE4, layE8, hk, k3_133, r133, I32, ↓xb, xb, ps, lpad, lat, aok2, rd2, aaok, aav, alok, alen, aok, akk, csum, isLg, cmpI, clsE, Option.elim, eq_self, List.mem_cons, List.not_mem_nil, or_false, false_or, List.append_nil, List.nil_append, List.cons_append, List.append_eq, List.replicate, List.length_cons, List.length_nil, List.map_cons, List.map_nil, ↓reduceIte, reduceCtorEq, if_true, if_false, true_and, and_true, false_and, and_false, and_self, not_true_eq_false, not_false_eq_true, forall_const, true_implies, false_implies, implies_true, Nat.reduceAdd, Nat.reduceSub, Nat.reduceLT, Nat.reduceLeDiff, Nat.reduceEqDiff, Nat.reduceMul, Nat.reducePow, Nat.add_one_ne_zero, Nat.add_one_sub_one, Nat.add_zero, Nat.zero_add, Int.reduceLT, Int.reduceLE, Int.reduceNeg, Int.reduceAdd, Int.reduceSub, Int.reduceToNat, Int.reduceEq, Int.reduceMul, Int.reducePow, Int.cast_ofNat_Int, Int.toNat_natCast, ne_eq, Bool.false_eq_true, true_or, or_true, or_self, Nat.not_lt_zero, ite_e0, ite_e1, lc_lt, lc_ge, lc_gt, lc_le, lc_eq, Classical.not_not]
      with_reducible repeat' (first | (refine And.intro ?_ ?_) | intro _)
      all_goals try omega
      all_goals first | omega | exact r
set_option maxRecDepth 100000 in
set_option maxHeartbeats 1000000 in
theorem kx_mv_o (W : WF P) (hk : 12 ≤ k) {s : Nat} (hs12 : s < 4096) {b : Nat → Int} (hb : ∀ x, x < (P 2 0).toNat → 0 ≤ b x ∧ b x ≤ 99999)
    (q : ∀ (σ' : Mem), (∀ x, x < (P 2 0).toNat → RW P (P 2 0).toNat b (P 2 0).toNat x (σ' 21 70 0 (12 * s + x))) → MR σ' P → (∀ c, c < 12 * s → σ' 21 70 0 c = σ 21 70 0 c) → same S701 σ σ' → Q none σ') :
    ∀ (m : Nat) (h : Int) (σ' : Mem) (l4 l5 : Option AV), 0 ≤ h → h ≤ P 2 0 → P 2 0 < h + m → (∀ x, x < h.toNat → RW P (P 2 0).toNat b (P 2 0).toNat x (σ' 21 70 0 (12 * s + x))) → (∀ x, x < (P 2 0).toNat → h.toNat ≤ x → σ' 21 70 0 (12 * s + x) = b x) → (∀ x, x < (P 2 0).toNat → σ' 21 71 0 x = b x) → MR σ' P → (∀ c, c < 12 * s → σ' 21 70 0 c = σ 21 70 0 c) → same S701 σ σ' →
      TT G w w w k (0, 0) 221 32 [some (vr 21 0 0), some (vi s), some (vi (P 2 0)), some (vi h), l4, l5] [] σ' Q
  | 0, h, σ', l4, l5, h0, h1, h2, _, _, _, _, _, _ => by omega
  | m + 1, h, σ', l4, l5, h0, h1, h2, hd, hr, h7, M, hc, hs => by
    have ih := kx_mv_o W hk hs12 hb q m (h + 1)
    have w1 := W.sc.1
    by_cases hi : h < P 2 0
    · refine TT_vb ok221 (sm3_ok G w) 60 [32, 40] ?_
      simp -implicitDefEqProofs only [↓b221_0, ↓b221_2, ↓b221_7, ↓b221_30, ↓b221_32, ↓b221_37, ↓b221_40, ↓b221_46, ↓b221_60, ↓b221_89, ↓b221_94, ↓b221_105, ↓b221_112, ↓b221_118, b221_0, b221_2, b221_7, b221_30, b221_32, b221_37, b221_40, b221_46, b221_60, b221_89, b221_94, b221_105, b221_112, b221_118, nLE4, layE8, hk, k3_133, r133, I32, ↓xb, xb, ps, lpad, lat, aok2, rd2, aaok, aav, alok, alen, aok, akk, csum, isLg, cmpI, clsE, Option.elim, eq_self, List.mem_cons, List.not_mem_nil, or_false, false_or, List.append_nil, List.nil_append, List.cons_append, List.append_eq, List.replicate, List.length_cons, List.length_nil, List.map_cons, List.map_nil, ↓reduceIte, reduceCtorEq, if_true, if_false, true_and, and_true, false_and, and_false, and_self, not_true_eq_false, not_false_eq_true, forall_const, true_implies, false_implies, implies_true, Nat.reduceAdd, Nat.reduceSub, Nat.reduceLT, Nat.reduceLeDiff, Nat.reduceEqDiff, Nat.reduceMul, Nat.reducePow, Nat.add_one_ne_zero, Nat.add_one_sub_one, Nat.add_zero, Nat.zero_add, Int.reduceLT, Int.reduceLE, Int.reduceNeg, Int.reduceAdd, Int.reduceSub, Int.reduceToNat, Int.reduceEq, Int.reduceMul, Int.reducePow, Int.cast_ofNat_Int, Int.toNat_natCast, ne_eq, Bool.false_eq_true, true_or, or_true, or_self, Nat.not_lt_zero, ite_e0, ite_e1, lc_lt, lc_ge, lc_gt, lc_le, lc_eq, Classical.not_not]
      with_reducible repeat' (first | (refine And.intro ?_ ?_) | intro _)
      all_goals try omega
      all_goals first | omega | skip
      have bh := hb h.toNat (by omega)
      refine kx_mv_i (σ := σ') W (by omega) hs12 ⟨h0, hi⟩ hb (fun σ1 v l5' r1 M1 c1 c71 s1 => ?_) h7 ((P 2 0).toNat + 1) 0 (b h.toNat) σ' _ (by omega) (by omega) (by omega) ⟨fun o ho => absurd ho (by omega), h.toNat, by omega, ?_⟩ bh.1 bh.2 M (fun c => ?_) (fun x => rfl) same.refl
      · refine TT_vb ok221 (sm3_ok G w) 60 [32, 40] ?_
        simp -implicitDefEqProofs only [↓b221_0, ↓b221_2, ↓b221_7, ↓b221_30, ↓b221_32, ↓b221_37, ↓b221_40, ↓b221_46, ↓b221_60, ↓b221_89, ↓b221_94, ↓b221_105, ↓b221_112, ↓b221_118, b221_0, b221_2, b221_7, b221_30, b221_32, b221_37, b221_40, b221_46, b221_60, b221_89, b221_94, b221_105, b221_112, b221_118, nLE4, layE8, hk, k3_133, r133, I32, ↓xb, xb, ps, lpad, lat, aok2, rd2, aaok, aav, alok, alen, aok, akk, csum, isLg, cmpI, clsE, Option.elim, eq_self, List.mem_cons, List.not_mem_nil, or_false, false_or, List.append_nil, List.nil_append, List.cons_append, List.append_eq, List.replicate, List.length_cons, List.length_nil, List.map_cons, List.map_nil, ↓reduceIte, reduceCtorEq, if_true, if_false, true_and, and_true, false_and, and_false, and_self, not_true_eq_false, not_false_eq_true, forall_const, true_implies, false_implies, implies_true, Nat.reduceAdd, Nat.reduceSub, Nat.reduceLT, Nat.reduceLeDiff, Nat.reduceEqDiff, Nat.reduceMul, Nat.reducePow, Nat.add_one_ne_zero, Nat.add_one_sub_one, Nat.add_zero, Nat.zero_add, Int.reduceLT, Int.reduceLE, Int.reduceNeg, Int.reduceAdd, Int.reduceSub, Int.reduceToNat, Int.reduceEq, Int.reduceMul, Int.reducePow, Int.cast_ofNat_Int, Int.toNat_natCast, ne_eq, Bool.false_eq_true, true_or, or_true, or_self, Nat.not_lt_zero, ite_e0, ite_e1, lc_lt, lc_ge, lc_gt, lc_le, lc_eq, Classical.not_not]
        with_reducible repeat' (first | (refine And.intro ?_ ?_) | intro _)
        all_goals try omega
        all_goals first | omega | skip
        refine ih σ1 _ _ (by omega) (by omega) (by omega) (fun x hx => ?_) (fun x hx hl => ?_) (fun x hx => (c71 x).trans (h7 x hx)) M1 (fun c hl => ?_) (hs.trans s1)
        · by_cases e : x = h.toNat
          · rw [c1, if_pos (by omega), e]; exact r1
          · rw [c1, if_neg (by omega)]; exact hd x (by omega)
        · rw [c1, if_neg (by omega)]; exact hr x hx (by omega)
        · rw [c1, if_neg (by omega)]; exact hc c hl
      · have := (met_d (P := P)).2.1 h.toNat
        omega
      · by_cases e : c = 12 * s + h.toNat
        · rw [if_pos e, e]; exact hr _ (by omega) (Nat.le_refl _)
        · rw [if_neg e]
    · have e : h = P 2 0 := by omega
      have r := q σ' (fun x hx => hd x (by omega)) M hc hs
      refine TT_vb ok221 (sm3_ok G w) 60 [32, 40] ?_
      simp -implicitDefEqProofs only [↓b221_0, ↓b221_2, ↓b221_7, ↓b221_30, ↓b221_32, ↓b221_37, ↓b221_40, ↓b221_46, ↓b221_60, ↓b221_89, ↓b221_94, ↓b221_105, ↓b221_112, ↓b221_118, b221_0, b221_2, b221_7, b221_30, b221_32, b221_37, b221_40, b221_46, b221_60, b221_89, b221_94, b221_105, b221_112, b221_118, nLE4, layE8, hk, k3_133, r133, I32, ↓xb, xb, ps, lpad, lat, aok2, rd2, aaok, aav, alok, alen, aok, akk, csum, isLg, cmpI, clsE, Option.elim, eq_self, List.mem_cons, List.not_mem_nil, or_false, false_or, List.append_nil, List.nil_append, List.cons_append, List.append_eq, List.replicate, List.length_cons, List.length_nil, List.map_cons, List.map_nil, ↓reduceIte, reduceCtorEq, if_true, if_false, true_and, and_true, false_and, and_false, and_self, not_true_eq_false, not_false_eq_true, forall_const, true_implies, false_implies, implies_true, Nat.reduceAdd, Nat.reduceSub, Nat.reduceLT, Nat.reduceLeDiff, Nat.reduceEqDiff, Nat.reduceMul, Nat.reducePow, Nat.add_one_ne_zero, Nat.add_one_sub_one, Nat.add_zero, Nat.zero_add, Int.reduceLT, Int.reduceLE, Int.reduceNeg, Int.reduceAdd, Int.reduceSub, Int.reduceToNat, Int.reduceEq, Int.reduceMul, Int.reducePow, Int.cast_ofNat_Int, Int.toNat_natCast, ne_eq, Bool.false_eq_true, true_or, or_true, or_self, Nat.not_lt_zero, ite_e0, ite_e1, lc_lt, lc_ge, lc_gt, lc_le, lc_eq, Classical.not_not]
      with_reducible repeat' (first | (refine And.intro ?_ ?_) | intro _)
      all_goals try omega
      all_goals first | omega | exact r
set_option maxRecDepth 100000 in
set_option maxHeartbeats 1000000 in
theorem kx_mv (M : MR σ P) (W : WF P) (hk : 14 ≤ k) {s : Nat} (hs12 : s < 4096) (hb : ∀ x, x < (P 2 0).toNat → 0 ≤ σ 21 70 0 (12 * s + x) ∧ σ 21 70 0 (12 * s + x) ≤ 99999)
    (q : ∀ (σ' : Mem), (∀ x, x < (P 2 0).toNat → RW P (P 2 0).toNat (fun o => σ 21 70 0 (12 * s + o)) (P 2 0).toNat x (σ' 21 70 0 (12 * s + x))) → MR σ' P → (∀ c, c < 12 * s → σ' 21 70 0 c = σ 21 70 0 c) → same S701 σ σ' → Q none σ') : CC G w w k (0, 0) 221 [vr 21 0 0, vi s, vi (P 2 0)] σ Q := by
  have w1 := W.sc.1
  refine CC_vb ok221 (by decide) (sm3_ok G w) 60 [2] (Nat.le_of_ble_eq_true rfl) ?_
  simp -implicitDefEqProofs only [↓b221_0, ↓b221_2, ↓b221_7, ↓b221_30, ↓b221_32, ↓b221_37, ↓b221_40, ↓b221_46, ↓b221_60, ↓b221_89, ↓b221_94, ↓b221_105, ↓b221_112, ↓b221_118, b221_0, b221_2, b221_7, b221_30, b221_32, b221_37, b221_40, b221_46, b221_60, b221_89, b221_94, b221_105, b221_112, b221_118, nLE4, layE8, hk, k3_133, r133, I32, ↓xb, xb, ps, lpad, lat, aok2, rd2, aaok, aav, alok, alen, aok, akk, csum, isLg, cmpI, clsE, Option.elim, eq_self, List.mem_cons, List.not_mem_nil, or_false, false_or, List.append_nil, List.nil_append, List.cons_append, List.append_eq, List.replicate, List.length_cons, List.length_nil, List.map_cons, List.map_nil, ↓reduceIte, reduceCtorEq, if_true, if_false, true_and, and_true, false_and, and_false, and_self, not_true_eq_false, not_false_eq_true, forall_const, true_implies, false_implies, implies_true, Nat.reduceAdd, Nat.reduceSub, Nat.reduceLT, Nat.reduceLeDiff, Nat.reduceEqDiff, Nat.reduceMul, Nat.reducePow, Nat.add_one_ne_zero, Nat.add_one_sub_one, Nat.add_zero, Nat.zero_add, Int.reduceLT, Int.reduceLE, Int.reduceNeg, Int.reduceAdd, Int.reduceSub, Int.reduceToNat, Int.reduceEq, Int.reduceMul, Int.reducePow, Int.cast_ofNat_Int, Int.toNat_natCast, ne_eq, Bool.false_eq_true, true_or, or_true, or_self, Nat.not_lt_zero, ite_e0, ite_e1, lc_lt, lc_ge, lc_gt, lc_le, lc_eq, Classical.not_not]
  with_reducible repeat' (first | (refine And.intro ?_ ?_) | intro _)
  all_goals try omega
  all_goals first | omega | skip
  refine kx_mv_c M W (by omega) hs12 (fun σ1 h71 h70 s1 => ?_) ((P 2 0).toNat + 1) 0 σ (by omega) (by omega) (by omega) (fun x hx => absurd hx (by omega)) (fun c => rfl) same.refl
  refine kx_mv_o W (by omega) hs12 hb (fun σ2 a1 a2 a3 s2 => q σ2 a1 a2 (fun c hc => (a3 c hc).trans (h70 c)) (s1.trans s2)) ((P 2 0).toNat + 1) 0 σ1 _ _ (by omega) (by omega) (by omega) (fun x hx => absurd hx (by omega)) (fun x hx _ => h70 _) h71 (M.s701 s1) (fun c hc => rfl) same.refl
end RCX

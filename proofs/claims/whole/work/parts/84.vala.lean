/-! 84.vala: a value (check) -/
section VLA
variable {G : Gl} {w : Wd} {k : Nat} {σ : Mem} {Q : Option AV → Mem → Prop} {t : Nat → Int} {N s : Nat}
theorem XSt.move {p p' c : Nat} {LL : List (Nat × Int)} (X : XSt σ t N s p c LL) {σ' : Mem} (hs : same S401 σ σ') (h0 : σ' 21 40 0 0 = ((p' : Nat) : Int)) (h1 : σ' 21 41 0 0 = 0) : XSt σ' t N s p' c LL := by
  obtain ⟨T, e40, e41, e42, e44, e46, e48, e5⟩ := X
  exact ⟨T.keep hs rfl rfl, h0, h1, (hs 21 42 rfl 0 0).trans e42, (hs 21 44 rfl 0 0).trans e44, (hs 21 46 rfl 0 0).trans e46, (hs 21 48 rfl 0 0).trans e48, fun i hi => by rw [hs 21 50 rfl, hs 21 51 rfl]; exact e5 i hi⟩
theorem S401_q {σ' : Mem} (h : same S401 σ σ') : same SXq σ σ' := h.mono (fun o f z => by
  have z' : (o == 21 && (f == 40 || f == 41)) = true := z
  show (o == 21 && (f == 40 || f == 41 || f == 44 || f == 46 || f == 50 || f == 51)) = true
  simp only [Bool.and_eq_true, Bool.or_eq_true] at z' ⊢
  exact ⟨z'.1, by rcases z'.2 with h | h <;> simp [h]⟩)
theorem S40_1 {σ' : Mem} (h : same S40 σ σ') : same S401 σ σ' := h.mono (fun o f z => by
  have z' : (o == 21 && f == 40) = true := z
  show (o == 21 && (f == 40 || f == 41)) = true
  simp only [Bool.and_eq_true, Bool.or_eq_true] at z' ⊢
  exact ⟨z'.1, Or.inl z'.2⟩)
/-! a word there is the token there -/
theorem isW_tk {b v : Nat} (hv : v < 23) (h : isW t b (le t N b) (wi v)) : b < N ∧ isLt (t b) = true ∧ tkB t N b = ((v : Nat) : Int) ∧ teB t N b = le t N b := by
  have l1 := (ws_ch v hv).2.1
  have h1 := h.1
  have hl : b < N ∧ isLt (t b) = true := Classical.byContradiction fun z => by
    have e : le t N b = b := sc_off z
    omega
  have hw := (wdT_iff (t := t) (f := b) (e := le t N b) hv).mpr h
  refine ⟨hl.1, hl.2, ?_, ?_⟩
  · unfold tkB
    rw [if_neg (by omega), if_pos hl.2, hw]
  · unfold teB
    rw [if_neg (by omega), if_pos hl.2]
theorem tk_word {b v : Nat} (ht : TR t) (hv : v < 23) (h : tkB t N b = ((v : Nat) : Int)) : isW t b (le t N b) (wi v) ∨ v = 23 := by
  have hb := ht b
  unfold tkB at h
  split at h
  · omega
  · split at h
    · exact Or.inl ((wdT_iff hv).mp (by omega))
    · split at h
      · omega
      · split at h
        · split at h <;> omega
        · omega
set_option maxRecDepth 100000 in
set_option maxHeartbeats 1000000 in
theorem kx_vw (ht : TR t) (hk : 14 ≤ k) {b : Nat} (T : TXx σ t N) (hb : b ≤ N) (e40 : σ 21 40 0 0 = ((b : Nat) : Int)) (e48 : σ 21 48 0 0 = 15)
    (q : ∀ v : Nat, v ≤ 15 → (∀ j, j < v → ¬ isW t b (le t N b) (j + 5)) → (v < 15 → isW t b (le t N b) (v + 5)) → TT G w w w k (0, 0) 162 63 [some (vr 21 0 0), some (vi b), some (vi v)] [] σ Q) :
    ∀ (m v : Nat), v + m = 15 → (∀ j, j < v → ¬ isW t b (le t N b) (j + 5)) → TT G w w w k (0, 0) 162 38 [some (vr 21 0 0), some (vi b), some (vi v)] [] σ Q
  | 0, v, hv, h => by
    have r := q v (by omega) h (fun z => absurd z (by omega))
    refine TT_vb ok162 (sm3_ok G w) 60 [38, 63] ?_
    simp -implicitDefEqProofs only [↓b162_0, ↓b162_4, ↓b162_13, ↓b162_16, ↓b162_23, ↓b162_29, ↓b162_35, ↓b162_36, ↓b162_38, ↓b162_46, ↓b162_51, ↓b162_54, ↓b162_57, ↓b162_63, ↓b162_71, ↓b162_77, ↓b162_78, ↓b162_83, ↓b162_95, ↓b162_105, b162_0, b162_4, b162_13, b162_16, b162_23, b162_29, b162_35, b162_36, b162_38, b162_46, b162_51, b162_54, b162_57, b162_63, b162_71, b162_77, b162_78, b162_83, b162_95, b162_105, nLE3, layE8, e48, n3_155, k3_156, r156, n3_161, n3_160, n3_159, n3_151, n3_157, n3_153, I32, ↓xb, xb, ps, lpad, lat, aok2, rd2, aaok, aav, alok, alen, aok, akk, csum, isLg, cmpI, clsE, Option.elim, eq_self, List.mem_cons, List.not_mem_nil, or_false, false_or, List.append_nil, List.nil_append, List.cons_append, List.append_eq, List.replicate, List.length_cons, List.length_nil, List.map_cons, List.map_nil, ↓reduceIte, reduceCtorEq, if_true, if_false, true_and, and_true, false_and, and_false, and_self, not_true_eq_false, not_false_eq_true, forall_const, true_implies, false_implies, implies_true, Nat.reduceAdd, Nat.reduceSub, Nat.reduceLT, Nat.reduceLeDiff, Nat.reduceEqDiff, Nat.reduceMul, Nat.reducePow, Nat.add_one_ne_zero, Nat.add_one_sub_one, Nat.add_zero, Nat.zero_add, Int.reduceLT, Int.reduceLE, Int.reduceNeg, Int.reduceAdd, Int.reduceSub, Int.reduceToNat, Int.reduceEq, Int.reduceMul, Int.reducePow, Int.cast_ofNat_Int, Int.toNat_natCast, ne_eq, Bool.false_eq_true, true_or, or_true, or_self, Nat.not_lt_zero, ite_e0, ite_e1, lc_lt, lc_ge, lc_gt, lc_le, lc_eq, Classical.not_not]
    with_reducible repeat' (first | (refine And.intro ?_ ?_) | intro _)
    all_goals try omega
    all_goals first | omega | exact r
  | m + 1, v, hv, h => by
    have ih := kx_vw ht hk T hb e40 e48 q m (v + 1)
    rw [show ((v + 1 : Nat) : Int) = (v : Int) + 1 by omega] at ih
    refine TT_vb ok162 (sm3_ok G w) 60 [38, 63] ?_
    simp -implicitDefEqProofs only [↓b162_0, ↓b162_4, ↓b162_13, ↓b162_16, ↓b162_23, ↓b162_29, ↓b162_35, ↓b162_36, ↓b162_38, ↓b162_46, ↓b162_51, ↓b162_54, ↓b162_57, ↓b162_63, ↓b162_71, ↓b162_77, ↓b162_78, ↓b162_83, ↓b162_95, ↓b162_105, b162_0, b162_4, b162_13, b162_16, b162_23, b162_29, b162_35, b162_36, b162_38, b162_46, b162_51, b162_54, b162_57, b162_63, b162_71, b162_77, b162_78, b162_83, b162_95, b162_105, nLE3, layE8, e48, n3_155, k3_156, r156, n3_161, n3_160, n3_159, n3_151, n3_157, n3_153, I32, ↓xb, xb, ps, lpad, lat, aok2, rd2, aaok, aav, alok, alen, aok, akk, csum, isLg, cmpI, clsE, Option.elim, eq_self, List.mem_cons, List.not_mem_nil, or_false, false_or, List.append_nil, List.nil_append, List.cons_append, List.append_eq, List.replicate, List.length_cons, List.length_nil, List.map_cons, List.map_nil, ↓reduceIte, reduceCtorEq, if_true, if_false, true_and, and_true, false_and, and_false, and_self, not_true_eq_false, not_false_eq_true, forall_const, true_implies, false_implies, implies_true, Nat.reduceAdd, Nat.reduceSub, Nat.reduceLT, Nat.reduceLeDiff, Nat.reduceEqDiff, Nat.reduceMul, Nat.reducePow, Nat.add_one_ne_zero, Nat.add_one_sub_one, Nat.add_zero, Nat.zero_add, Int.reduceLT, Int.reduceLE, Int.reduceNeg, Int.reduceAdd, Int.reduceSub, Int.reduceToNat, Int.reduceEq, Int.reduceMul, Int.reducePow, Int.cast_ofNat_Int, Int.toNat_natCast, ne_eq, Bool.false_eq_true, true_or, or_true, or_self, Nat.not_lt_zero, ite_e0, ite_e1, lc_lt, lc_ge, lc_gt, lc_le, lc_eq, Classical.not_not]
    with_reducible repeat' (first | (refine And.intro ?_ ?_) | intro _)
    all_goals try omega
    all_goals first | omega | skip
    refine kx_wordOf (by omega) (by omega) ?_
    rw [Int.toNat_natCast]
    simp -implicitDefEqProofs only [↓b162_0, ↓b162_4, ↓b162_13, ↓b162_16, ↓b162_23, ↓b162_29, ↓b162_35, ↓b162_36, ↓b162_38, ↓b162_46, ↓b162_51, ↓b162_54, ↓b162_57, ↓b162_63, ↓b162_71, ↓b162_77, ↓b162_78, ↓b162_83, ↓b162_95, ↓b162_105, b162_0, b162_4, b162_13, b162_16, b162_23, b162_29, b162_35, b162_36, b162_38, b162_46, b162_51, b162_54, b162_57, b162_63, b162_71, b162_77, b162_78, b162_83, b162_95, b162_105, nLE3, layE8, hk, n3_155, k3_156, r156, n3_161, n3_160, n3_159, n3_151, n3_157, n3_153, I32, ↓xb, xb, ps, lpad, lat, aok2, rd2, aaok, aav, alok, alen, aok, akk, csum, isLg, cmpI, clsE, Option.elim, eq_self, List.mem_cons, List.not_mem_nil, or_false, false_or, List.append_nil, List.nil_append, List.cons_append, List.append_eq, List.replicate, List.length_cons, List.length_nil, List.map_cons, List.map_nil, ↓reduceIte, reduceCtorEq, if_true, if_false, true_and, and_true, false_and, and_false, and_self, not_true_eq_false, not_false_eq_true, forall_const, true_implies, false_implies, implies_true, Nat.reduceAdd, Nat.reduceSub, Nat.reduceLT, Nat.reduceLeDiff, Nat.reduceEqDiff, Nat.reduceMul, Nat.reducePow, Nat.add_one_ne_zero, Nat.add_one_sub_one, Nat.add_zero, Nat.zero_add, Int.reduceLT, Int.reduceLE, Int.reduceNeg, Int.reduceAdd, Int.reduceSub, Int.reduceToNat, Int.reduceEq, Int.reduceMul, Int.reducePow, Int.cast_ofNat_Int, Int.toNat_natCast, ne_eq, Bool.false_eq_true, true_or, or_true, or_self, Nat.not_lt_zero, ite_e0, ite_e1, lc_lt, lc_ge, lc_gt, lc_le, lc_eq, Classical.not_not]
    with_reducible repeat' (first | (refine And.intro ?_ ?_) | intro _)
    all_goals try omega
    all_goals first | omega | skip
    rw [show 1005 + v = 1000 + (v + 5) by omega]
    refine kx_stands T (by omega) (by omega) hb e40 (fun y => ?_) (fun y => ?_)
    · have r := q v (by omega) h (fun _ => y)
      simp -implicitDefEqProofs only [↓b162_0, ↓b162_4, ↓b162_13, ↓b162_16, ↓b162_23, ↓b162_29, ↓b162_35, ↓b162_36, ↓b162_38, ↓b162_46, ↓b162_51, ↓b162_54, ↓b162_57, ↓b162_63, ↓b162_71, ↓b162_77, ↓b162_78, ↓b162_83, ↓b162_95, ↓b162_105, b162_0, b162_4, b162_13, b162_16, b162_23, b162_29, b162_35, b162_36, b162_38, b162_46, b162_51, b162_54, b162_57, b162_63, b162_71, b162_77, b162_78, b162_83, b162_95, b162_105, nLE3, layE8, hk, n3_155, k3_156, r156, n3_161, n3_160, n3_159, n3_151, n3_157, n3_153, I32, ↓xb, xb, ps, lpad, lat, aok2, rd2, aaok, aav, alok, alen, aok, akk, csum, isLg, cmpI, clsE, Option.elim, eq_self, List.mem_cons, List.not_mem_nil, or_false, false_or, List.append_nil, List.nil_append, List.cons_append, List.append_eq, List.replicate, List.length_cons, List.length_nil, List.map_cons, List.map_nil, ↓reduceIte, reduceCtorEq, if_true, if_false, true_and, and_true, false_and, and_false, and_self, not_true_eq_false, not_false_eq_true, forall_const, true_implies, false_implies, implies_true, Nat.reduceAdd, Nat.reduceSub, Nat.reduceLT, Nat.reduceLeDiff, Nat.reduceEqDiff, Nat.reduceMul, Nat.reducePow, Nat.add_one_ne_zero, Nat.add_one_sub_one, Nat.add_zero, Nat.zero_add, Int.reduceLT, Int.reduceLE, Int.reduceNeg, Int.reduceAdd, Int.reduceSub, Int.reduceToNat, Int.reduceEq, Int.reduceMul, Int.reducePow, Int.cast_ofNat_Int, Int.toNat_natCast, ne_eq, Bool.false_eq_true, true_or, or_true, or_self, Nat.not_lt_zero, ite_e0, ite_e1, lc_lt, lc_ge, lc_gt, lc_le, lc_eq, Classical.not_not]
      with_reducible repeat' (first | (refine And.intro ?_ ?_) | intro _)
      all_goals try omega
      all_goals first | omega | exact r
    · have r := ih (by omega) (fun j hj => by
        by_cases z : j = v
        · rw [z]; exact y
        · exact h j (by omega))
      simp -implicitDefEqProofs only [↓b162_0, ↓b162_4, ↓b162_13, ↓b162_16, ↓b162_23, ↓b162_29, ↓b162_35, ↓b162_36, ↓b162_38, ↓b162_46, ↓b162_51, ↓b162_54, ↓b162_57, ↓b162_63, ↓b162_71, ↓b162_77, ↓b162_78, ↓b162_83, ↓b162_95, ↓b162_105, b162_0, b162_4, b162_13, b162_16, b162_23, b162_29, b162_35, b162_36, b162_38, b162_46, b162_51, b162_54, b162_57, b162_63, b162_71, b162_77, b162_78, b162_83, b162_95, b162_105, nLE3, layE8, hk, n3_155, k3_156, r156, n3_161, n3_160, n3_159, n3_151, n3_157, n3_153, I32, ↓xb, xb, ps, lpad, lat, aok2, rd2, aaok, aav, alok, alen, aok, akk, csum, isLg, cmpI, clsE, Option.elim, eq_self, List.mem_cons, List.not_mem_nil, or_false, false_or, List.append_nil, List.nil_append, List.cons_append, List.append_eq, List.replicate, List.length_cons, List.length_nil, List.map_cons, List.map_nil, ↓reduceIte, reduceCtorEq, if_true, if_false, true_and, and_true, false_and, and_false, and_self, not_true_eq_false, not_false_eq_true, forall_const, true_implies, false_implies, implies_true, Nat.reduceAdd, Nat.reduceSub, Nat.reduceLT, Nat.reduceLeDiff, Nat.reduceEqDiff, Nat.reduceMul, Nat.reducePow, Nat.add_one_ne_zero, Nat.add_one_sub_one, Nat.add_zero, Nat.zero_add, Int.reduceLT, Int.reduceLE, Int.reduceNeg, Int.reduceAdd, Int.reduceSub, Int.reduceToNat, Int.reduceEq, Int.reduceMul, Int.reducePow, Int.cast_ofNat_Int, Int.toNat_natCast, ne_eq, Bool.false_eq_true, true_or, or_true, or_self, Nat.not_lt_zero, ite_e0, ite_e1, lc_lt, lc_ge, lc_gt, lc_le, lc_eq, Classical.not_not]
      with_reducible repeat' (first | (refine And.intro ?_ ?_) | intro _)
      all_goals try omega
      all_goals first | omega | exact r
end VLA

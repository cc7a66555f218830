/-! 70.reachx3: reach (check), whole -/
section RCZ
variable {G : Gl} {w : Wd} {k : Nat} {σ : Mem} {Q : Option AV → Mem → Prop} {P : Pt}
set_option maxRecDepth 100000 in
set_option maxHeartbeats 1000000 in
theorem kx_js (M0 : MR σ P) (W : WF P) (hk : 20 ≤ k) {set : Nat} (hset : set < 2 ^ (P 2 0).toNat)
    (q : ∀ (σ' : Mem) (l3 l4 l5 l6 l7 : Option AV), TJ P (P 2 0).toNat set (σ' 21 70 0) (set + 1) → MR σ' P → same S701 σ σ' → TT G w w w k (0, 0) 220 162 [some (vr 21 0 0), some (vi set), some (vi (P 2 0)), l3, l4, l5, l6, l7] [] σ' Q) :
    ∀ (m : Nat) (s : Nat) (σ' : Mem) (l4 l5 l6 l7 : Option AV), 1 ≤ s → s ≤ set + 1 → set + 1 < s + m → TJ P (P 2 0).toNat set (σ' 21 70 0) s → MR σ' P → same S701 σ σ' →
      TT G w w w k (0, 0) 220 21 [some (vr 21 0 0), some (vi set), some (vi (P 2 0)), some (vi s), l4, l5, l6, l7] [] σ' Q
  | 0, s, σ', l4, l5, l6, l7, h0, h1, h2, _, _, _ => by omega
  | m + 1, s, σ', l4, l5, l6, l7, h0, h1, h2, hT, M, hs => by
    have ih := kx_js M0 W hk hset q m (s + 1)
    have w1 := W.sc.1
    have pw : 2 ^ (P 2 0).toNat ≤ 2 ^ 12 := Nat.pow_le_pow_right (by omega) (by omega)
    have ec : ((s + 1 : Nat) : Int) = (s : Int) + 1 := by omega
    rw [ec] at ih
    by_cases hi : s ≤ set
    · have bi := band_in (s := (s : Int)) (a := (set : Int)) (by omega) (by omega)
      rw [Int.toNat_natCast, Int.toNat_natCast] at bi
      by_cases c : s &&& set = s
      · have c' := bi.mpr c
        have s0 : s ≠ 0 := by omega
        refine TT_vb ok220 (sm3_ok G w) 60 [21, 37, 162] ?_
        simp -implicitDefEqProofs only [↓b220_0, ↓b220_11, ↓b220_17, ↓b220_19, ↓b220_21, ↓b220_26, ↓b220_34, ↓b220_37, ↓b220_43, ↓b220_51, ↓b220_55, ↓b220_58, ↓b220_67, ↓b220_72, ↓b220_110, ↓b220_115, ↓b220_117, ↓b220_130, ↓b220_150, ↓b220_156, ↓b220_162, ↓b220_166, ↓b220_170, ↓b220_173, ↓b220_177, ↓b220_183, ↓b220_187, ↓b220_203, ↓b220_218, ↓b220_219, ↓b220_226, b220_0, b220_11, b220_17, b220_19, b220_21, b220_26, b220_34, b220_37, b220_43, b220_51, b220_55, b220_58, b220_67, b220_72, b220_110, b220_115, b220_117, b220_130, b220_150, b220_156, b220_162, b220_166, b220_170, b220_173, b220_177, b220_183, b220_187, b220_203, b220_218, b220_219, b220_226, nLE4, layE8, c', n3_221, I32, ↓xb, xb, ps, lpad, lat, aok2, rd2, aaok, aav, alok, alen, aok, akk, csum, isLg, cmpI, clsE, Option.elim, eq_self, List.mem_cons, List.not_mem_nil, or_false, false_or, List.append_nil, List.nil_append, List.cons_append, List.append_eq, List.replicate, List.length_cons, List.length_nil, List.map_cons, List.map_nil, ↓reduceIte, reduceCtorEq, if_true, if_false, true_and, and_true, false_and, and_false, and_self, not_true_eq_false, not_false_eq_true, forall_const, true_implies, false_implies, implies_true, Nat.reduceAdd, Nat.reduceSub, Nat.reduceLT, Nat.reduceLeDiff, Nat.reduceEqDiff, Nat.reduceMul, Nat.reducePow, Nat.add_one_ne_zero, Nat.add_one_sub_one, Nat.add_zero, Nat.zero_add, Int.reduceLT, Int.reduceLE, Int.reduceNeg, Int.reduceAdd, Int.reduceSub, Int.reduceToNat, Int.reduceEq, Int.reduceMul, Int.reducePow, Int.cast_ofNat_Int, Int.toNat_natCast, ne_eq, Bool.false_eq_true, true_or, or_true, or_self, Nat.not_lt_zero, ite_e0, ite_e1, lc_lt, lc_ge, lc_gt, lc_le, lc_eq, Classical.not_not]
        with_reducible repeat' (first | (refine And.intro ?_ ?_) | intro _)
        all_goals try omega
        all_goals first | omega | skip
        have sub : ∀ a, a &&& s = a → a &&& set = a := fun a ha => by
          rw [← ha, Nat.and_assoc, c]
        refine kx_jh (σ := σ') (by omega) (by omega) (by omega) s0 (fun a x a0 al ai hx => hT.1 a x al hx a0 (sub a ai)) (fun σ1 l5' l6' l7' hb hc s1 => ?_) ((P 2 0).toNat + 1) 0 σ' _ _ _ (by omega) (by omega) (by omega) (fun x hx => absurd hx (by omega)) (fun c _ => rfl) same.refl
        have M1 := M.s701 s1
        refine TT_vb ok220 (sm3_ok G w) 60 [21, 37, 162] ?_
        simp -implicitDefEqProofs only [↓b220_0, ↓b220_11, ↓b220_17, ↓b220_19, ↓b220_21, ↓b220_26, ↓b220_34, ↓b220_37, ↓b220_43, ↓b220_51, ↓b220_55, ↓b220_58, ↓b220_67, ↓b220_72, ↓b220_110, ↓b220_115, ↓b220_117, ↓b220_130, ↓b220_150, ↓b220_156, ↓b220_162, ↓b220_166, ↓b220_170, ↓b220_173, ↓b220_177, ↓b220_183, ↓b220_187, ↓b220_203, ↓b220_218, ↓b220_219, ↓b220_226, b220_0, b220_11, b220_17, b220_19, b220_21, b220_26, b220_34, b220_37, b220_43, b220_51, b220_55, b220_58, b220_67, b220_72, b220_110, b220_115, b220_117, b220_130, b220_150, b220_156, b220_162, b220_166, b220_170, b220_173, b220_177, b220_183, b220_187, b220_203, b220_218, b220_219, b220_226, nLE4, layE8, hk, n3_221, I32, ↓xb, xb, ps, lpad, lat, aok2, rd2, aaok, aav, alok, alen, aok, akk, csum, isLg, cmpI, clsE, Option.elim, eq_self, List.mem_cons, List.not_mem_nil, or_false, false_or, List.append_nil, List.nil_append, List.cons_append, List.append_eq, List.replicate, List.length_cons, List.length_nil, List.map_cons, List.map_nil, ↓reduceIte, reduceCtorEq, if_true, if_false, true_and, and_true, false_and, and_false, and_self, not_true_eq_false, not_false_eq_true, forall_const, true_implies, false_implies, implies_true, Nat.reduceAdd, Nat.reduceSub, Nat.reduceLT, Nat.reduceLeDiff, Nat.reduceEqDiff, Nat.reduceMul, Nat.reducePow, Nat.add_one_ne_zero, Nat.add_one_sub_one, Nat.add_zero, Nat.zero_add, Int.reduceLT, Int.reduceLE, Int.reduceNeg, Int.reduceAdd, Int.reduceSub, Int.reduceToNat, Int.reduceEq, Int.reduceMul, Int.reducePow, Int.cast_ofNat_Int, Int.toNat_natCast, ne_eq, Bool.false_eq_true, true_or, or_true, or_self, Nat.not_lt_zero, ite_e0, ite_e1, lc_lt, lc_ge, lc_gt, lc_le, lc_eq, Classical.not_not]
        with_reducible repeat' (first | (refine And.intro ?_ ?_) | intro _)
        all_goals try omega
        all_goals first | omega | skip
        refine kx_mv M1 W (by omega) (by omega) (fun x hx => (hb x hx).1) (fun σ2 hr M2 hc2 s2 => ?_)
        simp -implicitDefEqProofs only [↓b220_0, ↓b220_11, ↓b220_17, ↓b220_19, ↓b220_21, ↓b220_26, ↓b220_34, ↓b220_37, ↓b220_43, ↓b220_51, ↓b220_55, ↓b220_58, ↓b220_67, ↓b220_72, ↓b220_110, ↓b220_115, ↓b220_117, ↓b220_130, ↓b220_150, ↓b220_156, ↓b220_162, ↓b220_166, ↓b220_170, ↓b220_173, ↓b220_177, ↓b220_183, ↓b220_187, ↓b220_203, ↓b220_218, ↓b220_219, ↓b220_226, b220_0, b220_11, b220_17, b220_19, b220_21, b220_26, b220_34, b220_37, b220_43, b220_51, b220_55, b220_58, b220_67, b220_72, b220_110, b220_115, b220_117, b220_130, b220_150, b220_156, b220_162, b220_166, b220_170, b220_173, b220_177, b220_183, b220_187, b220_203, b220_218, b220_219, b220_226, nLE4, layE8, hk, n3_221, I32, ↓xb, xb, ps, lpad, lat, aok2, rd2, aaok, aav, alok, alen, aok, akk, csum, isLg, cmpI, clsE, Option.elim, eq_self, List.mem_cons, List.not_mem_nil, or_false, false_or, List.append_nil, List.nil_append, List.cons_append, List.append_eq, List.replicate, List.length_cons, List.length_nil, List.map_cons, List.map_nil, ↓reduceIte, reduceCtorEq, if_true, if_false, true_and, and_true, false_and, and_false, and_self, not_true_eq_false, not_false_eq_true, forall_const, true_implies, false_implies, implies_true, Nat.reduceAdd, Nat.reduceSub, Nat.reduceLT, Nat.reduceLeDiff, Nat.reduceEqDiff, Nat.reduceMul, Nat.reducePow, Nat.add_one_ne_zero, Nat.add_one_sub_one, Nat.add_zero, Nat.zero_add, Int.reduceLT, Int.reduceLE, Int.reduceNeg, Int.reduceAdd, Int.reduceSub, Int.reduceToNat, Int.reduceEq, Int.reduceMul, Int.reducePow, Int.cast_ofNat_Int, Int.toNat_natCast, ne_eq, Bool.false_eq_true, true_or, or_true, or_self, Nat.not_lt_zero, ite_e0, ite_e1, lc_lt, lc_ge, lc_gt, lc_le, lc_eq, Classical.not_not]
        with_reducible repeat' (first | (refine And.intro ?_ ?_) | intro _)
        all_goals try omega
        all_goals first | omega | skip
        exact ih σ2 _ _ _ _ (by omega) (by omega) (by omega) (hT.step (by omega) s0 c hb (fun c hl => (hc2 c hl).trans (hc c hl)) hr) M2 ((hs.trans s1).trans s2)
      · have c' : ¬ band (s : Int) (bxor set (-1)) = 0 := fun z => c (bi.mp z)
        refine TT_vb ok220 (sm3_ok G w) 60 [21, 37, 162] ?_
        simp -implicitDefEqProofs only [↓b220_0, ↓b220_11, ↓b220_17, ↓b220_19, ↓b220_21, ↓b220_26, ↓b220_34, ↓b220_37, ↓b220_43, ↓b220_51, ↓b220_55, ↓b220_58, ↓b220_67, ↓b220_72, ↓b220_110, ↓b220_115, ↓b220_117, ↓b220_130, ↓b220_150, ↓b220_156, ↓b220_162, ↓b220_166, ↓b220_170, ↓b220_173, ↓b220_177, ↓b220_183, ↓b220_187, ↓b220_203, ↓b220_218, ↓b220_219, ↓b220_226, b220_0, b220_11, b220_17, b220_19, b220_21, b220_26, b220_34, b220_37, b220_43, b220_51, b220_55, b220_58, b220_67, b220_72, b220_110, b220_115, b220_117, b220_130, b220_150, b220_156, b220_162, b220_166, b220_170, b220_173, b220_177, b220_183, b220_187, b220_203, b220_218, b220_219, b220_226, nLE4, layE8, c', n3_221, I32, ↓xb, xb, ps, lpad, lat, aok2, rd2, aaok, aav, alok, alen, aok, akk, csum, isLg, cmpI, clsE, Option.elim, eq_self, List.mem_cons, List.not_mem_nil, or_false, false_or, List.append_nil, List.nil_append, List.cons_append, List.append_eq, List.replicate, List.length_cons, List.length_nil, List.map_cons, List.map_nil, ↓reduceIte, reduceCtorEq, if_true, if_false, true_and, and_true, false_and, and_false, and_self, not_true_eq_false, not_false_eq_true, forall_const, true_implies, false_implies, implies_true, Nat.reduceAdd, Nat.reduceSub, Nat.reduceLT, Nat.reduceLeDiff, Nat.reduceEqDiff, Nat.reduceMul, Nat.reducePow, Nat.add_one_ne_zero, Nat.add_one_sub_one, Nat.add_zero, Nat.zero_add, Int.reduceLT, Int.reduceLE, Int.reduceNeg, Int.reduceAdd, Int.reduceSub, Int.reduceToNat, Int.reduceEq, Int.reduceMul, Int.reducePow, Int.cast_ofNat_Int, Int.toNat_natCast, ne_eq, Bool.false_eq_true, true_or, or_true, or_self, Nat.not_lt_zero, ite_e0, ite_e1, lc_lt, lc_ge, lc_gt, lc_le, lc_eq, Classical.not_not]
        with_reducible repeat' (first | (refine And.intro ?_ ?_) | intro _)
        all_goals try omega
        all_goals first | omega | exact ih σ' _ _ _ _ (by omega) (by omega) (by omega) (hT.skip c) M hs
    · have e : s = set + 1 := by omega
      subst e
      have r := fun l3 => q σ' l3 l4 l5 l6 l7 hT M hs
      refine TT_vb ok220 (sm3_ok G w) 60 [21, 37, 162] ?_
      simp -implicitDefEqProofs only [↓b220_0, ↓b220_11, ↓b220_17, ↓b220_19, ↓b220_21, ↓b220_26, ↓b220_34, ↓b220_37, ↓b220_43, ↓b220_51, ↓b220_55, ↓b220_58, ↓b220_67, ↓b220_72, ↓b220_110, ↓b220_115, ↓b220_117, ↓b220_130, ↓b220_150, ↓b220_156, ↓b220_162, ↓b220_166, ↓b220_170, ↓b220_173, ↓b220_177, ↓b220_183, ↓b220_187, ↓b220_203, ↓b220_218, ↓b220_219, ↓b220_226, b220_0, b220_11, b220_17, b220_19, b220_21, b220_26, b220_34, b220_37, b220_43, b220_51, b220_55, b220_58, b220_67, b220_72, b220_110, b220_115, b220_117, b220_130, b220_150, b220_156, b220_162, b220_166, b220_170, b220_173, b220_177, b220_183, b220_187, b220_203, b220_218, b220_219, b220_226, nLE4, layE8, hk, n3_221, I32, ↓xb, xb, ps, lpad, lat, aok2, rd2, aaok, aav, alok, alen, aok, akk, csum, isLg, cmpI, clsE, Option.elim, eq_self, List.mem_cons, List.not_mem_nil, or_false, false_or, List.append_nil, List.nil_append, List.cons_append, List.append_eq, List.replicate, List.length_cons, List.length_nil, List.map_cons, List.map_nil, ↓reduceIte, reduceCtorEq, if_true, if_false, true_and, and_true, false_and, and_false, and_self, not_true_eq_false, not_false_eq_true, forall_const, true_implies, false_implies, implies_true, Nat.reduceAdd, Nat.reduceSub, Nat.reduceLT, Nat.reduceLeDiff, Nat.reduceEqDiff, Nat.reduceMul, Nat.reducePow, Nat.add_one_ne_zero, Nat.add_one_sub_one, Nat.add_zero, Nat.zero_add, Int.reduceLT, Int.reduceLE, Int.reduceNeg, Int.reduceAdd, Int.reduceSub, Int.reduceToNat, Int.reduceEq, Int.reduceMul, Int.reducePow, Int.cast_ofNat_Int, Int.toNat_natCast, ne_eq, Bool.false_eq_true, true_or, or_true, or_self, Nat.not_lt_zero, ite_e0, ite_e1, lc_lt, lc_ge, lc_gt, lc_le, lc_eq, Classical.not_not]
      with_reducible repeat' (first | (refine And.intro ?_ ?_) | intro _)
      all_goals try omega
      all_goals first | omega | exact r _
set_option maxRecDepth 100000 in
set_option maxHeartbeats 1000000 in
theorem kx_jm (hk : 6 ≤ k) {set : Nat} {n : Int} (hn : 0 ≤ n ∧ n ≤ 12) (hset : set < 4096) (hs0 : set ≠ 0) {l5 l6 l7 : Option AV}
    (q : ∀ a, (∀ x, x < n.toNat → a ≤ σ 21 70 0 (12 * set + x)) → a ≤ 99999 → ((∃ x, x < n.toNat ∧ a = σ 21 70 0 (12 * set + x)) ∨ a = 99999) → Q (some (vi a)) σ) :
    ∀ (m : Nat) (h a : Int), 0 ≤ h → h ≤ n → n < h + m → (∀ x, x < h.toNat → a ≤ σ 21 70 0 (12 * set + x)) → a ≤ 99999 → ((∃ x, x < n.toNat ∧ a = σ 21 70 0 (12 * set + x)) ∨ a = 99999) →
      TT G w w w k (0, 0) 220 177 [some (vr 21 0 0), some (vi set), some (vi n), some (vi a), some (vi h), l5, l6, l7] [] σ Q
  | 0, h, a, h0, h1, h2, _, _, _ => by omega
  | m + 1, h, a, h0, h1, h2, hl, hf, ho => by
    have ih := kx_jm hk (l5 := l5) (l6 := l6) (l7 := l7) hn hset hs0 q m (h + 1)
    have ix : (12 * (set : Int) + h).toNat = 12 * set + h.toNat := by omega
    have ps : ¬ (set : Int) ≤ 0 := by clear ho; omega
    by_cases hi : h < n
    · by_cases c : a ≤ σ 21 70 0 (12 * set + h.toNat)
      · have f := ih a (by omega) (by omega) (by omega) (fun x hx => by
          by_cases e : x = h.toNat
          · rw [e]; exact c
          · exact hl x (by omega)) hf ho
        refine TT_vb ok220 (sm3_ok G w) 60 [177] ?_
        simp -implicitDefEqProofs only [↓b220_0, ↓b220_11, ↓b220_17, ↓b220_19, ↓b220_21, ↓b220_26, ↓b220_34, ↓b220_37, ↓b220_43, ↓b220_51, ↓b220_55, ↓b220_58, ↓b220_67, ↓b220_72, ↓b220_110, ↓b220_115, ↓b220_117, ↓b220_130, ↓b220_150, ↓b220_156, ↓b220_162, ↓b220_166, ↓b220_170, ↓b220_173, ↓b220_177, ↓b220_183, ↓b220_187, ↓b220_203, ↓b220_218, ↓b220_219, ↓b220_226, b220_0, b220_11, b220_17, b220_19, b220_21, b220_26, b220_34, b220_37, b220_43, b220_51, b220_55, b220_58, b220_67, b220_72, b220_110, b220_115, b220_117, b220_130, b220_150, b220_156, b220_162, b220_166, b220_170, b220_173, b220_177, b220_183, b220_187, b220_203, b220_218, b220_219, b220_226, nLE4, layE8, ix, ps, n3_221, I32, ↓xb, xb, ps, lpad, lat, aok2, rd2, aaok, aav, alok, alen, aok, akk, csum, isLg, cmpI, clsE, Option.elim, eq_self, List.mem_cons, List.not_mem_nil, or_false, false_or, List.append_nil, List.nil_append, List.cons_append, List.append_eq, List.replicate, List.length_cons, List.length_nil, List.map_cons, List.map_nil, ↓reduceIte, reduceCtorEq, if_true, if_false, true_and, and_true, false_and, and_false, and_self, not_true_eq_false, not_false_eq_true, forall_const, true_implies, false_implies, implies_true, Nat.reduceAdd, Nat.reduceSub, Nat.reduceLT, Nat.reduceLeDiff, Nat.reduceEqDiff, Nat.reduceMul, Nat.reducePow, Nat.add_one_ne_zero, Nat.add_one_sub_one, Nat.add_zero, Nat.zero_add, Int.reduceLT, Int.reduceLE, Int.reduceNeg, Int.reduceAdd, Int.reduceSub, Int.reduceToNat, Int.reduceEq, Int.reduceMul, Int.reducePow, Int.cast_ofNat_Int, Int.toNat_natCast, ne_eq, Bool.false_eq_true, true_or, or_true, or_self, Nat.not_lt_zero, ite_e0, ite_e1, lc_lt, lc_ge, lc_gt, lc_le, lc_eq, Classical.not_not]
        with_reducible repeat' (first | (refine And.intro ?_ ?_) | intro _)
        all_goals try omega
        all_goals first | omega | exact f
      · have f := ih (σ 21 70 0 (12 * set + h.toNat)) (by omega) (by omega) (by omega) (fun x hx => by
          by_cases e : x = h.toNat
          · rw [e]; exact Int.le_refl _
          · have := hl x (by omega)
            omega) (by omega) (Or.inl ⟨h.toNat, by omega, rfl⟩)
        refine TT_vb ok220 (sm3_ok G w) 60 [177] ?_
        simp -implicitDefEqProofs only [↓b220_0, ↓b220_11, ↓b220_17, ↓b220_19, ↓b220_21, ↓b220_26, ↓b220_34, ↓b220_37, ↓b220_43, ↓b220_51, ↓b220_55, ↓b220_58, ↓b220_67, ↓b220_72, ↓b220_110, ↓b220_115, ↓b220_117, ↓b220_130, ↓b220_150, ↓b220_156, ↓b220_162, ↓b220_166, ↓b220_170, ↓b220_173, ↓b220_177, ↓b220_183, ↓b220_187, ↓b220_203, ↓b220_218, ↓b220_219, ↓b220_226, b220_0, b220_11, b220_17, b220_19, b220_21, b220_26, b220_34, b220_37, b220_43, b220_51, b220_55, b220_58, b220_67, b220_72, b220_110, b220_115, b220_117, b220_130, b220_150, b220_156, b220_162, b220_166, b220_170, b220_173, b220_177, b220_183, b220_187, b220_203, b220_218, b220_219, b220_226, nLE4, layE8, ix, ps, n3_221, I32, ↓xb, xb, ps, lpad, lat, aok2, rd2, aaok, aav, alok, alen, aok, akk, csum, isLg, cmpI, clsE, Option.elim, eq_self, List.mem_cons, List.not_mem_nil, or_false, false_or, List.append_nil, List.nil_append, List.cons_append, List.append_eq, List.replicate, List.length_cons, List.length_nil, List.map_cons, List.map_nil, ↓reduceIte, reduceCtorEq, if_true, if_false, true_and, and_true, false_and, and_false, and_self, not_true_eq_false, not_false_eq_true, forall_const, true_implies, false_implies, implies_true, Nat.reduceAdd, Nat.reduceSub, Nat.reduceLT, Nat.reduceLeDiff, Nat.reduceEqDiff, Nat.reduceMul, Nat.reducePow, Nat.add_one_ne_zero, Nat.add_one_sub_one, Nat.add_zero, Nat.zero_add, Int.reduceLT, Int.reduceLE, Int.reduceNeg, Int.reduceAdd, Int.reduceSub, Int.reduceToNat, Int.reduceEq, Int.reduceMul, Int.reducePow, Int.cast_ofNat_Int, Int.toNat_natCast, ne_eq, Bool.false_eq_true, true_or, or_true, or_self, Nat.not_lt_zero, ite_e0, ite_e1, lc_lt, lc_ge, lc_gt, lc_le, lc_eq, Classical.not_not]
        with_reducible repeat' (first | (refine And.intro ?_ ?_) | intro _)
        all_goals try omega
        all_goals first | omega | exact f
    · have e : h = n := by omega
      subst e
      have r := q a hl hf ho
      refine TT_vb ok220 (sm3_ok G w) 60 [177] ?_
      simp -implicitDefEqProofs only [↓b220_0, ↓b220_11, ↓b220_17, ↓b220_19, ↓b220_21, ↓b220_26, ↓b220_34, ↓b220_37, ↓b220_43, ↓b220_51, ↓b220_55, ↓b220_58, ↓b220_67, ↓b220_72, ↓b220_110, ↓b220_115, ↓b220_117, ↓b220_130, ↓b220_150, ↓b220_156, ↓b220_162, ↓b220_166, ↓b220_170, ↓b220_173, ↓b220_177, ↓b220_183, ↓b220_187, ↓b220_203, ↓b220_218, ↓b220_219, ↓b220_226, b220_0, b220_11, b220_17, b220_19, b220_21, b220_26, b220_34, b220_37, b220_43, b220_51, b220_55, b220_58, b220_67, b220_72, b220_110, b220_115, b220_117, b220_130, b220_150, b220_156, b220_162, b220_166, b220_170, b220_173, b220_177, b220_183, b220_187, b220_203, b220_218, b220_219, b220_226, nLE4, layE8, hk, n3_221, I32, ↓xb, xb, ps, lpad, lat, aok2, rd2, aaok, aav, alok, alen, aok, akk, csum, isLg, cmpI, clsE, Option.elim, eq_self, List.mem_cons, List.not_mem_nil, or_false, false_or, List.append_nil, List.nil_append, List.cons_append, List.append_eq, List.replicate, List.length_cons, List.length_nil, List.map_cons, List.map_nil, ↓reduceIte, reduceCtorEq, if_true, if_false, true_and, and_true, false_and, and_false, and_self, not_true_eq_false, not_false_eq_true, forall_const, true_implies, false_implies, implies_true, Nat.reduceAdd, Nat.reduceSub, Nat.reduceLT, Nat.reduceLeDiff, Nat.reduceEqDiff, Nat.reduceMul, Nat.reducePow, Nat.add_one_ne_zero, Nat.add_one_sub_one, Nat.add_zero, Nat.zero_add, Int.reduceLT, Int.reduceLE, Int.reduceNeg, Int.reduceAdd, Int.reduceSub, Int.reduceToNat, Int.reduceEq, Int.reduceMul, Int.reducePow, Int.cast_ofNat_Int, Int.toNat_natCast, ne_eq, Bool.false_eq_true, true_or, or_true, or_self, Nat.not_lt_zero, ite_e0, ite_e1, lc_lt, lc_ge, lc_gt, lc_le, lc_eq, Classical.not_not]
      with_reducible repeat' (first | (refine And.intro ?_ ?_) | intro _)
      all_goals try omega
      all_goals first | omega | exact r
set_option maxRecDepth 100000 in
set_option maxHeartbeats 1000000 in
theorem kx_reach (M : MR σ P) (W : WF P) (hk : 24 ≤ k) {s : Int} (hsI : I32 s) (q0 : ¬ (0 ≤ s ∧ s < 2 ^ (P 2 0).toNat) → Q (some (vi (-1))) σ)
    (q1 : 0 ≤ s ∧ s < 2 ^ (P 2 0).toNat → ∀ a, (s = 0 → a = 0) → (s ≠ 0 → RA P (P 2 0).toNat s.toNat a) → ∀ σ', MR σ' P → same S701 σ σ' → Q (some (vi a)) σ') : CC G w w k (0, 0) 220 [vr 21 0 0, vi s] σ Q := by
  have w1 := W.sc.1
  have hM : ∀ f i, 2 ≤ f → f ≤ 38 → σ 21 f 0 i = P f i := M
  have p2 := p2_12 w1
  have hsI' := hsI
  unfold I32 at hsI'
  by_cases s0 : 0 ≤ s
  · have sd : s / 2 ^ (P 2 0).toNat = 0 ↔ s < 2 ^ (P 2 0).toNat := by
      constructor
      · intro z
        have a := Int.emod_lt_of_pos s (show (0 : Int) < 2 ^ (P 2 0).toNat by omega)
        have b := Int.mul_ediv_add_emod s (2 ^ (P 2 0).toNat)
        rw [z, Int.mul_zero] at b
        omega
      · intro z
        exact Int.ediv_eq_zero_of_lt s0 z
    by_cases c2 : s < 2 ^ (P 2 0).toNat
    · have sz := sd.mpr c2
      have pc : ((2 ^ (P 2 0).toNat : Nat) : Int) = 2 ^ (P 2 0).toNat := by rw [Int.natCast_pow]; rfl
      have q2 := q1 ⟨s0, c2⟩
      obtain ⟨S, rfl⟩ : ∃ S : Nat, s = (S : Int) := ⟨s.toNat, by omega⟩
      rw [Int.toNat_natCast] at q2
      refine CC_vb ok220 (by decide) (sm3_ok G w) 60 [21] (Nat.le_of_ble_eq_true rfl) ?_
      simp -implicitDefEqProofs only [↓b220_0, ↓b220_11, ↓b220_17, ↓b220_19, ↓b220_21, ↓b220_26, ↓b220_34, ↓b220_37, ↓b220_43, ↓b220_51, ↓b220_55, ↓b220_58, ↓b220_67, ↓b220_72, ↓b220_110, ↓b220_115, ↓b220_117, ↓b220_130, ↓b220_150, ↓b220_156, ↓b220_162, ↓b220_166, ↓b220_170, ↓b220_173, ↓b220_177, ↓b220_183, ↓b220_187, ↓b220_203, ↓b220_218, ↓b220_219, ↓b220_226, b220_0, b220_11, b220_17, b220_19, b220_21, b220_26, b220_34, b220_37, b220_43, b220_51, b220_55, b220_58, b220_67, b220_72, b220_110, b220_115, b220_117, b220_130, b220_150, b220_156, b220_162, b220_166, b220_170, b220_173, b220_177, b220_183, b220_187, b220_203, b220_218, b220_219, b220_226, nLE4, layE8, hM, sz, n3_221, I32, ↓xb, xb, ps, lpad, lat, aok2, rd2, aaok, aav, alok, alen, aok, akk, csum, isLg, cmpI, clsE, Option.elim, eq_self, List.mem_cons, List.not_mem_nil, or_false, false_or, List.append_nil, List.nil_append, List.cons_append, List.append_eq, List.replicate, List.length_cons, List.length_nil, List.map_cons, List.map_nil, ↓reduceIte, reduceCtorEq, if_true, if_false, true_and, and_true, false_and, and_false, and_self, not_true_eq_false, not_false_eq_true, forall_const, true_implies, false_implies, implies_true, Nat.reduceAdd, Nat.reduceSub, Nat.reduceLT, Nat.reduceLeDiff, Nat.reduceEqDiff, Nat.reduceMul, Nat.reducePow, Nat.add_one_ne_zero, Nat.add_one_sub_one, Nat.add_zero, Nat.zero_add, Int.reduceLT, Int.reduceLE, Int.reduceNeg, Int.reduceAdd, Int.reduceSub, Int.reduceToNat, Int.reduceEq, Int.reduceMul, Int.reducePow, Int.cast_ofNat_Int, Int.toNat_natCast, ne_eq, Bool.false_eq_true, true_or, or_true, or_self, Nat.not_lt_zero, ite_e0, ite_e1, lc_lt, lc_ge, lc_gt, lc_le, lc_eq, Classical.not_not]
      with_reducible repeat' (first | (refine And.intro ?_ ?_) | intro _)
      all_goals try omega
      all_goals first | omega | skip
      refine kx_js M W (by omega) (by omega) (fun σ1 l3 l4 l5 l6 l7 hT M1 s1 => ?_) (S + 1) 1 σ _ _ _ _ (by omega) (by omega) (by omega) ⟨fun a x hl hx ha hi => absurd hl (by omega), fun x hx hb hl => absurd hl (by have := Nat.two_pow_pos x; omega), fun a c x hx ha hc h0 hi hl => absurd (or_ne (b := c) ha) (by omega), fun a x o hx ho ha hi hl => absurd hl (by omega), fun a x hx ha hi hl => absurd hl (by omega)⟩ M same.refl
      by_cases c : S = 0
      · subst c
        have r := q2 0 (fun _ => rfl) (fun z => (z rfl).elim) σ1 M1 s1
        refine TT_vb ok220 (sm3_ok G w) 60 [] ?_
        simp -implicitDefEqProofs only [↓b220_0, ↓b220_11, ↓b220_17, ↓b220_19, ↓b220_21, ↓b220_26, ↓b220_34, ↓b220_37, ↓b220_43, ↓b220_51, ↓b220_55, ↓b220_58, ↓b220_67, ↓b220_72, ↓b220_110, ↓b220_115, ↓b220_117, ↓b220_130, ↓b220_150, ↓b220_156, ↓b220_162, ↓b220_166, ↓b220_170, ↓b220_173, ↓b220_177, ↓b220_183, ↓b220_187, ↓b220_203, ↓b220_218, ↓b220_219, ↓b220_226, b220_0, b220_11, b220_17, b220_19, b220_21, b220_26, b220_34, b220_37, b220_43, b220_51, b220_55, b220_58, b220_67, b220_72, b220_110, b220_115, b220_117, b220_130, b220_150, b220_156, b220_162, b220_166, b220_170, b220_173, b220_177, b220_183, b220_187, b220_203, b220_218, b220_219, b220_226, nLE4, layE8, hk, n3_221, I32, ↓xb, xb, ps, lpad, lat, aok2, rd2, aaok, aav, alok, alen, aok, akk, csum, isLg, cmpI, clsE, Option.elim, eq_self, List.mem_cons, List.not_mem_nil, or_false, false_or, List.append_nil, List.nil_append, List.cons_append, List.append_eq, List.replicate, List.length_cons, List.length_nil, List.map_cons, List.map_nil, ↓reduceIte, reduceCtorEq, if_true, if_false, true_and, and_true, false_and, and_false, and_self, not_true_eq_false, not_false_eq_true, forall_const, true_implies, false_implies, implies_true, Nat.reduceAdd, Nat.reduceSub, Nat.reduceLT, Nat.reduceLeDiff, Nat.reduceEqDiff, Nat.reduceMul, Nat.reducePow, Nat.add_one_ne_zero, Nat.add_one_sub_one, Nat.add_zero, Nat.zero_add, Int.reduceLT, Int.reduceLE, Int.reduceNeg, Int.reduceAdd, Int.reduceSub, Int.reduceToNat, Int.reduceEq, Int.reduceMul, Int.reducePow, Int.cast_ofNat_Int, Int.toNat_natCast, ne_eq, Bool.false_eq_true, true_or, or_true, or_self, Nat.not_lt_zero, ite_e0, ite_e1, lc_lt, lc_ge, lc_gt, lc_le, lc_eq, Classical.not_not]
        with_reducible repeat' (first | (refine And.intro ?_ ?_) | intro _)
        all_goals try omega
        all_goals first | omega | exact r
      · refine TT_vb ok220 (sm3_ok G w) 60 [177] ?_
        simp -implicitDefEqProofs only [↓b220_0, ↓b220_11, ↓b220_17, ↓b220_19, ↓b220_21, ↓b220_26, ↓b220_34, ↓b220_37, ↓b220_43, ↓b220_51, ↓b220_55, ↓b220_58, ↓b220_67, ↓b220_72, ↓b220_110, ↓b220_115, ↓b220_117, ↓b220_130, ↓b220_150, ↓b220_156, ↓b220_162, ↓b220_166, ↓b220_170, ↓b220_173, ↓b220_177, ↓b220_183, ↓b220_187, ↓b220_203, ↓b220_218, ↓b220_219, ↓b220_226, b220_0, b220_11, b220_17, b220_19, b220_21, b220_26, b220_34, b220_37, b220_43, b220_51, b220_55, b220_58, b220_67, b220_72, b220_110, b220_115, b220_117, b220_130, b220_150, b220_156, b220_162, b220_166, b220_170, b220_173, b220_177, b220_183, b220_187, b220_203, b220_218, b220_219, b220_226, nLE4, layE8, hk, n3_221, I32, ↓xb, xb, ps, lpad, lat, aok2, rd2, aaok, aav, alok, alen, aok, akk, csum, isLg, cmpI, clsE, Option.elim, eq_self, List.mem_cons, List.not_mem_nil, or_false, false_or, List.append_nil, List.nil_append, List.cons_append, List.append_eq, List.replicate, List.length_cons, List.length_nil, List.map_cons, List.map_nil, ↓reduceIte, reduceCtorEq, if_true, if_false, true_and, and_true, false_and, and_false, and_self, not_true_eq_false, not_false_eq_true, forall_const, true_implies, false_implies, implies_true, Nat.reduceAdd, Nat.reduceSub, Nat.reduceLT, Nat.reduceLeDiff, Nat.reduceEqDiff, Nat.reduceMul, Nat.reducePow, Nat.add_one_ne_zero, Nat.add_one_sub_one, Nat.add_zero, Nat.zero_add, Int.reduceLT, Int.reduceLE, Int.reduceNeg, Int.reduceAdd, Int.reduceSub, Int.reduceToNat, Int.reduceEq, Int.reduceMul, Int.reducePow, Int.cast_ofNat_Int, Int.toNat_natCast, ne_eq, Bool.false_eq_true, true_or, or_true, or_self, Nat.not_lt_zero, ite_e0, ite_e1, lc_lt, lc_ge, lc_gt, lc_le, lc_eq, Classical.not_not]
        with_reducible repeat' (first | (refine And.intro ?_ ?_) | intro _)
        all_goals try omega
        all_goals first | omega | skip
        refine kx_jm (σ := σ1) (by omega) (by omega) (by omega) c (fun a a1 a2 a3 => ?_) ((P 2 0).toNat + 1) 0 99999 (by omega) (by omega) (by omega) (fun x hx => absurd hx (by omega)) (by omega) (Or.inr rfl)
        obtain ⟨h1, h2, h3, h4, h5⟩ := hT
        have le : ∀ a, a &&& S = a → a < S + 1 := fun a ha => by
          have : a &&& S ≤ S := Nat.and_le_right
          omega
        refine q2 a (fun z => absurd z (by omega)) (fun _ => ⟨fun a h => σ1 21 70 0 (12 * a + h), ⟨fun h hh hb => h2 h hh hb (by have := tb_le hb; omega), fun a t h hh ha ht h0 hi => h3 a t h hh ha ht h0 hi (le _ hi), fun a h o hh ho ha hi => h4 a h o hh ho ha hi (le _ hi)⟩, fun a h hh ha hi => h5 a h hh ha hi (le _ hi), a1, a2, a3⟩) σ1 M1 s1
    · have sz : ¬ s / 2 ^ (P 2 0).toNat = 0 := fun z => c2 (sd.mp z)
      have r := q0 (fun z => c2 z.2)
      refine CC_vb ok220 (by decide) (sm3_ok G w) 60 [21] (Nat.le_of_ble_eq_true rfl) ?_
      simp -implicitDefEqProofs only [↓b220_0, ↓b220_11, ↓b220_17, ↓b220_19, ↓b220_21, ↓b220_26, ↓b220_34, ↓b220_37, ↓b220_43, ↓b220_51, ↓b220_55, ↓b220_58, ↓b220_67, ↓b220_72, ↓b220_110, ↓b220_115, ↓b220_117, ↓b220_130, ↓b220_150, ↓b220_156, ↓b220_162, ↓b220_166, ↓b220_170, ↓b220_173, ↓b220_177, ↓b220_183, ↓b220_187, ↓b220_203, ↓b220_218, ↓b220_219, ↓b220_226, b220_0, b220_11, b220_17, b220_19, b220_21, b220_26, b220_34, b220_37, b220_43, b220_51, b220_55, b220_58, b220_67, b220_72, b220_110, b220_115, b220_117, b220_130, b220_150, b220_156, b220_162, b220_166, b220_170, b220_173, b220_177, b220_183, b220_187, b220_203, b220_218, b220_219, b220_226, nLE4, layE8, hM, sz, n3_221, I32, ↓xb, xb, ps, lpad, lat, aok2, rd2, aaok, aav, alok, alen, aok, akk, csum, isLg, cmpI, clsE, Option.elim, eq_self, List.mem_cons, List.not_mem_nil, or_false, false_or, List.append_nil, List.nil_append, List.cons_append, List.append_eq, List.replicate, List.length_cons, List.length_nil, List.map_cons, List.map_nil, ↓reduceIte, reduceCtorEq, if_true, if_false, true_and, and_true, false_and, and_false, and_self, not_true_eq_false, not_false_eq_true, forall_const, true_implies, false_implies, implies_true, Nat.reduceAdd, Nat.reduceSub, Nat.reduceLT, Nat.reduceLeDiff, Nat.reduceEqDiff, Nat.reduceMul, Nat.reducePow, Nat.add_one_ne_zero, Nat.add_one_sub_one, Nat.add_zero, Nat.zero_add, Int.reduceLT, Int.reduceLE, Int.reduceNeg, Int.reduceAdd, Int.reduceSub, Int.reduceToNat, Int.reduceEq, Int.reduceMul, Int.reducePow, Int.cast_ofNat_Int, Int.toNat_natCast, ne_eq, Bool.false_eq_true, true_or, or_true, or_self, Nat.not_lt_zero, ite_e0, ite_e1, lc_lt, lc_ge, lc_gt, lc_le, lc_eq, Classical.not_not]
      with_reducible repeat' (first | (refine And.intro ?_ ?_) | intro _)
      all_goals try omega
      all_goals first | omega | exact r
  · have r := q0 (fun z => s0 z.1)
    refine CC_vb ok220 (by decide) (sm3_ok G w) 60 [21] (Nat.le_of_ble_eq_true rfl) ?_
    simp -implicitDefEqProofs only [↓b220_0, ↓b220_11, ↓b220_17, ↓b220_19, ↓b220_21, ↓b220_26, ↓b220_34, ↓b220_37, ↓b220_43, ↓b220_51, ↓b220_55, ↓b220_58, ↓b220_67, ↓b220_72, ↓b220_110, ↓b220_115, ↓b220_117, ↓b220_130, ↓b220_150, ↓b220_156, ↓b220_162, ↓b220_166, ↓b220_170, ↓b220_173, ↓b220_177, ↓b220_183, ↓b220_187, ↓b220_203, ↓b220_218, ↓b220_219, ↓b220_226, b220_0, b220_11, b220_17, b220_19, b220_21, b220_26, b220_34, b220_37, b220_43, b220_51, b220_55, b220_58, b220_67, b220_72, b220_110, b220_115, b220_117, b220_130, b220_150, b220_156, b220_162, b220_166, b220_170, b220_173, b220_177, b220_183, b220_187, b220_203, b220_218, b220_219, b220_226, nLE4, layE8, hM, n3_221, I32, ↓xb, xb, ps, lpad, lat, aok2, rd2, aaok, aav, alok, alen, aok, akk, csum, isLg, cmpI, clsE, Option.elim, eq_self, List.mem_cons, List.not_mem_nil, or_false, false_or, List.append_nil, List.nil_append, List.cons_append, List.append_eq, List.replicate, List.length_cons, List.length_nil, List.map_cons, List.map_nil, ↓reduceIte, reduceCtorEq, if_true, if_false, true_and, and_true, false_and, and_false, and_self, not_true_eq_false, not_false_eq_true, forall_const, true_implies, false_implies, implies_true, Nat.reduceAdd, Nat.reduceSub, Nat.reduceLT, Nat.reduceLeDiff, Nat.reduceEqDiff, Nat.reduceMul, Nat.reducePow, Nat.add_one_ne_zero, Nat.add_one_sub_one, Nat.add_zero, Nat.zero_add, Int.reduceLT, Int.reduceLE, Int.reduceNeg, Int.reduceAdd, Int.reduceSub, Int.reduceToNat, Int.reduceEq, Int.reduceMul, Int.reducePow, Int.cast_ofNat_Int, Int.toNat_natCast, ne_eq, Bool.false_eq_true, true_or, or_true, or_self, Nat.not_lt_zero, ite_e0, ite_e1, lc_lt, lc_ge, lc_gt, lc_le, lc_eq, Classical.not_not]
    with_reducible repeat' (first | (refine And.intro ?_ ?_) | intro _)
    all_goals try omega
    all_goals first | omega | exact r
end RCZ
/-- the class's answer and the check's are one -/
theorem reach_one {P : Pt} {n : Nat} (hn : n ≤ 12) {s : Int} (h0 : 0 ≤ s) (hs : s < 2 ^ n) {a b : Int} (b1 : pcN s.toNat < 2 → b = 0) (b2 : ¬ pcN s.toNat < 2 → RB P n s.toNat b) (a1 : s = 0 → a = 0) (a2 : s ≠ 0 → RA P n s.toNat a) : a = b := by
  have pc : ((2 ^ n : Nat) : Int) = 2 ^ n := by rw [Int.natCast_pow]; rfl
  have pw : 2 ^ n ≤ 2 ^ 12 := Nat.pow_le_pow_right (by omega) hn
  have lt : s.toNat < 2 ^ n := by omega
  by_cases c : pcN s.toNat < 2
  · rw [b1 c]
    by_cases z : s = 0
    · exact a1 z
    · have lb := lb_all s.toNat (by omega) (by omega)
      unfold lbK at lb
      simp only [decide_eq_true_eq] at lb
      obtain ⟨_, _, e3, e4, _, _⟩ := lb
      generalize pcN (band (s.toNat : Int) (-(s.toNat : Int)) - 1).toNat = r at e3 e4
      have tpos := Nat.two_pow_pos r
      have ps := pc_sub e4 12
      rw [if_pos e3] at ps
      have ps' : pcN (s.toNat - 2 ^ r) + 1 = pcN s.toNat := ps
      have z0 := pc_0 (s.toNat - 2 ^ r) (by omega) (by omega)
      have tl := tb_le e4
      have se : s.toNat = 2 ^ r := by omega
      have A := a2 z
      rw [se] at A
      exact ra_one (tb_lt e4 lt) A
  · have ne : s.toNat ≠ 0 := fun z => c (by rw [z]; decide)
    exact ra_rb ne lt (a2 (by omega)) (b2 c)

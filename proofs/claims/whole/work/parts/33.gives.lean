/-! 33.gives: one who gives (check); the order of the others (pure) -/
theorem pu_comm {P : Pt} {f i f' i' : Nat} {v v' : Int} (h : f ≠ f') : pu (pu P f i v) f' i' v' = pu (pu P f' i' v') f i v := by
  funext a b
  unfold pu
  by_cases c : a = f ∧ b = i
  · by_cases d : a = f' ∧ b = i'
    · exact absurd (c.1.symm.trans d.1) h
    · rw [if_neg d, if_pos c, if_pos c]
  · by_cases d : a = f' ∧ b = i'
    · rw [if_pos d, if_neg c, if_pos d]
    · rw [if_neg d, if_neg c, if_neg c, if_neg d]
noncomputable def gcP (P : Pt) (n : Nat) (o v : Int) : Pt := if P 10 n = 0 then pu P 26 (ccP P n o).toNat (P 26 (ccP P n o).toNat + v) else P
theorem gc_gv {P : Pt} {n : Nat} {o v : Int} : pu (pu (gcP P n o v) 8 (6 * o + P 10 n).toNat (P 8 (6 * o + P 10 n).toNat - v)) 38 (12 * o + P 9 n).toNat (w64 (P 38 (12 * o + P 9 n).toNat + v)) = gvP P n o v := by
  unfold gcP gvP
  split
  · rw [pu_comm (f := 26) (f' := 8) (by decide), pu_comm (f := 26) (f' := 38) (by decide)]
  · rfl
section GVS
variable {G : Gl} {w : Wd} {k : Nat} {σ : Mem} {Q : Option AV → Mem → Prop} {P : Pt} {U : RU} {r kd : Int}
set_option maxRecDepth 100000 in
set_option maxHeartbeats 1000000 in
theorem kx_gives2 (M : MR σ P) (W : WF P) (hk : 8 ≤ k) {n : Nat} (hh : (n : Int) < P 2 1) {o lack : Int} (ho : 0 ≤ o ∧ o < P 2 0) (q : Q (some (vi (min lack (P 8 (6 * o + P 10 n).toNat)))) σ) : CC G w w k (0, 0) 189 [vr 21 0 0, vi r, vi 2, vi n, vi lack, vi o] σ Q := by
  have w1 := W.sc.1; have w2 := W.sc.2.1
  have hM : ∀ f i, 2 ≤ f → f ≤ 38 → σ 21 f 0 i = P f i := M
  obtain ⟨d1, d2, d3, d4, d5, d6, d7⟩ := W.nd (n := n) hh
  refine CC_vb ok189 (by decide) (sm3_ok G w) 60 [] (Nat.le_of_ble_eq_true rfl) ?_
  simp -implicitDefEqProofs only [↓b189_0, ↓b189_32, ↓b189_39, ↓b189_44, ↓b189_46, ↓b189_47, ↓b189_56, ↓b189_60, ↓b189_61, ↓b189_68, ↓b189_76, ↓b189_79, ↓b189_80, ↓b189_87, ↓b189_93, ↓b189_96, ↓b189_112, ↓b189_114, ↓b189_123, ↓b189_129, ↓b189_136, ↓b189_145, ↓b189_154, ↓b189_164, ↓b189_169, ↓b189_171, ↓b189_182, ↓b189_187, ↓b189_190, ↓b189_197, ↓b189_219, ↓b189_238, ↓b189_240, ↓b189_247, ↓b189_260, b189_0, b189_32, b189_39, b189_44, b189_46, b189_47, b189_56, b189_60, b189_61, b189_68, b189_76, b189_79, b189_80, b189_87, b189_93, b189_96, b189_112, b189_114, b189_123, b189_129, b189_136, b189_145, b189_154, b189_164, b189_169, b189_171, b189_182, b189_187, b189_190, b189_197, b189_219, b189_238, b189_240, b189_247, b189_260, nLE3, layE8, hM, n3_141, n3_183, n3_179, k3_129, r129, n3_180, I32, ↓xb, xb, ps, lpad, lat, aok2, rd2, aaok, aav, alok, alen, aok, akk, csum, isLg, cmpI, clsE, Option.elim, eq_self, List.mem_cons, List.not_mem_nil, or_false, false_or, List.append_nil, List.nil_append, List.cons_append, List.append_eq, List.replicate, List.length_cons, List.length_nil, List.map_cons, List.map_nil, ↓reduceIte, reduceCtorEq, if_true, if_false, true_and, and_true, false_and, and_false, and_self, not_true_eq_false, not_false_eq_true, forall_const, true_implies, false_implies, implies_true, Nat.reduceAdd, Nat.reduceSub, Nat.reduceLT, Nat.reduceLeDiff, Nat.reduceEqDiff, Nat.reduceMul, Nat.reducePow, Nat.add_one_ne_zero, Nat.add_one_sub_one, Nat.add_zero, Nat.zero_add, Int.reduceLT, Int.reduceLE, Int.reduceNeg, Int.reduceAdd, Int.reduceSub, Int.reduceToNat, Int.reduceEq, Int.reduceMul, Int.reducePow, Int.cast_ofNat_Int, Int.toNat_natCast, ne_eq, Bool.false_eq_true, true_or, or_true, or_self, Nat.not_lt_zero, ite_e0, ite_e1, lc_lt, lc_ge, lc_gt, lc_le, lc_eq, Classical.not_not]
  with_reducible repeat' (first | (refine And.intro ?_ ?_) | intro _)
  all_goals try omega
  all_goals exact qvi q (by omega)
set_option maxRecDepth 100000 in
set_option maxHeartbeats 1000000 in
theorem kx_gives0 (M : MR σ P) (W : WF P) (hX : RuX G w 6 r U σ) (hk : 14 ≤ k) (hn6 : P 2 6 ≤ 99999) (hkd : ¬ kd = 2) {n : Nat} (hh : (n : Int) < P 2 1) {o lack : Int} (ho : 0 ≤ o ∧ o < P 2 0) (hl : 1 ≤ lack ∧ lack ≤ 999)
    (q : ∀ σ', MR σ' (gcP P n o (giP U P n o lack)) → same (fun o f => o == 21 && (f == 26 || f == 59 || f == 60)) σ σ' → Q (some (vi (giP U P n o lack))) σ') : CC G w w k (0, 0) 189 [vr 21 0 0, vi r, vi kd, vi n, vi lack, vi o] σ Q := by
  have w1 := W.sc.1; have w2 := W.sc.2.1; have w3 := W.sc.2.2.2.1
  have hM : ∀ f i, 2 ≤ f → f ≤ 38 → σ 21 f 0 i = P f i := M
  obtain ⟨d1, d2, d3, d4, d5, d6, d7⟩ := W.nd (n := n) hh
  have sb := W.st (n := (6 * o + P 10 n).toNat) (by omega)
  have cr : ccP P n o = -1 ∨ (0 ≤ ccP P n o ∧ ccP P n o < (P 2 3).toNat) := cob_r _
  have cd : cobP P o (P 9 n) (P 2 3).toNat = ccP P n o := rfl
  have hkd' := eq_false hkd
  have mono1 : ∀ {σ σ' : Mem}, same SXw σ σ' → same (fun o f => o == 21 && (f == 26 || f == 59 || f == 60)) σ σ' := fun h => h.mono (fun o f z => by
    have z' : (o == 21 && f == 59) = true := z
    simp only [Bool.and_eq_true, beq_iff_eq] at z'
    rw [z'.1, z'.2]; rfl)
  have mono2 : ∀ {σ σ' : Mem}, same SXs σ σ' → same (fun o f => o == 21 && (f == 26 || f == 59 || f == 60)) σ σ' := fun h => h.mono (fun o f z => by
    have z' : (o == 21 && f == 60) = true := z
    simp only [Bool.and_eq_true, beq_iff_eq] at z'
    rw [z'.1, z'.2]; rfl)
  have h00 : giP U P n o lack = 0 → Q (some (vi 0)) σ := fun e => by
    have := q σ (by
      rw [e]
      unfold gcP
      rw [Int.add_zero, pu_id]
      split <;> exact M) same.refl
    rw [e] at this
    exact this
  have n17 : ((2 : Int) + 15).toNat = 17 := rfl
  by_cases hg : P 10 n = 0
  · have hg' := eq_true hg
    have mo : moP U P n o lack = min (min lack (P 8 (6 * o + P 10 n).toNat - U.2)) (P 25 (ccP P n o).toNat - P 26 (ccP P n o).toNat) := if_pos hg
    refine CC_vb ok189 (by decide) (sm3_ok G w) 60 [] (Nat.le_of_ble_eq_true rfl) ?_
    simp -implicitDefEqProofs only [↓b189_0, ↓b189_32, ↓b189_39, ↓b189_44, ↓b189_46, ↓b189_47, ↓b189_56, ↓b189_60, ↓b189_61, ↓b189_68, ↓b189_76, ↓b189_79, ↓b189_80, ↓b189_87, ↓b189_93, ↓b189_96, ↓b189_112, ↓b189_114, ↓b189_123, ↓b189_129, ↓b189_136, ↓b189_145, ↓b189_154, ↓b189_164, ↓b189_169, ↓b189_171, ↓b189_182, ↓b189_187, ↓b189_190, ↓b189_197, ↓b189_219, ↓b189_238, ↓b189_240, ↓b189_247, ↓b189_260, b189_0, b189_32, b189_39, b189_44, b189_46, b189_47, b189_56, b189_60, b189_61, b189_68, b189_76, b189_79, b189_80, b189_87, b189_93, b189_96, b189_112, b189_114, b189_123, b189_129, b189_136, b189_145, b189_154, b189_164, b189_169, b189_171, b189_182, b189_187, b189_190, b189_197, b189_219, b189_238, b189_240, b189_247, b189_260, nLE3, layE8, hM, hkd', hg', n3_141, n3_183, n3_179, k3_129, r129, n3_180, I32, ↓xb, xb, ps, lpad, lat, aok2, rd2, aaok, aav, alok, alen, aok, akk, csum, isLg, cmpI, clsE, Option.elim, eq_self, List.mem_cons, List.not_mem_nil, or_false, false_or, List.append_nil, List.nil_append, List.cons_append, List.append_eq, List.replicate, List.length_cons, List.length_nil, List.map_cons, List.map_nil, ↓reduceIte, reduceCtorEq, if_true, if_false, true_and, and_true, false_and, and_false, and_self, not_true_eq_false, not_false_eq_true, forall_const, true_implies, false_implies, implies_true, Nat.reduceAdd, Nat.reduceSub, Nat.reduceLT, Nat.reduceLeDiff, Nat.reduceEqDiff, Nat.reduceMul, Nat.reducePow, Nat.add_one_ne_zero, Nat.add_one_sub_one, Nat.add_zero, Nat.zero_add, Int.reduceLT, Int.reduceLE, Int.reduceNeg, Int.reduceAdd, Int.reduceSub, Int.reduceToNat, Int.reduceEq, Int.reduceMul, Int.reducePow, Int.cast_ofNat_Int, Int.toNat_natCast, ne_eq, Bool.false_eq_true, true_or, or_true, or_self, Nat.not_lt_zero, ite_e0, ite_e1, lc_lt, lc_ge, lc_gt, lc_le, lc_eq, Classical.not_not]
    with_reducible repeat' (first | (refine And.intro ?_ ?_) | intro _)
    all_goals try omega
    refine kx_cob M W (by omega) ?_
    rw [cd]
    by_cases hcc : ccP P n o = -1
    · have hcc' := eq_true hcc
      simp -implicitDefEqProofs only [↓b189_0, ↓b189_32, ↓b189_39, ↓b189_44, ↓b189_46, ↓b189_47, ↓b189_56, ↓b189_60, ↓b189_61, ↓b189_68, ↓b189_76, ↓b189_79, ↓b189_80, ↓b189_87, ↓b189_93, ↓b189_96, ↓b189_112, ↓b189_114, ↓b189_123, ↓b189_129, ↓b189_136, ↓b189_145, ↓b189_154, ↓b189_164, ↓b189_169, ↓b189_171, ↓b189_182, ↓b189_187, ↓b189_190, ↓b189_197, ↓b189_219, ↓b189_238, ↓b189_240, ↓b189_247, ↓b189_260, b189_0, b189_32, b189_39, b189_44, b189_46, b189_47, b189_56, b189_60, b189_61, b189_68, b189_76, b189_79, b189_80, b189_87, b189_93, b189_96, b189_112, b189_114, b189_123, b189_129, b189_136, b189_145, b189_154, b189_164, b189_169, b189_171, b189_182, b189_187, b189_190, b189_197, b189_219, b189_238, b189_240, b189_247, b189_260, nLE3, layE8, hM, hkd', hg', hcc', n3_141, n3_183, n3_179, k3_129, r129, n3_180, I32, ↓xb, xb, ps, lpad, lat, aok2, rd2, aaok, aav, alok, alen, aok, akk, csum, isLg, cmpI, clsE, Option.elim, eq_self, List.mem_cons, List.not_mem_nil, or_false, false_or, List.append_nil, List.nil_append, List.cons_append, List.append_eq, List.replicate, List.length_cons, List.length_nil, List.map_cons, List.map_nil, ↓reduceIte, reduceCtorEq, if_true, if_false, true_and, and_true, false_and, and_false, and_self, not_true_eq_false, not_false_eq_true, forall_const, true_implies, false_implies, implies_true, Nat.reduceAdd, Nat.reduceSub, Nat.reduceLT, Nat.reduceLeDiff, Nat.reduceEqDiff, Nat.reduceMul, Nat.reducePow, Nat.add_one_ne_zero, Nat.add_one_sub_one, Nat.add_zero, Nat.zero_add, Int.reduceLT, Int.reduceLE, Int.reduceNeg, Int.reduceAdd, Int.reduceSub, Int.reduceToNat, Int.reduceEq, Int.reduceMul, Int.reducePow, Int.cast_ofNat_Int, Int.toNat_natCast, ne_eq, Bool.false_eq_true, true_or, or_true, or_self, Nat.not_lt_zero, ite_e0, ite_e1, lc_lt, lc_ge, lc_gt, lc_le, lc_eq, Classical.not_not]
      with_reducible repeat' (first | (refine And.intro ?_ ?_) | intro _)
      all_goals try omega
      all_goals exact h00 (if_pos (Or.inl ⟨hg, hcc⟩))
    · have hcc' := eq_false hcc
      have hcr := cr.resolve_left hcc
      obtain ⟨b1, b2, b3, b4, b5⟩ := W.cb (n := (ccP P n o).toNat) (by omega)
      simp -implicitDefEqProofs only [↓b189_0, ↓b189_32, ↓b189_39, ↓b189_44, ↓b189_46, ↓b189_47, ↓b189_56, ↓b189_60, ↓b189_61, ↓b189_68, ↓b189_76, ↓b189_79, ↓b189_80, ↓b189_87, ↓b189_93, ↓b189_96, ↓b189_112, ↓b189_114, ↓b189_123, ↓b189_129, ↓b189_136, ↓b189_145, ↓b189_154, ↓b189_164, ↓b189_169, ↓b189_171, ↓b189_182, ↓b189_187, ↓b189_190, ↓b189_197, ↓b189_219, ↓b189_238, ↓b189_240, ↓b189_247, ↓b189_260, b189_0, b189_32, b189_39, b189_44, b189_46, b189_47, b189_56, b189_60, b189_61, b189_68, b189_76, b189_79, b189_80, b189_87, b189_93, b189_96, b189_112, b189_114, b189_123, b189_129, b189_136, b189_145, b189_154, b189_164, b189_169, b189_171, b189_182, b189_187, b189_190, b189_197, b189_219, b189_238, b189_240, b189_247, b189_260, nLE3, layE8, hM, hkd', hg', hcc', n3_141, n3_183, n3_179, k3_129, r129, n3_180, I32, ↓xb, xb, ps, lpad, lat, aok2, rd2, aaok, aav, alok, alen, aok, akk, csum, isLg, cmpI, clsE, Option.elim, eq_self, List.mem_cons, List.not_mem_nil, or_false, false_or, List.append_nil, List.nil_append, List.cons_append, List.append_eq, List.replicate, List.length_cons, List.length_nil, List.map_cons, List.map_nil, ↓reduceIte, reduceCtorEq, if_true, if_false, true_and, and_true, false_and, and_false, and_self, not_true_eq_false, not_false_eq_true, forall_const, true_implies, false_implies, implies_true, Nat.reduceAdd, Nat.reduceSub, Nat.reduceLT, Nat.reduceLeDiff, Nat.reduceEqDiff, Nat.reduceMul, Nat.reducePow, Nat.add_one_ne_zero, Nat.add_one_sub_one, Nat.add_zero, Nat.zero_add, Int.reduceLT, Int.reduceLE, Int.reduceNeg, Int.reduceAdd, Int.reduceSub, Int.reduceToNat, Int.reduceEq, Int.reduceMul, Int.reducePow, Int.cast_ofNat_Int, Int.toNat_natCast, ne_eq, Bool.false_eq_true, true_or, or_true, or_self, Nat.not_lt_zero, ite_e0, ite_e1, lc_lt, lc_ge, lc_gt, lc_le, lc_eq, Classical.not_not]
      with_reducible repeat' (first | (refine And.intro ?_ ?_) | intro _)
      all_goals try omega
      refine kx_askG M W (by omega) hn6 hh (by omega) (fun σ1 hw hs => ?_)
      simp -implicitDefEqProofs only [↓b189_0, ↓b189_32, ↓b189_39, ↓b189_44, ↓b189_46, ↓b189_47, ↓b189_56, ↓b189_60, ↓b189_61, ↓b189_68, ↓b189_76, ↓b189_79, ↓b189_80, ↓b189_87, ↓b189_93, ↓b189_96, ↓b189_112, ↓b189_114, ↓b189_123, ↓b189_129, ↓b189_136, ↓b189_145, ↓b189_154, ↓b189_164, ↓b189_169, ↓b189_171, ↓b189_182, ↓b189_187, ↓b189_190, ↓b189_197, ↓b189_219, ↓b189_238, ↓b189_240, ↓b189_247, ↓b189_260, b189_0, b189_32, b189_39, b189_44, b189_46, b189_47, b189_56, b189_60, b189_61, b189_68, b189_76, b189_79, b189_80, b189_87, b189_93, b189_96, b189_112, b189_114, b189_123, b189_129, b189_136, b189_145, b189_154, b189_164, b189_169, b189_171, b189_182, b189_187, b189_190, b189_197, b189_219, b189_238, b189_240, b189_247, b189_260, nLE3, layE8, hkd', n3_141, n3_183, n3_179, k3_129, r129, n3_180, I32, ↓xb, xb, ps, lpad, lat, aok2, rd2, aaok, aav, alok, alen, aok, akk, csum, isLg, cmpI, clsE, Option.elim, eq_self, List.mem_cons, List.not_mem_nil, or_false, false_or, List.append_nil, List.nil_append, List.cons_append, List.append_eq, List.replicate, List.length_cons, List.length_nil, List.map_cons, List.map_nil, ↓reduceIte, reduceCtorEq, if_true, if_false, true_and, and_true, false_and, and_false, and_self, not_true_eq_false, not_false_eq_true, forall_const, true_implies, false_implies, implies_true, Nat.reduceAdd, Nat.reduceSub, Nat.reduceLT, Nat.reduceLeDiff, Nat.reduceEqDiff, Nat.reduceMul, Nat.reducePow, Nat.add_one_ne_zero, Nat.add_one_sub_one, Nat.add_zero, Nat.zero_add, Int.reduceLT, Int.reduceLE, Int.reduceNeg, Int.reduceAdd, Int.reduceSub, Int.reduceToNat, Int.reduceEq, Int.reduceMul, Int.reducePow, Int.cast_ofNat_Int, Int.toNat_natCast, ne_eq, Bool.false_eq_true, true_or, or_true, or_self, Nat.not_lt_zero, ite_e0, ite_e1, lc_lt, lc_ge, lc_gt, lc_le, lc_eq, Classical.not_not]
      with_reducible repeat' (first | (refine And.intro ?_ ?_) | intro _)
      all_goals try omega
      refine (hX.sx (same_xw hs)).2.2 σ1 _ (k - 1) 2 (by omega) (fun _ _ _ _ _ => rfl) (Or.inr (Or.inr rfl)) (fun σ2 hs2 => ?_)
      have M2 := (M.same59 hs).same60 hs2
      have hM2 : ∀ f i, 2 ≤ f → f ≤ 38 → σ2 21 f 0 i = P f i := M2
      rw [hw, n17]
      simp -implicitDefEqProofs only [↓b189_0, ↓b189_32, ↓b189_39, ↓b189_44, ↓b189_46, ↓b189_47, ↓b189_56, ↓b189_60, ↓b189_61, ↓b189_68, ↓b189_76, ↓b189_79, ↓b189_80, ↓b189_87, ↓b189_93, ↓b189_96, ↓b189_112, ↓b189_114, ↓b189_123, ↓b189_129, ↓b189_136, ↓b189_145, ↓b189_154, ↓b189_164, ↓b189_169, ↓b189_171, ↓b189_182, ↓b189_187, ↓b189_190, ↓b189_197, ↓b189_219, ↓b189_238, ↓b189_240, ↓b189_247, ↓b189_260, b189_0, b189_32, b189_39, b189_44, b189_46, b189_47, b189_56, b189_60, b189_61, b189_68, b189_76, b189_79, b189_80, b189_87, b189_93, b189_96, b189_112, b189_114, b189_123, b189_129, b189_136, b189_145, b189_154, b189_164, b189_169, b189_171, b189_182, b189_187, b189_190, b189_197, b189_219, b189_238, b189_240, b189_247, b189_260, nLE3, layE8, hkd', n3_141, n3_183, n3_179, k3_129, r129, n3_180, I32, ↓xb, xb, ps, lpad, lat, aok2, rd2, aaok, aav, alok, alen, aok, akk, csum, isLg, cmpI, clsE, Option.elim, eq_self, List.mem_cons, List.not_mem_nil, or_false, false_or, List.append_nil, List.nil_append, List.cons_append, List.append_eq, List.replicate, List.length_cons, List.length_nil, List.map_cons, List.map_nil, ↓reduceIte, reduceCtorEq, if_true, if_false, true_and, and_true, false_and, and_false, and_self, not_true_eq_false, not_false_eq_true, forall_const, true_implies, false_implies, implies_true, Nat.reduceAdd, Nat.reduceSub, Nat.reduceLT, Nat.reduceLeDiff, Nat.reduceEqDiff, Nat.reduceMul, Nat.reducePow, Nat.add_one_ne_zero, Nat.add_one_sub_one, Nat.add_zero, Nat.zero_add, Int.reduceLT, Int.reduceLE, Int.reduceNeg, Int.reduceAdd, Int.reduceSub, Int.reduceToNat, Int.reduceEq, Int.reduceMul, Int.reducePow, Int.cast_ofNat_Int, Int.toNat_natCast, ne_eq, Bool.false_eq_true, true_or, or_true, or_self, Nat.not_lt_zero, ite_e0, ite_e1, lc_lt, lc_ge, lc_gt, lc_le, lc_eq, Classical.not_not]
      with_reducible repeat' (first | (refine And.intro ?_ ?_) | intro _)
      all_goals try omega
      refine (hX.sx ((same_xw hs).trans (same_xs hs2))).2.1 σ2 _ (k - 1) (by omega) (fun _ _ _ _ _ => rfl) ?_
      have hb := hX.1
      have gi0 : moP U P n o lack ≤ 0 → giP U P n o lack = 0 := fun z => if_pos (Or.inr (Or.inr z))
      have gi1 : ¬ moP U P n o lack ≤ 0 → giP U P n o lack = min (moP U P n o lack) (max 0 (U.1 17 (wG P o (P 9 n) (P 10 n) (wN P n lack)))) := fun z => if_neg (by omega)
      have key : ∀ x : Int, w32 x = giP U P n o lack → Q (some (vi (w32 x))) (up σ2 21 26 0 (ccP P n o).toNat (P 26 (ccP P n o).toNat + w32 x)) := fun x e => by
        rw [e]
        refine q _ ?_ (((mono1 hs).trans (mono2 hs2)).put rfl)
        unfold gcP
        rw [if_pos hg]
        exact M2.put
      have wr : ∀ x : Int, 0 ≤ x → x ≤ 99999 → w32 x = x := fun x a b => by unfold w32; omega
      simp -implicitDefEqProofs only [↓b189_0, ↓b189_32, ↓b189_39, ↓b189_44, ↓b189_46, ↓b189_47, ↓b189_56, ↓b189_60, ↓b189_61, ↓b189_68, ↓b189_76, ↓b189_79, ↓b189_80, ↓b189_87, ↓b189_93, ↓b189_96, ↓b189_112, ↓b189_114, ↓b189_123, ↓b189_129, ↓b189_136, ↓b189_145, ↓b189_154, ↓b189_164, ↓b189_169, ↓b189_171, ↓b189_182, ↓b189_187, ↓b189_190, ↓b189_197, ↓b189_219, ↓b189_238, ↓b189_240, ↓b189_247, ↓b189_260, b189_0, b189_32, b189_39, b189_44, b189_46, b189_47, b189_56, b189_60, b189_61, b189_68, b189_76, b189_79, b189_80, b189_87, b189_93, b189_96, b189_112, b189_114, b189_123, b189_129, b189_136, b189_145, b189_154, b189_164, b189_169, b189_171, b189_182, b189_187, b189_190, b189_197, b189_219, b189_238, b189_240, b189_247, b189_260, nLE3, layE8, hM2, hg', hcc', n3_141, n3_183, n3_179, k3_129, r129, n3_180, I32, ↓xb, xb, ps, lpad, lat, aok2, rd2, aaok, aav, alok, alen, aok, akk, csum, isLg, cmpI, clsE, Option.elim, eq_self, List.mem_cons, List.not_mem_nil, or_false, false_or, List.append_nil, List.nil_append, List.cons_append, List.append_eq, List.replicate, List.length_cons, List.length_nil, List.map_cons, List.map_nil, ↓reduceIte, reduceCtorEq, if_true, if_false, true_and, and_true, false_and, and_false, and_self, not_true_eq_false, not_false_eq_true, forall_const, true_implies, false_implies, implies_true, Nat.reduceAdd, Nat.reduceSub, Nat.reduceLT, Nat.reduceLeDiff, Nat.reduceEqDiff, Nat.reduceMul, Nat.reducePow, Nat.add_one_ne_zero, Nat.add_one_sub_one, Nat.add_zero, Nat.zero_add, Int.reduceLT, Int.reduceLE, Int.reduceNeg, Int.reduceAdd, Int.reduceSub, Int.reduceToNat, Int.reduceEq, Int.reduceMul, Int.reducePow, Int.cast_ofNat_Int, Int.toNat_natCast, ne_eq, Bool.false_eq_true, true_or, or_true, or_self, Nat.not_lt_zero, ite_e0, ite_e1, lc_lt, lc_ge, lc_gt, lc_le, lc_eq, Classical.not_not]
      with_reducible repeat' (first | (refine And.intro ?_ ?_) | intro _)
      all_goals try omega
      all_goals first | (rw [wr _ (by omega) (by omega)]; omega) | skip
      all_goals refine key _ ?_
      all_goals rw [wr _ (by omega) (by omega)]
      all_goals by_cases z : moP U P n o lack ≤ 0
      all_goals first | (rw [gi0 z]; rw [mo] at z; omega) | (rw [gi1 z, mo]; rw [mo] at z; omega)
  · have hg' := eq_false hg
    have mo : moP U P n o lack = min lack (P 8 (6 * o + P 10 n).toNat - U.2) := if_neg hg
    have tb := W.ti (n := (12 * o + P 9 n).toNat) (by omega)
    refine CC_vb ok189 (by decide) (sm3_ok G w) 60 [] (Nat.le_of_ble_eq_true rfl) ?_
    simp -implicitDefEqProofs only [↓b189_0, ↓b189_32, ↓b189_39, ↓b189_44, ↓b189_46, ↓b189_47, ↓b189_56, ↓b189_60, ↓b189_61, ↓b189_68, ↓b189_76, ↓b189_79, ↓b189_80, ↓b189_87, ↓b189_93, ↓b189_96, ↓b189_112, ↓b189_114, ↓b189_123, ↓b189_129, ↓b189_136, ↓b189_145, ↓b189_154, ↓b189_164, ↓b189_169, ↓b189_171, ↓b189_182, ↓b189_187, ↓b189_190, ↓b189_197, ↓b189_219, ↓b189_238, ↓b189_240, ↓b189_247, ↓b189_260, b189_0, b189_32, b189_39, b189_44, b189_46, b189_47, b189_56, b189_60, b189_61, b189_68, b189_76, b189_79, b189_80, b189_87, b189_93, b189_96, b189_112, b189_114, b189_123, b189_129, b189_136, b189_145, b189_154, b189_164, b189_169, b189_171, b189_182, b189_187, b189_190, b189_197, b189_219, b189_238, b189_240, b189_247, b189_260, nLE3, layE8, hM, hkd', hg', n3_141, n3_183, n3_179, k3_129, r129, n3_180, I32, ↓xb, xb, ps, lpad, lat, aok2, rd2, aaok, aav, alok, alen, aok, akk, csum, isLg, cmpI, clsE, Option.elim, eq_self, List.mem_cons, List.not_mem_nil, or_false, false_or, List.append_nil, List.nil_append, List.cons_append, List.append_eq, List.replicate, List.length_cons, List.length_nil, List.map_cons, List.map_nil, ↓reduceIte, reduceCtorEq, if_true, if_false, true_and, and_true, false_and, and_false, and_self, not_true_eq_false, not_false_eq_true, forall_const, true_implies, false_implies, implies_true, Nat.reduceAdd, Nat.reduceSub, Nat.reduceLT, Nat.reduceLeDiff, Nat.reduceEqDiff, Nat.reduceMul, Nat.reducePow, Nat.add_one_ne_zero, Nat.add_one_sub_one, Nat.add_zero, Nat.zero_add, Int.reduceLT, Int.reduceLE, Int.reduceNeg, Int.reduceAdd, Int.reduceSub, Int.reduceToNat, Int.reduceEq, Int.reduceMul, Int.reducePow, Int.cast_ofNat_Int, Int.toNat_natCast, ne_eq, Bool.false_eq_true, true_or, or_true, or_self, Nat.not_lt_zero, ite_e0, ite_e1, lc_lt, lc_ge, lc_gt, lc_le, lc_eq, Classical.not_not]
    with_reducible repeat' (first | (refine And.intro ?_ ?_) | intro _)
    all_goals try omega
    · refine kx_askG M W (by omega) hn6 hh (by omega) (fun σ1 hw hs => ?_)
      simp -implicitDefEqProofs only [↓b189_0, ↓b189_32, ↓b189_39, ↓b189_44, ↓b189_46, ↓b189_47, ↓b189_56, ↓b189_60, ↓b189_61, ↓b189_68, ↓b189_76, ↓b189_79, ↓b189_80, ↓b189_87, ↓b189_93, ↓b189_96, ↓b189_112, ↓b189_114, ↓b189_123, ↓b189_129, ↓b189_136, ↓b189_145, ↓b189_154, ↓b189_164, ↓b189_169, ↓b189_171, ↓b189_182, ↓b189_187, ↓b189_190, ↓b189_197, ↓b189_219, ↓b189_238, ↓b189_240, ↓b189_247, ↓b189_260, b189_0, b189_32, b189_39, b189_44, b189_46, b189_47, b189_56, b189_60, b189_61, b189_68, b189_76, b189_79, b189_80, b189_87, b189_93, b189_96, b189_112, b189_114, b189_123, b189_129, b189_136, b189_145, b189_154, b189_164, b189_169, b189_171, b189_182, b189_187, b189_190, b189_197, b189_219, b189_238, b189_240, b189_247, b189_260, nLE3, layE8, hkd', n3_141, n3_183, n3_179, k3_129, r129, n3_180, I32, ↓xb, xb, ps, lpad, lat, aok2, rd2, aaok, aav, alok, alen, aok, akk, csum, isLg, cmpI, clsE, Option.elim, eq_self, List.mem_cons, List.not_mem_nil, or_false, false_or, List.append_nil, List.nil_append, List.cons_append, List.append_eq, List.replicate, List.length_cons, List.length_nil, List.map_cons, List.map_nil, ↓reduceIte, reduceCtorEq, if_true, if_false, true_and, and_true, false_and, and_false, and_self, not_true_eq_false, not_false_eq_true, forall_const, true_implies, false_implies, implies_true, Nat.reduceAdd, Nat.reduceSub, Nat.reduceLT, Nat.reduceLeDiff, Nat.reduceEqDiff, Nat.reduceMul, Nat.reducePow, Nat.add_one_ne_zero, Nat.add_one_sub_one, Nat.add_zero, Nat.zero_add, Int.reduceLT, Int.reduceLE, Int.reduceNeg, Int.reduceAdd, Int.reduceSub, Int.reduceToNat, Int.reduceEq, Int.reduceMul, Int.reducePow, Int.cast_ofNat_Int, Int.toNat_natCast, ne_eq, Bool.false_eq_true, true_or, or_true, or_self, Nat.not_lt_zero, ite_e0, ite_e1, lc_lt, lc_ge, lc_gt, lc_le, lc_eq, Classical.not_not]
      with_reducible repeat' (first | (refine And.intro ?_ ?_) | intro _)
      all_goals try omega
      refine (hX.sx (same_xw hs)).2.2 σ1 _ (k - 1) 2 (by omega) (fun _ _ _ _ _ => rfl) (Or.inr (Or.inr rfl)) (fun σ2 hs2 => ?_)
      have M2 := (M.same59 hs).same60 hs2
      have hM2 : ∀ f i, 2 ≤ f → f ≤ 38 → σ2 21 f 0 i = P f i := M2
      rw [hw, n17]
      simp -implicitDefEqProofs only [↓b189_0, ↓b189_32, ↓b189_39, ↓b189_44, ↓b189_46, ↓b189_47, ↓b189_56, ↓b189_60, ↓b189_61, ↓b189_68, ↓b189_76, ↓b189_79, ↓b189_80, ↓b189_87, ↓b189_93, ↓b189_96, ↓b189_112, ↓b189_114, ↓b189_123, ↓b189_129, ↓b189_136, ↓b189_145, ↓b189_154, ↓b189_164, ↓b189_169, ↓b189_171, ↓b189_182, ↓b189_187, ↓b189_190, ↓b189_197, ↓b189_219, ↓b189_238, ↓b189_240, ↓b189_247, ↓b189_260, b189_0, b189_32, b189_39, b189_44, b189_46, b189_47, b189_56, b189_60, b189_61, b189_68, b189_76, b189_79, b189_80, b189_87, b189_93, b189_96, b189_112, b189_114, b189_123, b189_129, b189_136, b189_145, b189_154, b189_164, b189_169, b189_171, b189_182, b189_187, b189_190, b189_197, b189_219, b189_238, b189_240, b189_247, b189_260, nLE3, layE8, hkd', n3_141, n3_183, n3_179, k3_129, r129, n3_180, I32, ↓xb, xb, ps, lpad, lat, aok2, rd2, aaok, aav, alok, alen, aok, akk, csum, isLg, cmpI, clsE, Option.elim, eq_self, List.mem_cons, List.not_mem_nil, or_false, false_or, List.append_nil, List.nil_append, List.cons_append, List.append_eq, List.replicate, List.length_cons, List.length_nil, List.map_cons, List.map_nil, ↓reduceIte, reduceCtorEq, if_true, if_false, true_and, and_true, false_and, and_false, and_self, not_true_eq_false, not_false_eq_true, forall_const, true_implies, false_implies, implies_true, Nat.reduceAdd, Nat.reduceSub, Nat.reduceLT, Nat.reduceLeDiff, Nat.reduceEqDiff, Nat.reduceMul, Nat.reducePow, Nat.add_one_ne_zero, Nat.add_one_sub_one, Nat.add_zero, Nat.zero_add, Int.reduceLT, Int.reduceLE, Int.reduceNeg, Int.reduceAdd, Int.reduceSub, Int.reduceToNat, Int.reduceEq, Int.reduceMul, Int.reducePow, Int.cast_ofNat_Int, Int.toNat_natCast, ne_eq, Bool.false_eq_true, true_or, or_true, or_self, Nat.not_lt_zero, ite_e0, ite_e1, lc_lt, lc_ge, lc_gt, lc_le, lc_eq, Classical.not_not]
      with_reducible repeat' (first | (refine And.intro ?_ ?_) | intro _)
      all_goals try omega
      refine (hX.sx ((same_xw hs).trans (same_xs hs2))).2.1 σ2 _ (k - 1) (by omega) (fun _ _ _ _ _ => rfl) ?_
      have hb := hX.1
      have gi0 : moP U P n o lack ≤ 0 → giP U P n o lack = 0 := fun z => if_pos (Or.inr (Or.inr z))
      have gi1 : ¬ moP U P n o lack ≤ 0 → giP U P n o lack = min (moP U P n o lack) (max 0 (U.1 17 (wG P o (P 9 n) (P 10 n) (wN P n lack)))) := fun z => if_neg (by omega)
      have key : ∀ x : Int, w32 x = giP U P n o lack → Q (some (vi (w32 x))) σ2 := fun x e => by
        rw [e]
        refine q _ ?_ ((mono1 hs).trans (mono2 hs2))
        unfold gcP
        rw [if_neg hg]
        exact M2
      have wr : ∀ x : Int, 0 ≤ x → x ≤ 99999 → w32 x = x := fun x a b => by unfold w32; omega
      simp -implicitDefEqProofs only [↓b189_0, ↓b189_32, ↓b189_39, ↓b189_44, ↓b189_46, ↓b189_47, ↓b189_56, ↓b189_60, ↓b189_61, ↓b189_68, ↓b189_76, ↓b189_79, ↓b189_80, ↓b189_87, ↓b189_93, ↓b189_96, ↓b189_112, ↓b189_114, ↓b189_123, ↓b189_129, ↓b189_136, ↓b189_145, ↓b189_154, ↓b189_164, ↓b189_169, ↓b189_171, ↓b189_182, ↓b189_187, ↓b189_190, ↓b189_197, ↓b189_219, ↓b189_238, ↓b189_240, ↓b189_247, ↓b189_260, b189_0, b189_32, b189_39, b189_44, b189_46, b189_47, b189_56, b189_60, b189_61, b189_68, b189_76, b189_79, b189_80, b189_87, b189_93, b189_96, b189_112, b189_114, b189_123, b189_129, b189_136, b189_145, b189_154, b189_164, b189_169, b189_171, b189_182, b189_187, b189_190, b189_197, b189_219, b189_238, b189_240, b189_247, b189_260, nLE3, layE8, hM2, hg', n3_141, n3_183, n3_179, k3_129, r129, n3_180, I32, ↓xb, xb, ps, lpad, lat, aok2, rd2, aaok, aav, alok, alen, aok, akk, csum, isLg, cmpI, clsE, Option.elim, eq_self, List.mem_cons, List.not_mem_nil, or_false, false_or, List.append_nil, List.nil_append, List.cons_append, List.append_eq, List.replicate, List.length_cons, List.length_nil, List.map_cons, List.map_nil, ↓reduceIte, reduceCtorEq, if_true, if_false, true_and, and_true, false_and, and_false, and_self, not_true_eq_false, not_false_eq_true, forall_const, true_implies, false_implies, implies_true, Nat.reduceAdd, Nat.reduceSub, Nat.reduceLT, Nat.reduceLeDiff, Nat.reduceEqDiff, Nat.reduceMul, Nat.reducePow, Nat.add_one_ne_zero, Nat.add_one_sub_one, Nat.add_zero, Nat.zero_add, Int.reduceLT, Int.reduceLE, Int.reduceNeg, Int.reduceAdd, Int.reduceSub, Int.reduceToNat, Int.reduceEq, Int.reduceMul, Int.reducePow, Int.cast_ofNat_Int, Int.toNat_natCast, ne_eq, Bool.false_eq_true, true_or, or_true, or_self, Nat.not_lt_zero, ite_e0, ite_e1, lc_lt, lc_ge, lc_gt, lc_le, lc_eq, Classical.not_not]
      with_reducible repeat' (first | (refine And.intro ?_ ?_) | intro _)
      all_goals try omega
      all_goals refine key _ ?_
      all_goals rw [wr _ (by omega) (by omega)]
      all_goals by_cases z : moP U P n o lack ≤ 0
      all_goals first | (rw [gi0 z]; rw [mo] at z; omega) | (rw [gi1 z, mo]; rw [mo] at z; omega)
    · exact h00 (if_pos (Or.inr (Or.inl ⟨hg, by assumption⟩)))
end GVS

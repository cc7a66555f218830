/-! 74.lexc: the reader's words (class) -/
section LXC
variable {G : Gl} {w : Wd} {k mi pc : Nat} {σ : Mem} {Q : Option AV → Mem → Prop}
theorem jl_all : (atW 527 (.methodLink "DarkStreet$Reader" 113 Jvm.Lib.Str.length.name) && atW 537 (.methodLink "DarkStreet$Reader" 117 Jvm.Lib.Str.charAt.name) && atW 1327 (.methodLink "DarkStreetModel" 315 Jvm.Lib.Str.length.name) && atW 1328 (.methodLink "DarkStreetModel" 320 Jvm.Lib.Str.charAt.name)) = true := by decide +kernel
theorem jl_spec : Cond.methodLink "DarkStreet$Reader" 113 Jvm.Lib.Str.length.name ∈ WT ∧ Cond.methodLink "DarkStreet$Reader" 117 Jvm.Lib.Str.charAt.name ∈ WT ∧ Cond.methodLink "DarkStreetModel" 315 Jvm.Lib.Str.length.name ∈ WT ∧ Cond.methodLink "DarkStreetModel" 320 Jvm.Lib.Str.charAt.name ∈ WT := by
  have h := jl_all
  simp only [Bool.and_eq_true] at h
  exact ⟨atW_in h.1.1.1, atW_in h.1.1.2, atW_in h.1.2, atW_in h.2⟩
theorem TT_inv (hM : okM mi = true) {ix : Nat} {x : Int} {y z : Nat} (hq : ins mi pc = some (pc, .invokevirtual ix, 3, x, y, z)) : decode (bc mi) pc = .ok (.invokevirtual ix, 3) := by
  have h := (ins_ok hM hq).2
  unfold okI at h
  simp only [Bool.and_eq_true, decide_eq_true_eq] at h
  exact h.1
/-- the reader reads the first N bytes of the tape: t -/
def TXt (σ : Mem) (t : Nat → Int) (N : Nat) : Prop := dec (σ 7 1 0 0) = vr 0 6 0 ∧ σ 7 2 0 0 = N ∧ N ≤ 400 ∧ ∀ i, i < N → σ 0 6 0 i = t i
theorem wf06 {w : Wd} : wfv w (vr 0 6 0) := Or.inr ⟨⟨Or.inl (by show (0 : Nat) < 3; omega), by show (0 : Nat) < 22; omega⟩, Or.inr ⟨by show (0 : Nat) < 6; omega, by decide, by decide, fun _ => rfl, fun h => absurd h (by decide)⟩⟩
set_option maxRecDepth 100000 in
set_option maxHeartbeats 1000000 in
theorem kc_wd_l {t : Nat → Int} {N : Nat} (T : TXt σ t N) (hk : 8 ≤ k) {f e : Nat} (hfe : f ≤ e) (he : e ≤ N) : ∀ (m i : Nat) (s : Nat × Nat × Bool) (l7 : Option AV), i + m = 116 → s.1 ≤ i → s.2.1 ≤ e → Q (some (vi (wfR t f e m i s : Nat))) σ →
    TT G w w w k (0, 0) 30 11 [some (vr 7 0 0), some (vi f), some (vi e), some (vi s.1), some (vi s.2.1), some (vi (if s.2.2 = true then 1 else 0)), some (vi i), l7] [] σ Q
  | 0, i, s, l7, hi, h1, h2, q => by
    have ei : i = 116 := by omega
    subst ei
    have sl : ((strL.getD 0 0 : Nat) : Int) = 116 := by decide
    refine TT_vn ok30 (sm3_ok G w) 60 2 [15] ?_
    simp -implicitDefEqProofs only [↓b30_0, ↓b30_18, ↓b30_28, ↓b30_37, ↓b30_42, ↓b30_48, ↓b30_50, ↓b30_62, ↓b30_67, ↓b30_73, ↓b30_77, ↓b30_85, ↓b30_91, ↓b30_94, ↓b30_100, ↓b30_11, ↓b30_21, b30_0, b30_18, b30_28, b30_37, b30_42, b30_48, b30_50, b30_62, b30_67, b30_73, b30_77, b30_85, b30_91, b30_94, b30_100, b30_11, b30_21, nLE0, layE2, layE3, hk, I32, ↓xb, xb, ps, lpad, lat, aok2, rd2, aaok, aav, alok, alen, aok, akk, csum, isLg, cmpI, clsE, Option.elim, eq_self, List.mem_cons, List.not_mem_nil, or_false, false_or, List.append_nil, List.nil_append, List.cons_append, List.append_eq, List.replicate, List.length_cons, List.length_nil, List.map_cons, List.map_nil, ↓reduceIte, reduceCtorEq, if_true, if_false, true_and, and_true, false_and, and_false, and_self, not_true_eq_false, not_false_eq_true, forall_const, true_implies, false_implies, implies_true, Nat.reduceAdd, Nat.reduceSub, Nat.reduceLT, Nat.reduceLeDiff, Nat.reduceEqDiff, Nat.reduceMul, Nat.reducePow, Nat.add_one_ne_zero, Nat.add_one_sub_one, Nat.add_zero, Nat.zero_add, Int.reduceLT, Int.reduceLE, Int.reduceNeg, Int.reduceAdd, Int.reduceSub, Int.reduceToNat, Int.reduceEq, Int.reduceMul, Int.reducePow, Int.cast_ofNat_Int, Int.toNat_natCast, ne_eq, Bool.false_eq_true, true_or, or_true, or_self, Nat.not_lt_zero, ite_e0, ite_e1, lc_lt, lc_ge, lc_gt, lc_le, lc_eq, Classical.not_not]
    with_reducible repeat' (first | (refine And.intro ?_ ?_) | intro _)
    all_goals try omega
    have d := TT_inv (pc := 15) ok30 (ix := 113) (x := -1) (y := 1007) (z := 0) rfl
    refine S_slen (i := 0) d jl_spec.1 (by omega) (by omega) (Nat.le_of_ble_eq_true rfl) ?_
    rw [sl]
    refine TT_vb ok30 (sm3_ok G w) 60 [11, 21] ?_
    simp -implicitDefEqProofs only [↓b30_0, ↓b30_18, ↓b30_28, ↓b30_37, ↓b30_42, ↓b30_48, ↓b30_50, ↓b30_62, ↓b30_67, ↓b30_73, ↓b30_77, ↓b30_85, ↓b30_91, ↓b30_94, ↓b30_100, ↓b30_11, ↓b30_21, b30_0, b30_18, b30_28, b30_37, b30_42, b30_48, b30_50, b30_62, b30_67, b30_73, b30_77, b30_85, b30_91, b30_94, b30_100, b30_11, b30_21, nLE0, layE2, layE3, hk, I32, ↓xb, xb, ps, lpad, lat, aok2, rd2, aaok, aav, alok, alen, aok, akk, csum, isLg, cmpI, clsE, Option.elim, eq_self, List.mem_cons, List.not_mem_nil, or_false, false_or, List.append_nil, List.nil_append, List.cons_append, List.append_eq, List.replicate, List.length_cons, List.length_nil, List.map_cons, List.map_nil, ↓reduceIte, reduceCtorEq, if_true, if_false, true_and, and_true, false_and, and_false, and_self, not_true_eq_false, not_false_eq_true, forall_const, true_implies, false_implies, implies_true, Nat.reduceAdd, Nat.reduceSub, Nat.reduceLT, Nat.reduceLeDiff, Nat.reduceEqDiff, Nat.reduceMul, Nat.reducePow, Nat.add_one_ne_zero, Nat.add_one_sub_one, Nat.add_zero, Nat.zero_add, Int.reduceLT, Int.reduceLE, Int.reduceNeg, Int.reduceAdd, Int.reduceSub, Int.reduceToNat, Int.reduceEq, Int.reduceMul, Int.reducePow, Int.cast_ofNat_Int, Int.toNat_natCast, ne_eq, Bool.false_eq_true, true_or, or_true, or_self, Nat.not_lt_zero, ite_e0, ite_e1, lc_lt, lc_ge, lc_gt, lc_le, lc_eq, Classical.not_not]
    with_reducible repeat' (first | (refine And.intro ?_ ?_) | intro _)
    all_goals try omega
    all_goals first | omega | exact q
  | m + 1, i, s, l7, hi, h1, h2, q => by
    have ih := kc_wd_l T hk hfe he m (i + 1) (wfS t f e i s)
    have sl : ((strL.getD 0 0 : Nat) : Int) = 116 := by decide
    obtain ⟨t1, t2, t3, t4⟩ := T
    have wf6 : wfv w (vr 0 6 0) := wf06
    obtain ⟨s1, s2, s3⟩ := s
    have q' : Q (some (vi ((if sbv 0 i = 32 ∧ s3 = true ∧ s2 = e then s1 else wfR t f e m (i + 1) (wfS t f e i (s1, s2, s3)) : Nat)))) σ := q
    dsimp only at h1 h2 ⊢
    have ei : ((i + 1 : Nat) : Int) = (i : Int) + 1 := by omega
    rw [ei] at ih
    refine TT_vn ok30 (sm3_ok G w) 60 2 [15] ?_
    simp -implicitDefEqProofs only [↓b30_0, ↓b30_18, ↓b30_28, ↓b30_37, ↓b30_42, ↓b30_48, ↓b30_50, ↓b30_62, ↓b30_67, ↓b30_73, ↓b30_77, ↓b30_85, ↓b30_91, ↓b30_94, ↓b30_100, ↓b30_11, ↓b30_21, b30_0, b30_18, b30_28, b30_37, b30_42, b30_48, b30_50, b30_62, b30_67, b30_73, b30_77, b30_85, b30_91, b30_94, b30_100, b30_11, b30_21, nLE0, layE2, layE3, hk, I32, ↓xb, xb, ps, lpad, lat, aok2, rd2, aaok, aav, alok, alen, aok, akk, csum, isLg, cmpI, clsE, Option.elim, eq_self, List.mem_cons, List.not_mem_nil, or_false, false_or, List.append_nil, List.nil_append, List.cons_append, List.append_eq, List.replicate, List.length_cons, List.length_nil, List.map_cons, List.map_nil, ↓reduceIte, reduceCtorEq, if_true, if_false, true_and, and_true, false_and, and_false, and_self, not_true_eq_false, not_false_eq_true, forall_const, true_implies, false_implies, implies_true, Nat.reduceAdd, Nat.reduceSub, Nat.reduceLT, Nat.reduceLeDiff, Nat.reduceEqDiff, Nat.reduceMul, Nat.reducePow, Nat.add_one_ne_zero, Nat.add_one_sub_one, Nat.add_zero, Nat.zero_add, Int.reduceLT, Int.reduceLE, Int.reduceNeg, Int.reduceAdd, Int.reduceSub, Int.reduceToNat, Int.reduceEq, Int.reduceMul, Int.reducePow, Int.cast_ofNat_Int, Int.toNat_natCast, ne_eq, Bool.false_eq_true, true_or, or_true, or_self, Nat.not_lt_zero, ite_e0, ite_e1, lc_lt, lc_ge, lc_gt, lc_le, lc_eq, Classical.not_not]
    with_reducible repeat' (first | (refine And.intro ?_ ?_) | intro _)
    all_goals try omega
    have d := TT_inv (pc := 15) ok30 (ix := 113) (x := -1) (y := 1007) (z := 0) rfl
    refine S_slen (i := 0) d jl_spec.1 (by omega) (by omega) (Nat.le_of_ble_eq_true rfl) ?_
    rw [sl]
    refine TT_vb ok30 (sm3_ok G w) 60 [11, 21] ?_
    simp -implicitDefEqProofs only [↓b30_0, ↓b30_18, ↓b30_28, ↓b30_37, ↓b30_42, ↓b30_48, ↓b30_50, ↓b30_62, ↓b30_67, ↓b30_73, ↓b30_77, ↓b30_85, ↓b30_91, ↓b30_94, ↓b30_100, ↓b30_11, ↓b30_21, b30_0, b30_18, b30_28, b30_37, b30_42, b30_48, b30_50, b30_62, b30_67, b30_73, b30_77, b30_85, b30_91, b30_94, b30_100, b30_11, b30_21, nLE0, layE2, layE3, hk, I32, ↓xb, xb, ps, lpad, lat, aok2, rd2, aaok, aav, alok, alen, aok, akk, csum, isLg, cmpI, clsE, Option.elim, eq_self, List.mem_cons, List.not_mem_nil, or_false, false_or, List.append_nil, List.nil_append, List.cons_append, List.append_eq, List.replicate, List.length_cons, List.length_nil, List.map_cons, List.map_nil, ↓reduceIte, reduceCtorEq, if_true, if_false, true_and, and_true, false_and, and_false, and_self, not_true_eq_false, not_false_eq_true, forall_const, true_implies, false_implies, implies_true, Nat.reduceAdd, Nat.reduceSub, Nat.reduceLT, Nat.reduceLeDiff, Nat.reduceEqDiff, Nat.reduceMul, Nat.reducePow, Nat.add_one_ne_zero, Nat.add_one_sub_one, Nat.add_zero, Nat.zero_add, Int.reduceLT, Int.reduceLE, Int.reduceNeg, Int.reduceAdd, Int.reduceSub, Int.reduceToNat, Int.reduceEq, Int.reduceMul, Int.reducePow, Int.cast_ofNat_Int, Int.toNat_natCast, ne_eq, Bool.false_eq_true, true_or, or_true, or_self, Nat.not_lt_zero, ite_e0, ite_e1, lc_lt, lc_ge, lc_gt, lc_le, lc_eq, Classical.not_not]
    with_reducible repeat' (first | (refine And.intro ?_ ?_) | intro _)
    all_goals try omega
    all_goals first | omega | skip
    refine TT_vn ok30 (sm3_ok G w) 60 2 [25] ?_
    simp -implicitDefEqProofs only [↓b30_0, ↓b30_18, ↓b30_28, ↓b30_37, ↓b30_42, ↓b30_48, ↓b30_50, ↓b30_62, ↓b30_67, ↓b30_73, ↓b30_77, ↓b30_85, ↓b30_91, ↓b30_94, ↓b30_100, ↓b30_11, ↓b30_21, b30_0, b30_18, b30_28, b30_37, b30_42, b30_48, b30_50, b30_62, b30_67, b30_73, b30_77, b30_85, b30_91, b30_94, b30_100, b30_11, b30_21, nLE0, layE2, layE3, hk, I32, ↓xb, xb, ps, lpad, lat, aok2, rd2, aaok, aav, alok, alen, aok, akk, csum, isLg, cmpI, clsE, Option.elim, eq_self, List.mem_cons, List.not_mem_nil, or_false, false_or, List.append_nil, List.nil_append, List.cons_append, List.append_eq, List.replicate, List.length_cons, List.length_nil, List.map_cons, List.map_nil, ↓reduceIte, reduceCtorEq, if_true, if_false, true_and, and_true, false_and, and_false, and_self, not_true_eq_false, not_false_eq_true, forall_const, true_implies, false_implies, implies_true, Nat.reduceAdd, Nat.reduceSub, Nat.reduceLT, Nat.reduceLeDiff, Nat.reduceEqDiff, Nat.reduceMul, Nat.reducePow, Nat.add_one_ne_zero, Nat.add_one_sub_one, Nat.add_zero, Nat.zero_add, Int.reduceLT, Int.reduceLE, Int.reduceNeg, Int.reduceAdd, Int.reduceSub, Int.reduceToNat, Int.reduceEq, Int.reduceMul, Int.reducePow, Int.cast_ofNat_Int, Int.toNat_natCast, ne_eq, Bool.false_eq_true, true_or, or_true, or_self, Nat.not_lt_zero, ite_e0, ite_e1, lc_lt, lc_ge, lc_gt, lc_le, lc_eq, Classical.not_not]
    with_reducible repeat' (first | (refine And.intro ?_ ?_) | intro _)
    all_goals try omega
    have d2 := TT_inv (pc := 25) ok30 (ix := 117) (x := -1) (y := 1008) (z := 1) rfl
    refine S_scha (i := 0) d2 jl_spec.2.1 (by omega) (by omega) (by rw [sl]; omega) (by omega) (by decide) ?_
    rw [Int.toNat_natCast]
    by_cases c32 : sbv 0 i = 32
    · rw [c32]
      have es : wfS t f e i (s1, s2, s3) = (s1 + 1, f, true) := by unfold wfS; rw [if_pos c32]
      rw [es] at ih q'
      by_cases c3 : s3 = true ∧ s2 = e
      · rw [if_pos ⟨c32, c3⟩] at q'
        obtain ⟨rfl, rfl⟩ := c3
        refine TT_vb ok30 (sm3_ok G w) 60 [11] ?_
        simp -implicitDefEqProofs only [↓b30_0, ↓b30_18, ↓b30_28, ↓b30_37, ↓b30_42, ↓b30_48, ↓b30_50, ↓b30_62, ↓b30_67, ↓b30_73, ↓b30_77, ↓b30_85, ↓b30_91, ↓b30_94, ↓b30_100, ↓b30_11, ↓b30_21, b30_0, b30_18, b30_28, b30_37, b30_42, b30_48, b30_50, b30_62, b30_67, b30_73, b30_77, b30_85, b30_91, b30_94, b30_100, b30_11, b30_21, nLE0, layE2, layE3, hk, I32, ↓xb, xb, ps, lpad, lat, aok2, rd2, aaok, aav, alok, alen, aok, akk, csum, isLg, cmpI, clsE, Option.elim, eq_self, List.mem_cons, List.not_mem_nil, or_false, false_or, List.append_nil, List.nil_append, List.cons_append, List.append_eq, List.replicate, List.length_cons, List.length_nil, List.map_cons, List.map_nil, ↓reduceIte, reduceCtorEq, if_true, if_false, true_and, and_true, false_and, and_false, and_self, not_true_eq_false, not_false_eq_true, forall_const, true_implies, false_implies, implies_true, Nat.reduceAdd, Nat.reduceSub, Nat.reduceLT, Nat.reduceLeDiff, Nat.reduceEqDiff, Nat.reduceMul, Nat.reducePow, Nat.add_one_ne_zero, Nat.add_one_sub_one, Nat.add_zero, Nat.zero_add, Int.reduceLT, Int.reduceLE, Int.reduceNeg, Int.reduceAdd, Int.reduceSub, Int.reduceToNat, Int.reduceEq, Int.reduceMul, Int.reducePow, Int.cast_ofNat_Int, Int.toNat_natCast, ne_eq, Bool.false_eq_true, true_or, or_true, or_self, Nat.not_lt_zero, ite_e0, ite_e1, lc_lt, lc_ge, lc_gt, lc_le, lc_eq, Classical.not_not]
        with_reducible repeat' (first | (refine And.intro ?_ ?_) | intro _)
        all_goals try omega
        all_goals first | omega | exact q'
      · rw [if_neg (fun z => c3 z.2)] at q'
        have r := fun l7 => ih l7 (by omega) (by show s1 + 1 ≤ i + 1; omega) hfe q'
        dsimp only at r
        rw [show ((s1 + 1 : Nat) : Int) = (s1 : Int) + 1 by omega] at r
        cases s3
        · refine TT_vb ok30 (sm3_ok G w) 60 [11] ?_
          simp -implicitDefEqProofs only [↓b30_0, ↓b30_18, ↓b30_28, ↓b30_37, ↓b30_42, ↓b30_48, ↓b30_50, ↓b30_62, ↓b30_67, ↓b30_73, ↓b30_77, ↓b30_85, ↓b30_91, ↓b30_94, ↓b30_100, ↓b30_11, ↓b30_21, b30_0, b30_18, b30_28, b30_37, b30_42, b30_48, b30_50, b30_62, b30_67, b30_73, b30_77, b30_85, b30_91, b30_94, b30_100, b30_11, b30_21, nLE0, layE2, layE3, hk, I32, ↓xb, xb, ps, lpad, lat, aok2, rd2, aaok, aav, alok, alen, aok, akk, csum, isLg, cmpI, clsE, Option.elim, eq_self, List.mem_cons, List.not_mem_nil, or_false, false_or, List.append_nil, List.nil_append, List.cons_append, List.append_eq, List.replicate, List.length_cons, List.length_nil, List.map_cons, List.map_nil, ↓reduceIte, reduceCtorEq, if_true, if_false, true_and, and_true, false_and, and_false, and_self, not_true_eq_false, not_false_eq_true, forall_const, true_implies, false_implies, implies_true, Nat.reduceAdd, Nat.reduceSub, Nat.reduceLT, Nat.reduceLeDiff, Nat.reduceEqDiff, Nat.reduceMul, Nat.reducePow, Nat.add_one_ne_zero, Nat.add_one_sub_one, Nat.add_zero, Nat.zero_add, Int.reduceLT, Int.reduceLE, Int.reduceNeg, Int.reduceAdd, Int.reduceSub, Int.reduceToNat, Int.reduceEq, Int.reduceMul, Int.reducePow, Int.cast_ofNat_Int, Int.toNat_natCast, ne_eq, Bool.false_eq_true, true_or, or_true, or_self, Nat.not_lt_zero, ite_e0, ite_e1, lc_lt, lc_ge, lc_gt, lc_le, lc_eq, Classical.not_not]
          with_reducible repeat' (first | (refine And.intro ?_ ?_) | intro _)
          all_goals try omega
          all_goals first | omega | exact r _
        · have c4 : ¬ ((s2 : Int) = (e : Int)) := fun z => c3 ⟨rfl, by omega⟩
          refine TT_vb ok30 (sm3_ok G w) 60 [11] ?_
          simp -implicitDefEqProofs only [↓b30_0, ↓b30_18, ↓b30_28, ↓b30_37, ↓b30_42, ↓b30_48, ↓b30_50, ↓b30_62, ↓b30_67, ↓b30_73, ↓b30_77, ↓b30_85, ↓b30_91, ↓b30_94, ↓b30_100, ↓b30_11, ↓b30_21, b30_0, b30_18, b30_28, b30_37, b30_42, b30_48, b30_50, b30_62, b30_67, b30_73, b30_77, b30_85, b30_91, b30_94, b30_100, b30_11, b30_21, nLE0, layE2, layE3, c4, I32, ↓xb, xb, ps, lpad, lat, aok2, rd2, aaok, aav, alok, alen, aok, akk, csum, isLg, cmpI, clsE, Option.elim, eq_self, List.mem_cons, List.not_mem_nil, or_false, false_or, List.append_nil, List.nil_append, List.cons_append, List.append_eq, List.replicate, List.length_cons, List.length_nil, List.map_cons, List.map_nil, ↓reduceIte, reduceCtorEq, if_true, if_false, true_and, and_true, false_and, and_false, and_self, not_true_eq_false, not_false_eq_true, forall_const, true_implies, false_implies, implies_true, Nat.reduceAdd, Nat.reduceSub, Nat.reduceLT, Nat.reduceLeDiff, Nat.reduceEqDiff, Nat.reduceMul, Nat.reducePow, Nat.add_one_ne_zero, Nat.add_one_sub_one, Nat.add_zero, Nat.zero_add, Int.reduceLT, Int.reduceLE, Int.reduceNeg, Int.reduceAdd, Int.reduceSub, Int.reduceToNat, Int.reduceEq, Int.reduceMul, Int.reducePow, Int.cast_ofNat_Int, Int.toNat_natCast, ne_eq, Bool.false_eq_true, true_or, or_true, or_self, Nat.not_lt_zero, ite_e0, ite_e1, lc_lt, lc_ge, lc_gt, lc_le, lc_eq, Classical.not_not]
          with_reducible repeat' (first | (refine And.intro ?_ ?_) | intro _)
          all_goals try omega
          all_goals first | omega | exact r _
    · rw [if_neg (fun z => c32 z.1)] at q'
      by_cases c3 : s3 = true ∧ s2 < e ∧ t s2 = sbv 0 i
      · have es : wfS t f e i (s1, s2, s3) = (s1, s2 + 1, s3) := by
          unfold wfS
          rw [if_neg c32, if_pos c3]
        rw [es] at ih q'
        obtain ⟨rfl, c4, c5⟩ := c3
        have r := fun l7 => ih l7 (by omega) (by show s1 ≤ i + 1; omega) (by show s2 + 1 ≤ e; omega) q'
        dsimp only at r
        rw [show ((s2 + 1 : Nat) : Int) = (s2 : Int) + 1 by omega] at r
        have et : σ 0 6 0 s2 = sbv 0 i := (t4 s2 (by omega)).trans c5
        refine TT_vb ok30 (sm3_ok G w) 60 [11] ?_
        simp -implicitDefEqProofs only [↓b30_0, ↓b30_18, ↓b30_28, ↓b30_37, ↓b30_42, ↓b30_48, ↓b30_50, ↓b30_62, ↓b30_67, ↓b30_73, ↓b30_77, ↓b30_85, ↓b30_91, ↓b30_94, ↓b30_100, ↓b30_11, ↓b30_21, b30_0, b30_18, b30_28, b30_37, b30_42, b30_48, b30_50, b30_62, b30_67, b30_73, b30_77, b30_85, b30_91, b30_94, b30_100, b30_11, b30_21, nLE0, layE2, layE3, t1, wf6, et, c32, layE7, I32, ↓xb, xb, ps, lpad, lat, aok2, rd2, aaok, aav, alok, alen, aok, akk, csum, isLg, cmpI, clsE, Option.elim, eq_self, List.mem_cons, List.not_mem_nil, or_false, false_or, List.append_nil, List.nil_append, List.cons_append, List.append_eq, List.replicate, List.length_cons, List.length_nil, List.map_cons, List.map_nil, ↓reduceIte, reduceCtorEq, if_true, if_false, true_and, and_true, false_and, and_false, and_self, not_true_eq_false, not_false_eq_true, forall_const, true_implies, false_implies, implies_true, Nat.reduceAdd, Nat.reduceSub, Nat.reduceLT, Nat.reduceLeDiff, Nat.reduceEqDiff, Nat.reduceMul, Nat.reducePow, Nat.add_one_ne_zero, Nat.add_one_sub_one, Nat.add_zero, Nat.zero_add, Int.reduceLT, Int.reduceLE, Int.reduceNeg, Int.reduceAdd, Int.reduceSub, Int.reduceToNat, Int.reduceEq, Int.reduceMul, Int.reducePow, Int.cast_ofNat_Int, Int.toNat_natCast, ne_eq, Bool.false_eq_true, true_or, or_true, or_self, Nat.not_lt_zero, ite_e0, ite_e1, lc_lt, lc_ge, lc_gt, lc_le, lc_eq, Classical.not_not]
        with_reducible repeat' (first | (refine And.intro ?_ ?_) | intro _)
        all_goals try omega
        all_goals first | omega | exact r _
      · have es : wfS t f e i (s1, s2, s3) = (s1, s2, false) := by
          unfold wfS
          rw [if_neg c32, if_neg c3]
        rw [es] at ih q'
        have r := fun l7 => ih l7 (by omega) (by show s1 ≤ i + 1; omega) h2 q'
        dsimp only at r
        cases s3
        · refine TT_vb ok30 (sm3_ok G w) 60 [11] ?_
          simp -implicitDefEqProofs only [↓b30_0, ↓b30_18, ↓b30_28, ↓b30_37, ↓b30_42, ↓b30_48, ↓b30_50, ↓b30_62, ↓b30_67, ↓b30_73, ↓b30_77, ↓b30_85, ↓b30_91, ↓b30_94, ↓b30_100, ↓b30_11, ↓b30_21, b30_0, b30_18, b30_28, b30_37, b30_42, b30_48, b30_50, b30_62, b30_67, b30_73, b30_77, b30_85, b30_91, b30_94, b30_100, b30_11, b30_21, nLE0, layE2, layE3, c32, I32, ↓xb, xb, ps, lpad, lat, aok2, rd2, aaok, aav, alok, alen, aok, akk, csum, isLg, cmpI, clsE, Option.elim, eq_self, List.mem_cons, List.not_mem_nil, or_false, false_or, List.append_nil, List.nil_append, List.cons_append, List.append_eq, List.replicate, List.length_cons, List.length_nil, List.map_cons, List.map_nil, ↓reduceIte, reduceCtorEq, if_true, if_false, true_and, and_true, false_and, and_false, and_self, not_true_eq_false, not_false_eq_true, forall_const, true_implies, false_implies, implies_true, Nat.reduceAdd, Nat.reduceSub, Nat.reduceLT, Nat.reduceLeDiff, Nat.reduceEqDiff, Nat.reduceMul, Nat.reducePow, Nat.add_one_ne_zero, Nat.add_one_sub_one, Nat.add_zero, Nat.zero_add, Int.reduceLT, Int.reduceLE, Int.reduceNeg, Int.reduceAdd, Int.reduceSub, Int.reduceToNat, Int.reduceEq, Int.reduceMul, Int.reducePow, Int.cast_ofNat_Int, Int.toNat_natCast, ne_eq, Bool.false_eq_true, true_or, or_true, or_self, Nat.not_lt_zero, ite_e0, ite_e1, lc_lt, lc_ge, lc_gt, lc_le, lc_eq, Classical.not_not]
          with_reducible repeat' (first | (refine And.intro ?_ ?_) | intro _)
          all_goals try omega
          all_goals first | omega | exact r _
        · by_cases c4 : s2 < e
          · have et : σ 0 6 0 s2 = t s2 := t4 s2 (by omega)
            have c5 : ¬ t s2 = sbv 0 i := fun z => c3 ⟨rfl, c4, z⟩
            refine TT_vb ok30 (sm3_ok G w) 60 [11] ?_
            simp -implicitDefEqProofs only [↓b30_0, ↓b30_18, ↓b30_28, ↓b30_37, ↓b30_42, ↓b30_48, ↓b30_50, ↓b30_62, ↓b30_67, ↓b30_73, ↓b30_77, ↓b30_85, ↓b30_91, ↓b30_94, ↓b30_100, ↓b30_11, ↓b30_21, b30_0, b30_18, b30_28, b30_37, b30_42, b30_48, b30_50, b30_62, b30_67, b30_73, b30_77, b30_85, b30_91, b30_94, b30_100, b30_11, b30_21, nLE0, layE2, layE3, t1, wf6, et, c32, c5, layE7, I32, ↓xb, xb, ps, lpad, lat, aok2, rd2, aaok, aav, alok, alen, aok, akk, csum, isLg, cmpI, clsE, Option.elim, eq_self, List.mem_cons, List.not_mem_nil, or_false, false_or, List.append_nil, List.nil_append, List.cons_append, List.append_eq, List.replicate, List.length_cons, List.length_nil, List.map_cons, List.map_nil, ↓reduceIte, reduceCtorEq, if_true, if_false, true_and, and_true, false_and, and_false, and_self, not_true_eq_false, not_false_eq_true, forall_const, true_implies, false_implies, implies_true, Nat.reduceAdd, Nat.reduceSub, Nat.reduceLT, Nat.reduceLeDiff, Nat.reduceEqDiff, Nat.reduceMul, Nat.reducePow, Nat.add_one_ne_zero, Nat.add_one_sub_one, Nat.add_zero, Nat.zero_add, Int.reduceLT, Int.reduceLE, Int.reduceNeg, Int.reduceAdd, Int.reduceSub, Int.reduceToNat, Int.reduceEq, Int.reduceMul, Int.reducePow, Int.cast_ofNat_Int, Int.toNat_natCast, ne_eq, Bool.false_eq_true, true_or, or_true, or_self, Nat.not_lt_zero, ite_e0, ite_e1, lc_lt, lc_ge, lc_gt, lc_le, lc_eq, Classical.not_not]
            with_reducible repeat' (first | (refine And.intro ?_ ?_) | intro _)
            all_goals try omega
            all_goals first | omega | exact r _
          · refine TT_vb ok30 (sm3_ok G w) 60 [11] ?_
            simp -implicitDefEqProofs only [↓b30_0, ↓b30_18, ↓b30_28, ↓b30_37, ↓b30_42, ↓b30_48, ↓b30_50, ↓b30_62, ↓b30_67, ↓b30_73, ↓b30_77, ↓b30_85, ↓b30_91, ↓b30_94, ↓b30_100, ↓b30_11, ↓b30_21, b30_0, b30_18, b30_28, b30_37, b30_42, b30_48, b30_50, b30_62, b30_67, b30_73, b30_77, b30_85, b30_91, b30_94, b30_100, b30_11, b30_21, nLE0, layE2, layE3, c32, I32, ↓xb, xb, ps, lpad, lat, aok2, rd2, aaok, aav, alok, alen, aok, akk, csum, isLg, cmpI, clsE, Option.elim, eq_self, List.mem_cons, List.not_mem_nil, or_false, false_or, List.append_nil, List.nil_append, List.cons_append, List.append_eq, List.replicate, List.length_cons, List.length_nil, List.map_cons, List.map_nil, ↓reduceIte, reduceCtorEq, if_true, if_false, true_and, and_true, false_and, and_false, and_self, not_true_eq_false, not_false_eq_true, forall_const, true_implies, false_implies, implies_true, Nat.reduceAdd, Nat.reduceSub, Nat.reduceLT, Nat.reduceLeDiff, Nat.reduceEqDiff, Nat.reduceMul, Nat.reducePow, Nat.add_one_ne_zero, Nat.add_one_sub_one, Nat.add_zero, Nat.zero_add, Int.reduceLT, Int.reduceLE, Int.reduceNeg, Int.reduceAdd, Int.reduceSub, Int.reduceToNat, Int.reduceEq, Int.reduceMul, Int.reducePow, Int.cast_ofNat_Int, Int.toNat_natCast, ne_eq, Bool.false_eq_true, true_or, or_true, or_self, Nat.not_lt_zero, ite_e0, ite_e1, lc_lt, lc_ge, lc_gt, lc_le, lc_eq, Classical.not_not]
            with_reducible repeat' (first | (refine And.intro ?_ ?_) | intro _)
            all_goals try omega
            all_goals first | omega | exact r _
set_option maxRecDepth 100000 in
set_option maxHeartbeats 1000000 in
theorem kc_word {t : Nat → Int} {N : Nat} (T : TXt σ t N) (hk : 10 ≤ k) {f e : Nat} (hfe : f ≤ e) (he : e ≤ N) (q : Q (some (vi (wdT t f e : Nat))) σ) : CC G w w k (0, 0) 30 [vr 7 0 0, vi f, vi e] σ Q := by
  have hN := T.2.2.1
  refine CC_vb ok30 (by decide) (sm3_ok G w) 60 [11] (Nat.le_of_ble_eq_true rfl) ?_
  simp -implicitDefEqProofs only [↓b30_0, ↓b30_18, ↓b30_28, ↓b30_37, ↓b30_42, ↓b30_48, ↓b30_50, ↓b30_62, ↓b30_67, ↓b30_73, ↓b30_77, ↓b30_85, ↓b30_91, ↓b30_94, ↓b30_100, ↓b30_11, ↓b30_21, b30_0, b30_18, b30_28, b30_37, b30_42, b30_48, b30_50, b30_62, b30_67, b30_73, b30_77, b30_85, b30_91, b30_94, b30_100, b30_11, b30_21, nLE0, layE2, layE3, hk, I32, ↓xb, xb, ps, lpad, lat, aok2, rd2, aaok, aav, alok, alen, aok, akk, csum, isLg, cmpI, clsE, Option.elim, eq_self, List.mem_cons, List.not_mem_nil, or_false, false_or, List.append_nil, List.nil_append, List.cons_append, List.append_eq, List.replicate, List.length_cons, List.length_nil, List.map_cons, List.map_nil, ↓reduceIte, reduceCtorEq, if_true, if_false, true_and, and_true, false_and, and_false, and_self, not_true_eq_false, not_false_eq_true, forall_const, true_implies, false_implies, implies_true, Nat.reduceAdd, Nat.reduceSub, Nat.reduceLT, Nat.reduceLeDiff, Nat.reduceEqDiff, Nat.reduceMul, Nat.reducePow, Nat.add_one_ne_zero, Nat.add_one_sub_one, Nat.add_zero, Nat.zero_add, Int.reduceLT, Int.reduceLE, Int.reduceNeg, Int.reduceAdd, Int.reduceSub, Int.reduceToNat, Int.reduceEq, Int.reduceMul, Int.reducePow, Int.cast_ofNat_Int, Int.toNat_natCast, ne_eq, Bool.false_eq_true, true_or, or_true, or_self, Nat.not_lt_zero, ite_e0, ite_e1, lc_lt, lc_ge, lc_gt, lc_le, lc_eq, Classical.not_not]
  with_reducible repeat' (first | (refine And.intro ?_ ?_) | intro _)
  all_goals try omega
  all_goals first | omega | skip
  exact kc_wd_l T (by omega) hfe he 116 0 (0, f, true) _ (by omega) (by omega) (by show f ≤ e; omega) q
end LXC

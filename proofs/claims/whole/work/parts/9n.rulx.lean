/-! 9n.rulx: the sum a rule tells, what it holds (check): the contract of a rule -/
section RUX
variable {G : Gl} {w : Wd} {k : Nat} {σ : Mem} {Q : Option AV → Mem → Prop} {s : Nat}
set_option maxRecDepth 100000 in
set_option maxHeartbeats 1000000 in
theorem kx_s_l (hs7 : s ≤ 7) (hk : 5 ≤ k) {wf : Nat → Int} {LL : List (Nat × Int)} (hl : LL.length ≤ 300) (hP : ∀ i, i < LL.length → σ 21 50 0 (300 * s + i) = (((LL.getD i (0, 0)).1 : Nat) : Int) ∧ σ 21 51 0 (300 * s + i) = (LL.getD i (0, 0)).2) {n : Nat} (hn : n ≤ 12) (e2 : σ 21 52 0 s = ((n : Nat) : Int)) (hwd : ∀ j, j < 15 → σ 21 59 0 j = wf j) {u V : Int} (hu : 0 ≤ u ∧ u ≤ 2)
    (q : ∀ σ', same SXs σ σ' → Q (some (vl V)) σ') :
    ∀ (Es : List Cl) (j : Nat) (σ' : Mem), (∀ i, i < Es.length → CcX σ s LL (j + i) (Es.getD i d0)) → (∀ x, x ∈ Es → ClOK x) → j + Es.length = n → sOf wf Es u = V → same SXs σ σ' →
      TT G w w w k (0, 0) 179 5 [some (vr 21 0 0), some (vi s), some (vi u), some (vi ((12 * s + j : Nat) : Int))] [] σ' Q
  | [], j, σ', hC, hO, hj, hV, hs' => by
    have ej : j = n := by simpa using hj
    subst ej
    have g2 : σ' 21 52 0 s = ((j : Nat) : Int) := by rw [hs' 21 52 rfl]; exact e2
    have r := q σ' hs'
    rw [← hV] at r
    have r' : Q (some (vl 0)) σ' := r
    refine TT_vb ok179 (sm3_ok G w) 60 [5] ?_
    simp -implicitDefEqProofs only [↓b179_0, ↓b179_5, ↓b179_20, ↓b179_30, ↓b179_45, ↓b179_62, ↓b179_67, ↓b179_84, ↓b179_85, ↓b179_91, b179_0, b179_5, b179_20, b179_30, b179_45, b179_62, b179_67, b179_84, b179_85, b179_91, nLE3, layE8, g2, n3_178, I32, ↓xb, xb, ps, lpad, lat, aok2, rd2, aaok, aav, alok, alen, aok, akk, csum, isLg, cmpI, clsE, Option.elim, eq_self, List.mem_cons, List.not_mem_nil, or_false, false_or, List.append_nil, List.nil_append, List.cons_append, List.append_eq, List.replicate, List.length_cons, List.length_nil, List.map_cons, List.map_nil, ↓reduceIte, reduceCtorEq, if_true, if_false, true_and, and_true, false_and, and_false, and_self, not_true_eq_false, not_false_eq_true, forall_const, true_implies, false_implies, implies_true, Nat.reduceAdd, Nat.reduceSub, Nat.reduceLT, Nat.reduceLeDiff, Nat.reduceEqDiff, Nat.reduceMul, Nat.reducePow, Nat.add_one_ne_zero, Nat.add_one_sub_one, Nat.add_zero, Nat.zero_add, Int.reduceLT, Int.reduceLE, Int.reduceNeg, Int.reduceAdd, Int.reduceSub, Int.reduceToNat, Int.reduceEq, Int.reduceMul, Int.reducePow, Int.cast_ofNat_Int, Int.toNat_natCast, ne_eq, Bool.false_eq_true, true_or, or_true, or_self, Nat.not_lt_zero, ite_e0, ite_e1, lc_lt, lc_ge, lc_gt, lc_le, lc_eq, Classical.not_not]
    with_reducible repeat' (first | (refine And.intro ?_ ?_) | intro _)
    all_goals try omega
    all_goals first | omega | exact r'
  | x :: Es, j, σ', hC, hO, hj, hV, hs' => by
    rw [List.length_cons] at hj
    have fr : ∀ f, f ≠ 60 → ∀ c, σ' 21 f 0 c = σ 21 f 0 c := fun f h c => hs' 21 f (by show ((21 : Nat) == 21 && f == 60) = false; rw [show (f == 60) = false by simp; omega]; rfl) 0 c
    have g2 : σ' 21 52 0 s = ((n : Nat) : Int) := (fr 52 (by decide) s).trans e2
    have ih := fun σ2 => kx_s_l hs7 hk (wf := wf) hl hP hn e2 hwd hu q Es (j + 1) σ2 (fun i hi => by
      have z := hC (i + 1) (by rw [List.length_cons]; omega)
      rw [show j + (i + 1) = j + 1 + i by omega] at z
      exact z) (fun y hy => hO y (List.mem_cons_of_mem _ hy)) (by omega)
    have ok := hO x List.mem_cons_self
    obtain ⟨a, b, e, h4, _, h5, h6, h7, hS⟩ := hC 0 (by rw [List.length_cons]; omega)
    rw [Nat.add_zero] at h4 h5 h6 h7
    have h4' : σ 21 53 0 (12 * s + j) = x.1 := h4
    have hS' : Seg LL a b e x.2.2.1 x.2.2.2.2 := hS
    have le := hS'.le
    have g4 : σ' 21 53 0 (12 * s + j) = x.1 := (fr 53 (by decide) _).trans h4'
    have g5 : σ' 21 55 0 (12 * s + j) = ((a : Nat) : Int) := (fr 55 (by decide) _).trans h5
    have g6 : σ' 21 56 0 (12 * s + j) = ((b : Nat) : Int) := (fr 56 (by decide) _).trans h6
    have g7 : σ' 21 57 0 (12 * s + j) = ((e : Nat) : Int) := (fr 57 (by decide) _).trans h7
    have ix : (((12 * s + j : Nat)) : Int).toNat = 12 * s + j := Int.toNat_natCast _
    have lt : ¬ (12 * (s : Int) + (n : Int) ≤ ((12 * s + j : Nat) : Int)) := by omega
    have jn : ((12 * s + j : Nat) : Int) + 1 = ((12 * s + (j + 1) : Nat) : Int) := by omega
    have eV : V = if x.1 = u ∧ (x.2.2.2.2 = [] ∨ vOf wf x.2.2.2.2 = 1) then vOf wf x.2.2.1 else sOf wf Es u := hV.symm
    by_cases ks : x.1 = u
    · rcases ok with ⟨k3, _⟩ | ⟨k0, k2, aS, aL, aM, vS, vT⟩
      · omega
      · obtain ⟨v, hv⟩ := vS wf
        have vv := vOf_eq hv (by omega)
        have gP : ∀ (σ2 : Mem), same SXs σ' σ2 → ∀ i, i < LL.length → σ2 21 50 0 (300 * s + i) = (((LL.getD i (0, 0)).1 : Nat) : Int) ∧ σ2 21 51 0 (300 * s + i) = (LL.getD i (0, 0)).2 := fun σ2 s2 i hi => by
          rw [s2 21 50 rfl, s2 21 51 rfl, fr 50 (by decide), fr 51 (by decide)]
          exact hP i hi
        have gw : ∀ (σ2 : Mem), same SXs σ' σ2 → ∀ j, j < 15 → σ2 21 59 0 j = wf j := fun σ2 s2 j hj => by
          rw [s2 21 59 rfl, fr 59 (by decide)]
          exact hwd j hj
        have tell : ∀ (σ2 : Mem), same SXs σ' σ2 → V = v → TT G w w w k (0, 0) 179 67 [some (vr 21 0 0), some (vi s), some (vi u), some (vi ((12 * s + j : Nat) : Int))] [] σ2 Q := fun σ2 s2 eV => by
          have b5 : σ2 21 55 0 (12 * s + j) = ((a : Nat) : Int) := (s2 21 55 rfl 0 _).trans g5
          have b6 : σ2 21 56 0 (12 * s + j) = ((b : Nat) : Int) := (s2 21 56 rfl 0 _).trans g6
          refine TT_vb ok179 (sm3_ok G w) 60 [5] ?_
          simp -implicitDefEqProofs only [↓b179_0, ↓b179_5, ↓b179_20, ↓b179_30, ↓b179_45, ↓b179_62, ↓b179_67, ↓b179_84, ↓b179_85, ↓b179_91, b179_0, b179_5, b179_20, b179_30, b179_45, b179_62, b179_67, b179_84, b179_85, b179_91, nLE3, layE8, ix, b5, b6, n3_178, I32, ↓xb, xb, ps, lpad, lat, aok2, rd2, aaok, aav, alok, alen, aok, akk, csum, isLg, cmpI, clsE, Option.elim, eq_self, List.mem_cons, List.not_mem_nil, or_false, false_or, List.append_nil, List.nil_append, List.cons_append, List.append_eq, List.replicate, List.length_cons, List.length_nil, List.map_cons, List.map_nil, ↓reduceIte, reduceCtorEq, if_true, if_false, true_and, and_true, false_and, and_false, and_self, not_true_eq_false, not_false_eq_true, forall_const, true_implies, false_implies, implies_true, Nat.reduceAdd, Nat.reduceSub, Nat.reduceLT, Nat.reduceLeDiff, Nat.reduceEqDiff, Nat.reduceMul, Nat.reducePow, Nat.add_one_ne_zero, Nat.add_one_sub_one, Nat.add_zero, Nat.zero_add, Int.reduceLT, Int.reduceLE, Int.reduceNeg, Int.reduceAdd, Int.reduceSub, Int.reduceToNat, Int.reduceEq, Int.reduceMul, Int.reducePow, Int.cast_ofNat_Int, Int.toNat_natCast, ne_eq, Bool.false_eq_true, true_or, or_true, or_self, Nat.not_lt_zero, ite_e0, ite_e1, lc_lt, lc_ge, lc_gt, lc_le, lc_eq, Classical.not_not]
          with_reducible repeat' (first | (refine And.intro ?_ ?_) | intro _)
          all_goals try omega
          all_goals first | omega | skip
          refine kx_answer hs7 (by omega) (wf := wf) (L := x.2.2.1) (y0 := v) (by omega) (fun i hi => by
            have z := gP σ2 s2 (a + i) (by omega)
            rw [hS'.get1 hi] at z
            exact z) aS (by omega) (hd_v hv (by omega)) (gw σ2 s2) (fun σ3 s3 => ?_)
          have r := q σ3 ((hs'.trans s2).trans s3)
          rw [eV] at r
          simp -implicitDefEqProofs only [↓b179_0, ↓b179_5, ↓b179_20, ↓b179_30, ↓b179_45, ↓b179_62, ↓b179_67, ↓b179_84, ↓b179_85, ↓b179_91, b179_0, b179_5, b179_20, b179_30, b179_45, b179_62, b179_67, b179_84, b179_85, b179_91, nLE3, layE8, hk, n3_178, I32, ↓xb, xb, ps, lpad, lat, aok2, rd2, aaok, aav, alok, alen, aok, akk, csum, isLg, cmpI, clsE, Option.elim, eq_self, List.mem_cons, List.not_mem_nil, or_false, false_or, List.append_nil, List.nil_append, List.cons_append, List.append_eq, List.replicate, List.length_cons, List.length_nil, List.map_cons, List.map_nil, ↓reduceIte, reduceCtorEq, if_true, if_false, true_and, and_true, false_and, and_false, and_self, not_true_eq_false, not_false_eq_true, forall_const, true_implies, false_implies, implies_true, Nat.reduceAdd, Nat.reduceSub, Nat.reduceLT, Nat.reduceLeDiff, Nat.reduceEqDiff, Nat.reduceMul, Nat.reducePow, Nat.add_one_ne_zero, Nat.add_one_sub_one, Nat.add_zero, Nat.zero_add, Int.reduceLT, Int.reduceLE, Int.reduceNeg, Int.reduceAdd, Int.reduceSub, Int.reduceToNat, Int.reduceEq, Int.reduceMul, Int.reducePow, Int.cast_ofNat_Int, Int.toNat_natCast, ne_eq, Bool.false_eq_true, true_or, or_true, or_self, Nat.not_lt_zero, ite_e0, ite_e1, lc_lt, lc_ge, lc_gt, lc_le, lc_eq, Classical.not_not]
          with_reducible repeat' (first | (refine And.intro ?_ ?_) | intro _)
          all_goals try omega
          all_goals first | omega | exact r
        rcases vT with ⟨lE, mE⟩ | ⟨lN, mN, vTT⟩
        · rw [if_pos ⟨ks, Or.inl mE⟩, vv] at eV
          have be : (b : Int) = (e : Int) := by rw [mE] at le; have := le.2.1; simp at this; omega
          have r := tell σ' same.refl eV
          refine TT_vb ok179 (sm3_ok G w) 60 [5, 67] ?_
          simp -implicitDefEqProofs only [↓b179_0, ↓b179_5, ↓b179_20, ↓b179_30, ↓b179_45, ↓b179_62, ↓b179_67, ↓b179_84, ↓b179_85, ↓b179_91, b179_0, b179_5, b179_20, b179_30, b179_45, b179_62, b179_67, b179_84, b179_85, b179_91, nLE3, layE8, g2, lt, ix, g4, g6, g7, ks, be, n3_178, I32, ↓xb, xb, ps, lpad, lat, aok2, rd2, aaok, aav, alok, alen, aok, akk, csum, isLg, cmpI, clsE, Option.elim, eq_self, List.mem_cons, List.not_mem_nil, or_false, false_or, List.append_nil, List.nil_append, List.cons_append, List.append_eq, List.replicate, List.length_cons, List.length_nil, List.map_cons, List.map_nil, ↓reduceIte, reduceCtorEq, if_true, if_false, true_and, and_true, false_and, and_false, and_self, not_true_eq_false, not_false_eq_true, forall_const, true_implies, false_implies, implies_true, Nat.reduceAdd, Nat.reduceSub, Nat.reduceLT, Nat.reduceLeDiff, Nat.reduceEqDiff, Nat.reduceMul, Nat.reducePow, Nat.add_one_ne_zero, Nat.add_one_sub_one, Nat.add_zero, Nat.zero_add, Int.reduceLT, Int.reduceLE, Int.reduceNeg, Int.reduceAdd, Int.reduceSub, Int.reduceToNat, Int.reduceEq, Int.reduceMul, Int.reducePow, Int.cast_ofNat_Int, Int.toNat_natCast, ne_eq, Bool.false_eq_true, true_or, or_true, or_self, Nat.not_lt_zero, ite_e0, ite_e1, lc_lt, lc_ge, lc_gt, lc_le, lc_eq, Classical.not_not]
          with_reducible repeat' (first | (refine And.intro ?_ ?_) | intro _)
          all_goals try omega
          all_goals first | omega | exact r
        · obtain ⟨y, hy, vL, vM⟩ := vTT wf
          have uv := vOf_eq vM (by omega)
          rw [uv] at eV
          have lpos : 0 < x.2.2.2.2.length := List.length_pos_iff.mpr mN
          have nbe : ¬ ((b : Int) = (e : Int)) := by omega
          refine TT_vb ok179 (sm3_ok G w) 60 [5, 67] ?_
          simp -implicitDefEqProofs only [↓b179_0, ↓b179_5, ↓b179_20, ↓b179_30, ↓b179_45, ↓b179_62, ↓b179_67, ↓b179_84, ↓b179_85, ↓b179_91, b179_0, b179_5, b179_20, b179_30, b179_45, b179_62, b179_67, b179_84, b179_85, b179_91, nLE3, layE8, g2, lt, ix, g4, g6, g7, ks, nbe, n3_178, I32, ↓xb, xb, ps, lpad, lat, aok2, rd2, aaok, aav, alok, alen, aok, akk, csum, isLg, cmpI, clsE, Option.elim, eq_self, List.mem_cons, List.not_mem_nil, or_false, false_or, List.append_nil, List.nil_append, List.cons_append, List.append_eq, List.replicate, List.length_cons, List.length_nil, List.map_cons, List.map_nil, ↓reduceIte, reduceCtorEq, if_true, if_false, true_and, and_true, false_and, and_false, and_self, not_true_eq_false, not_false_eq_true, forall_const, true_implies, false_implies, implies_true, Nat.reduceAdd, Nat.reduceSub, Nat.reduceLT, Nat.reduceLeDiff, Nat.reduceEqDiff, Nat.reduceMul, Nat.reducePow, Nat.add_one_ne_zero, Nat.add_one_sub_one, Nat.add_zero, Nat.zero_add, Int.reduceLT, Int.reduceLE, Int.reduceNeg, Int.reduceAdd, Int.reduceSub, Int.reduceToNat, Int.reduceEq, Int.reduceMul, Int.reducePow, Int.cast_ofNat_Int, Int.toNat_natCast, ne_eq, Bool.false_eq_true, true_or, or_true, or_self, Nat.not_lt_zero, ite_e0, ite_e1, lc_lt, lc_ge, lc_gt, lc_le, lc_eq, Classical.not_not]
          with_reducible repeat' (first | (refine And.intro ?_ ?_) | intro _)
          all_goals try omega
          all_goals first | omega | skip
          refine kx_answer hs7 (by omega) (wf := wf) (L := x.2.2.2.2) (y0 := y) (by omega) (fun i hi => by
            have z := gP σ' same.refl (b + i) (by omega)
            rw [hS'.get2 hi] at z
            exact z) aM (by omega) (hd_v vM (by omega)) (gw σ' same.refl) (fun σ3 s3 => ?_)
          rcases hy with rfl | rfl
          · rw [if_neg (fun z => by rcases z.2 with z | z; exact mN z; omega)] at eV
            have r := ih σ3 eV.symm (hs'.trans s3)
            rw [← jn] at r
            simp -implicitDefEqProofs only [↓b179_0, ↓b179_5, ↓b179_20, ↓b179_30, ↓b179_45, ↓b179_62, ↓b179_67, ↓b179_84, ↓b179_85, ↓b179_91, b179_0, b179_5, b179_20, b179_30, b179_45, b179_62, b179_67, b179_84, b179_85, b179_91, nLE3, layE8, hk, n3_178, I32, ↓xb, xb, ps, lpad, lat, aok2, rd2, aaok, aav, alok, alen, aok, akk, csum, isLg, cmpI, clsE, Option.elim, eq_self, List.mem_cons, List.not_mem_nil, or_false, false_or, List.append_nil, List.nil_append, List.cons_append, List.append_eq, List.replicate, List.length_cons, List.length_nil, List.map_cons, List.map_nil, ↓reduceIte, reduceCtorEq, if_true, if_false, true_and, and_true, false_and, and_false, and_self, not_true_eq_false, not_false_eq_true, forall_const, true_implies, false_implies, implies_true, Nat.reduceAdd, Nat.reduceSub, Nat.reduceLT, Nat.reduceLeDiff, Nat.reduceEqDiff, Nat.reduceMul, Nat.reducePow, Nat.add_one_ne_zero, Nat.add_one_sub_one, Nat.add_zero, Nat.zero_add, Int.reduceLT, Int.reduceLE, Int.reduceNeg, Int.reduceAdd, Int.reduceSub, Int.reduceToNat, Int.reduceEq, Int.reduceMul, Int.reducePow, Int.cast_ofNat_Int, Int.toNat_natCast, ne_eq, Bool.false_eq_true, true_or, or_true, or_self, Nat.not_lt_zero, ite_e0, ite_e1, lc_lt, lc_ge, lc_gt, lc_le, lc_eq, Classical.not_not]
            with_reducible repeat' (first | (refine And.intro ?_ ?_) | intro _)
            all_goals try omega
            all_goals first | omega | exact r
          · rw [if_pos ⟨ks, Or.inr rfl⟩, vv] at eV
            have r := tell σ3 s3 eV
            simp -implicitDefEqProofs only [↓b179_0, ↓b179_5, ↓b179_20, ↓b179_30, ↓b179_45, ↓b179_62, ↓b179_67, ↓b179_84, ↓b179_85, ↓b179_91, b179_0, b179_5, b179_20, b179_30, b179_45, b179_62, b179_67, b179_84, b179_85, b179_91, nLE3, layE8, hk, n3_178, I32, ↓xb, xb, ps, lpad, lat, aok2, rd2, aaok, aav, alok, alen, aok, akk, csum, isLg, cmpI, clsE, Option.elim, eq_self, List.mem_cons, List.not_mem_nil, or_false, false_or, List.append_nil, List.nil_append, List.cons_append, List.append_eq, List.replicate, List.length_cons, List.length_nil, List.map_cons, List.map_nil, ↓reduceIte, reduceCtorEq, if_true, if_false, true_and, and_true, false_and, and_false, and_self, not_true_eq_false, not_false_eq_true, forall_const, true_implies, false_implies, implies_true, Nat.reduceAdd, Nat.reduceSub, Nat.reduceLT, Nat.reduceLeDiff, Nat.reduceEqDiff, Nat.reduceMul, Nat.reducePow, Nat.add_one_ne_zero, Nat.add_one_sub_one, Nat.add_zero, Nat.zero_add, Int.reduceLT, Int.reduceLE, Int.reduceNeg, Int.reduceAdd, Int.reduceSub, Int.reduceToNat, Int.reduceEq, Int.reduceMul, Int.reducePow, Int.cast_ofNat_Int, Int.toNat_natCast, ne_eq, Bool.false_eq_true, true_or, or_true, or_self, Nat.not_lt_zero, ite_e0, ite_e1, lc_lt, lc_ge, lc_gt, lc_le, lc_eq, Classical.not_not]
            with_reducible repeat' (first | (refine And.intro ?_ ?_) | intro _)
            all_goals try omega
            all_goals first | omega | exact r
    · rw [if_neg (fun z => ks z.1)] at eV
      have r := ih σ' eV.symm hs'
      rw [← jn] at r
      refine TT_vb ok179 (sm3_ok G w) 60 [5] ?_
      simp -implicitDefEqProofs only [↓b179_0, ↓b179_5, ↓b179_20, ↓b179_30, ↓b179_45, ↓b179_62, ↓b179_67, ↓b179_84, ↓b179_85, ↓b179_91, b179_0, b179_5, b179_20, b179_30, b179_45, b179_62, b179_67, b179_84, b179_85, b179_91, nLE3, layE8, g2, lt, ix, g4, ks, n3_178, I32, ↓xb, xb, ps, lpad, lat, aok2, rd2, aaok, aav, alok, alen, aok, akk, csum, isLg, cmpI, clsE, Option.elim, eq_self, List.mem_cons, List.not_mem_nil, or_false, false_or, List.append_nil, List.nil_append, List.cons_append, List.append_eq, List.replicate, List.length_cons, List.length_nil, List.map_cons, List.map_nil, ↓reduceIte, reduceCtorEq, if_true, if_false, true_and, and_true, false_and, and_false, and_self, not_true_eq_false, not_false_eq_true, forall_const, true_implies, false_implies, implies_true, Nat.reduceAdd, Nat.reduceSub, Nat.reduceLT, Nat.reduceLeDiff, Nat.reduceEqDiff, Nat.reduceMul, Nat.reducePow, Nat.add_one_ne_zero, Nat.add_one_sub_one, Nat.add_zero, Nat.zero_add, Int.reduceLT, Int.reduceLE, Int.reduceNeg, Int.reduceAdd, Int.reduceSub, Int.reduceToNat, Int.reduceEq, Int.reduceMul, Int.reducePow, Int.cast_ofNat_Int, Int.toNat_natCast, ne_eq, Bool.false_eq_true, true_or, or_true, or_self, Nat.not_lt_zero, ite_e0, ite_e1, lc_lt, lc_ge, lc_gt, lc_le, lc_eq, Classical.not_not]
      with_reducible repeat' (first | (refine And.intro ?_ ?_) | intro _)
      all_goals try omega
      all_goals first | omega | exact r
set_option maxRecDepth 100000 in
set_option maxHeartbeats 1000000 in
theorem kx_h_l (hs7 : s ≤ 7) (hk : 4 ≤ k) {LL : List (Nat × Int)} {n : Nat} (hn : n ≤ 12) (e2 : σ 21 52 0 s = ((n : Nat) : Int)) {V : Int} (q : Q (some (vi V)) σ) :
    ∀ (Es : List Cl) (j : Nat) (v : Int), (∀ i, i < Es.length → CcX σ s LL (j + i) (Es.getD i d0)) → j + Es.length = n → Es.foldl (fun v x => if x.1 = 3 then x.2.1 else v) v = V →
      TT G w w w k (0, 0) 180 7 [some (vr 21 0 0), some (vi s), some (vi v), some (vi ((12 * s + j : Nat) : Int))] [] σ Q
  | [], j, v, hC, hj, hV => by
    have ej : j = n := by simpa using hj
    subst ej
    have ev : v = V := hV
    subst ev
    refine TT_vb ok180 (sm3_ok G w) 60 [7] ?_
    simp -implicitDefEqProofs only [↓b180_0, ↓b180_7, ↓b180_22, ↓b180_32, ↓b180_41, ↓b180_42, ↓b180_49, b180_0, b180_7, b180_22, b180_32, b180_41, b180_42, b180_49, nLE3, layE8, e2, I32, ↓xb, xb, ps, lpad, lat, aok2, rd2, aaok, aav, alok, alen, aok, akk, csum, isLg, cmpI, clsE, Option.elim, eq_self, List.mem_cons, List.not_mem_nil, or_false, false_or, List.append_nil, List.nil_append, List.cons_append, List.append_eq, List.replicate, List.length_cons, List.length_nil, List.map_cons, List.map_nil, ↓reduceIte, reduceCtorEq, if_true, if_false, true_and, and_true, false_and, and_false, and_self, not_true_eq_false, not_false_eq_true, forall_const, true_implies, false_implies, implies_true, Nat.reduceAdd, Nat.reduceSub, Nat.reduceLT, Nat.reduceLeDiff, Nat.reduceEqDiff, Nat.reduceMul, Nat.reducePow, Nat.add_one_ne_zero, Nat.add_one_sub_one, Nat.add_zero, Nat.zero_add, Int.reduceLT, Int.reduceLE, Int.reduceNeg, Int.reduceAdd, Int.reduceSub, Int.reduceToNat, Int.reduceEq, Int.reduceMul, Int.reducePow, Int.cast_ofNat_Int, Int.toNat_natCast, ne_eq, Bool.false_eq_true, true_or, or_true, or_self, Nat.not_lt_zero, ite_e0, ite_e1, lc_lt, lc_ge, lc_gt, lc_le, lc_eq, Classical.not_not]
    with_reducible repeat' (first | (refine And.intro ?_ ?_) | intro _)
    all_goals try omega
    all_goals first | omega | exact q
  | x :: Es, j, v, hC, hj, hV => by
    rw [List.length_cons] at hj
    have ih := fun v => kx_h_l hs7 hk (LL := LL) hn e2 q Es (j + 1) v (fun i hi => by
      have z := hC (i + 1) (by rw [List.length_cons]; omega)
      rw [show j + (i + 1) = j + 1 + i by omega] at z
      exact z) (by omega)
    obtain ⟨a, b, e, h3, h4, _⟩ := hC 0 (by rw [List.length_cons]; omega)
    rw [Nat.add_zero] at h3 h4
    have g3 : σ 21 53 0 (12 * s + j) = x.1 := h3
    have g4 : x.1 = 3 → σ 21 54 0 (12 * s + j) = x.2.1 := h4
    have ix : (((12 * s + j : Nat)) : Int).toNat = 12 * s + j := Int.toNat_natCast _
    have lt : ¬ (12 * (s : Int) + (n : Int) ≤ ((12 * s + j : Nat) : Int)) := by omega
    have jn : ((12 * s + j : Nat) : Int) + 1 = ((12 * s + (j + 1) : Nat) : Int) := by omega
    rw [List.foldl_cons] at hV
    by_cases k3 : x.1 = 3
    · have e4 := g4 k3
      rw [if_pos k3] at hV
      have r := ih _ hV
      rw [← jn] at r
      refine TT_vb ok180 (sm3_ok G w) 60 [7] ?_
      simp -implicitDefEqProofs only [↓b180_0, ↓b180_7, ↓b180_22, ↓b180_32, ↓b180_41, ↓b180_42, ↓b180_49, b180_0, b180_7, b180_22, b180_32, b180_41, b180_42, b180_49, nLE3, layE8, e2, lt, ix, g3, k3, e4, I32, ↓xb, xb, ps, lpad, lat, aok2, rd2, aaok, aav, alok, alen, aok, akk, csum, isLg, cmpI, clsE, Option.elim, eq_self, List.mem_cons, List.not_mem_nil, or_false, false_or, List.append_nil, List.nil_append, List.cons_append, List.append_eq, List.replicate, List.length_cons, List.length_nil, List.map_cons, List.map_nil, ↓reduceIte, reduceCtorEq, if_true, if_false, true_and, and_true, false_and, and_false, and_self, not_true_eq_false, not_false_eq_true, forall_const, true_implies, false_implies, implies_true, Nat.reduceAdd, Nat.reduceSub, Nat.reduceLT, Nat.reduceLeDiff, Nat.reduceEqDiff, Nat.reduceMul, Nat.reducePow, Nat.add_one_ne_zero, Nat.add_one_sub_one, Nat.add_zero, Nat.zero_add, Int.reduceLT, Int.reduceLE, Int.reduceNeg, Int.reduceAdd, Int.reduceSub, Int.reduceToNat, Int.reduceEq, Int.reduceMul, Int.reducePow, Int.cast_ofNat_Int, Int.toNat_natCast, ne_eq, Bool.false_eq_true, true_or, or_true, or_self, Nat.not_lt_zero, ite_e0, ite_e1, lc_lt, lc_ge, lc_gt, lc_le, lc_eq, Classical.not_not]
      with_reducible repeat' (first | (refine And.intro ?_ ?_) | intro _)
      all_goals try omega
      all_goals first | omega | exact r
    · rw [if_neg k3] at hV
      have r := ih _ hV
      rw [← jn] at r
      refine TT_vb ok180 (sm3_ok G w) 60 [7] ?_
      simp -implicitDefEqProofs only [↓b180_0, ↓b180_7, ↓b180_22, ↓b180_32, ↓b180_41, ↓b180_42, ↓b180_49, b180_0, b180_7, b180_22, b180_32, b180_41, b180_42, b180_49, nLE3, layE8, e2, lt, ix, g3, k3, I32, ↓xb, xb, ps, lpad, lat, aok2, rd2, aaok, aav, alok, alen, aok, akk, csum, isLg, cmpI, clsE, Option.elim, eq_self, List.mem_cons, List.not_mem_nil, or_false, false_or, List.append_nil, List.nil_append, List.cons_append, List.append_eq, List.replicate, List.length_cons, List.length_nil, List.map_cons, List.map_nil, ↓reduceIte, reduceCtorEq, if_true, if_false, true_and, and_true, false_and, and_false, and_self, not_true_eq_false, not_false_eq_true, forall_const, true_implies, false_implies, implies_true, Nat.reduceAdd, Nat.reduceSub, Nat.reduceLT, Nat.reduceLeDiff, Nat.reduceEqDiff, Nat.reduceMul, Nat.reducePow, Nat.add_one_ne_zero, Nat.add_one_sub_one, Nat.add_zero, Nat.zero_add, Int.reduceLT, Int.reduceLE, Int.reduceNeg, Int.reduceAdd, Int.reduceSub, Int.reduceToNat, Int.reduceEq, Int.reduceMul, Int.reducePow, Int.cast_ofNat_Int, Int.toNat_natCast, ne_eq, Bool.false_eq_true, true_or, or_true, or_self, Nat.not_lt_zero, ite_e0, ite_e1, lc_lt, lc_ge, lc_gt, lc_le, lc_eq, Classical.not_not]
      with_reducible repeat' (first | (refine And.intro ?_ ?_) | intro _)
      all_goals try omega
      all_goals first | omega | exact r
set_option maxRecDepth 100000 in
set_option maxHeartbeats 1000000 in
theorem kx_RuX (hs7 : s ≤ 7) {Cs : List Cl} (hC : ∀ x, x ∈ Cs → ClOK x) (hl : Cs.length ≤ 12) (R : RcG σ s Cs) : RuX G w 6 s (uOf Cs) σ := by
  obtain ⟨LL, l300, hP, hD, e2⟩ := R
  have cx : ∀ σ' : Mem, (∀ f, 50 ≤ f → f ≤ 57 → ∀ r c, σ' 21 f r c = σ 21 f r c) → ∀ i, i < Cs.length → CcX σ' s LL (0 + i) (Cs.getD i d0) := fun σ' fr i hi => by
    rw [Nat.zero_add]
    obtain ⟨a, b, e, h3, h4, h5, h6, h7, hS⟩ := hD i hi
    exact ⟨a, b, e, (fr 53 (by omega) (by omega) 0 _).trans h3, fun z => (fr 54 (by omega) (by omega) 0 _).trans (h4 z), (fr 55 (by omega) (by omega) 0 _).trans h5, (fr 56 (by omega) (by omega) 0 _).trans h6, (fr 57 (by omega) (by omega) 0 _).trans h7, hS⟩
  have z12 : ((12 * s + 0 : Nat) : Int) = 12 * (s : Int) := by omega
  refine ⟨hdV_r hC, fun σ' Q k' hk fr q => ?_, fun σ' Q k' u hk fr hu q => ?_⟩
  · have g := kx_h_l (G := G) (w := w) (k := k') (σ := σ') (Q := Q) hs7 (by omega) (LL := LL) hl ((fr 52 (by omega) (by omega) 0 s).trans e2) (V := hdV Cs) q Cs 0 0 (cx σ' fr) (Nat.zero_add _) rfl
    rw [z12] at g
    refine CC_vb ok180 (by decide) (sm3_ok G w) 60 [7] (Nat.le_of_ble_eq_true rfl) ?_
    simp -implicitDefEqProofs only [↓b180_0, ↓b180_7, ↓b180_22, ↓b180_32, ↓b180_41, ↓b180_42, ↓b180_49, b180_0, b180_7, b180_22, b180_32, b180_41, b180_42, b180_49, nLE3, layE8, hk, I32, ↓xb, xb, ps, lpad, lat, aok2, rd2, aaok, aav, alok, alen, aok, akk, csum, isLg, cmpI, clsE, Option.elim, eq_self, List.mem_cons, List.not_mem_nil, or_false, false_or, List.append_nil, List.nil_append, List.cons_append, List.append_eq, List.replicate, List.length_cons, List.length_nil, List.map_cons, List.map_nil, ↓reduceIte, reduceCtorEq, if_true, if_false, true_and, and_true, false_and, and_false, and_self, not_true_eq_false, not_false_eq_true, forall_const, true_implies, false_implies, implies_true, Nat.reduceAdd, Nat.reduceSub, Nat.reduceLT, Nat.reduceLeDiff, Nat.reduceEqDiff, Nat.reduceMul, Nat.reducePow, Nat.add_one_ne_zero, Nat.add_one_sub_one, Nat.add_zero, Nat.zero_add, Int.reduceLT, Int.reduceLE, Int.reduceNeg, Int.reduceAdd, Int.reduceSub, Int.reduceToNat, Int.reduceEq, Int.reduceMul, Int.reducePow, Int.cast_ofNat_Int, Int.toNat_natCast, ne_eq, Bool.false_eq_true, true_or, or_true, or_self, Nat.not_lt_zero, ite_e0, ite_e1, lc_lt, lc_ge, lc_gt, lc_le, lc_eq, Classical.not_not]
    with_reducible repeat' (first | (refine And.intro ?_ ?_) | intro _)
    all_goals try omega
    all_goals first | omega | exact g
  · have sv : sOf (wx σ') Cs u = (uOf Cs).1 (u + 15).toNat (wx σ') := by
      show sOf (wx σ') Cs u = sOf (wx σ') Cs (((u + 15).toNat : Int) - 15)
      rw [show (((u + 15).toNat : Nat) : Int) - 15 = u by omega]
    have g := kx_s_l (G := G) (w := w) (k := k') (σ := σ') (Q := Q) hs7 (by omega) (wf := wx σ') (LL := LL) l300 (fun i hi => by rw [fr 50 (by omega) (by omega), fr 51 (by omega) (by omega)]; exact hP i hi) hl ((fr 52 (by omega) (by omega) 0 s).trans e2) (fun j hj => by unfold wx; rw [if_pos hj]) (u := u) (by omega) q Cs 0 σ' (cx σ' fr) hC (Nat.zero_add _) sv same.refl
    rw [z12] at g
    refine CC_vb ok179 (by decide) (sm3_ok G w) 60 [5] (Nat.le_of_ble_eq_true rfl) ?_
    simp -implicitDefEqProofs only [↓b179_0, ↓b179_5, ↓b179_20, ↓b179_30, ↓b179_45, ↓b179_62, ↓b179_67, ↓b179_84, ↓b179_85, ↓b179_91, b179_0, b179_5, b179_20, b179_30, b179_45, b179_62, b179_67, b179_84, b179_85, b179_91, nLE3, layE8, hk, n3_178, I32, ↓xb, xb, ps, lpad, lat, aok2, rd2, aaok, aav, alok, alen, aok, akk, csum, isLg, cmpI, clsE, Option.elim, eq_self, List.mem_cons, List.not_mem_nil, or_false, false_or, List.append_nil, List.nil_append, List.cons_append, List.append_eq, List.replicate, List.length_cons, List.length_nil, List.map_cons, List.map_nil, ↓reduceIte, reduceCtorEq, if_true, if_false, true_and, and_true, false_and, and_false, and_self, not_true_eq_false, not_false_eq_true, forall_const, true_implies, false_implies, implies_true, Nat.reduceAdd, Nat.reduceSub, Nat.reduceLT, Nat.reduceLeDiff, Nat.reduceEqDiff, Nat.reduceMul, Nat.reducePow, Nat.add_one_ne_zero, Nat.add_one_sub_one, Nat.add_zero, Nat.zero_add, Int.reduceLT, Int.reduceLE, Int.reduceNeg, Int.reduceAdd, Int.reduceSub, Int.reduceToNat, Int.reduceEq, Int.reduceMul, Int.reducePow, Int.cast_ofNat_Int, Int.toNat_natCast, ne_eq, Bool.false_eq_true, true_or, or_true, or_self, Nat.not_lt_zero, ite_e0, ite_e1, lc_lt, lc_ge, lc_gt, lc_le, lc_eq, Classical.not_not]
    with_reducible repeat' (first | (refine And.intro ?_ ?_) | intro _)
    all_goals try omega
    all_goals first | omega | exact g
end RUX

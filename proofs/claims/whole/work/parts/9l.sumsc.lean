/-! 9l.sumsc: the sum that a rule tells (class): the contract of a rule -/
section SUC
variable {G : Gl} {w : Wd} {k : Nat} {σ : Mem} {Q : Option AV → Mem → Prop} {o : Nat}
theorem hd_v {wf : Nat → Int} {n : Nat} {L : List (Nat × Int)} {v : Int} (h : VS wf n L [v]) (hn : n ≤ 32) : evL wf L [] = some [v] := h [] (by show 0 + n ≤ 32; omega)
set_option maxRecDepth 100000 in
set_option maxHeartbeats 1000000 in
theorem kc_s_l (ho : 12 ≤ o ∧ o ≤ 20) (hk : 5 ≤ k) {wf : Nat → Int} {LL : List (Nat × Int)} (hl : LL.length ≤ 400) (hP : ∀ i, i < LL.length → σ o 8 0 i = cP (LL.getD i (0, 0))) {n : Nat} (hn : n ≤ 12) (e2 : σ o 2 0 0 = ((n : Nat) : Int)) (hwd : ∀ j, j < 15 → σ 8 1 0 j = wf j) {s V : Int} (hs : 0 ≤ s ∧ s ≤ 2)
    (q : ∀ σ', same (fun a f => a == o && f == 9) σ σ' → Q (some (vl V)) σ') :
    ∀ (Es : List Cl) (j : Nat) (σ' : Mem) (l4 : Option AV), (∀ i, i < Es.length → CcC σ o LL (j + i) (Es.getD i d0)) → (∀ x, x ∈ Es → ClOK x ∧ x.1 ≠ 3) → j + Es.length = n → sOf wf Es s = V → same (fun a f => a == o && f == 9) σ σ' →
      TT G w w w k (0, 0) 39 2 [some (vr o 0 0), some (vi (s + 15)), some (vr 8 1 0), some (vi j), l4] [] σ' Q
  | [], j, σ', l4, hC, hO, hj, hV, hs' => by
    have h22 : o < 22 := by omega
    have hcl := ro_cls ho
    have ej : j = n := by simpa using hj
    subst ej
    have g2 : σ' o 2 0 0 = ((j : Nat) : Int) := by rw [hs' o 2 (by simp)]; exact e2
    have r := q σ' hs'
    rw [← hV] at r
    have r' : Q (some (vl 0)) σ' := r
    refine TT_vb ok39 (sm3_ok G w) 60 [2] ?_
    simp -implicitDefEqProofs only [↓b39_0, ↓b39_2, ↓b39_10, ↓b39_20, ↓b39_35, ↓b39_39, ↓b39_40, ↓b39_47, ↓b39_64, ↓b39_69, ↓b39_86, ↓b39_87, ↓b39_93, b39_0, b39_2, b39_10, b39_20, b39_35, b39_39, b39_40, b39_47, b39_64, b39_69, b39_86, b39_87, b39_93, nLE0, layE3, hcl, h22, g2, n3_40, I32, ↓xb, xb, ps, lpad, lat, aok2, rd2, aaok, aav, alok, alen, aok, akk, csum, isLg, cmpI, clsE, Option.elim, eq_self, List.mem_cons, List.not_mem_nil, or_false, false_or, List.append_nil, List.nil_append, List.cons_append, List.append_eq, List.replicate, List.length_cons, List.length_nil, List.map_cons, List.map_nil, ↓reduceIte, reduceCtorEq, if_true, if_false, true_and, and_true, false_and, and_false, and_self, not_true_eq_false, not_false_eq_true, forall_const, true_implies, false_implies, implies_true, Nat.reduceAdd, Nat.reduceSub, Nat.reduceLT, Nat.reduceLeDiff, Nat.reduceEqDiff, Nat.reduceMul, Nat.reducePow, Nat.add_one_ne_zero, Nat.add_one_sub_one, Nat.add_zero, Nat.zero_add, Int.reduceLT, Int.reduceLE, Int.reduceNeg, Int.reduceAdd, Int.reduceSub, Int.reduceToNat, Int.reduceEq, Int.reduceMul, Int.reducePow, Int.cast_ofNat_Int, Int.toNat_natCast, ne_eq, Bool.false_eq_true, true_or, or_true, or_self, Nat.not_lt_zero, ite_e0, ite_e1, lc_lt, lc_ge, lc_gt, lc_le, lc_eq, Classical.not_not]
    with_reducible repeat' (first | (refine And.intro ?_ ?_) | intro _)
    all_goals try omega
    all_goals first | omega | exact r'
  | x :: Es, j, σ', l4, hC, hO, hj, hV, hs' => by
    have h22 : o < 22 := by omega
    have hcl := ro_cls ho
    rw [List.length_cons] at hj
    have fr : ∀ f, f ≠ 9 → ∀ c, σ' o f 0 c = σ o f 0 c := fun f h c => hs' o f (by simp [h]) 0 c
    have g2 : σ' o 2 0 0 = ((n : Nat) : Int) := (fr 2 (by decide) 0).trans e2
    have g8 : ∀ i, i < LL.length → σ' o 8 0 i = cP (LL.getD i (0, 0)) := fun i hi => (fr 8 (by decide) i).trans (hP i hi)
    have gw : ∀ j, j < 15 → σ' 8 1 0 j = wf j := fun j hj => by rw [hs' 8 1 (by show ((8 == o) && 1 == 9) = false; simp)]; exact hwd j hj
    have ih := fun σ2 l4 => kc_s_l ho hk (wf := wf) hl hP hn e2 hwd hs q Es (j + 1) σ2 l4 (fun i hi => by
      have z := hC (i + 1) (by rw [List.length_cons]; omega)
      rw [show j + (i + 1) = j + 1 + i by omega] at z
      exact z) (fun y hy => hO y (List.mem_cons_of_mem _ hy)) (by omega)
    obtain ⟨ok, n3⟩ := hO x List.mem_cons_self
    obtain ⟨a, b, e, h4, h5, h6, h7, hS⟩ := hC 0 (by rw [List.length_cons]; omega)
    rw [Nat.add_zero] at h4 h5 h6 h7
    have h4' : σ o 4 0 j = x.1 + 15 := h4
    have hS' : Seg LL a b e x.2.2.1 x.2.2.2.1 := hS
    have le := hS'.le
    have g4 : σ' o 4 0 j = x.1 + 15 := (fr 4 (by decide) j).trans h4'
    have g5 : σ' o 5 0 j = ((a : Nat) : Int) := (fr 5 (by decide) j).trans h5
    have g6 : σ' o 6 0 j = ((b : Nat) : Int) := (fr 6 (by decide) j).trans h6
    have g7 : σ' o 7 0 j = ((e : Nat) : Int) := (fr 7 (by decide) j).trans h7
    have lt : ¬ ((n : Int) ≤ (j : Int)) := by omega
    rcases ok with ⟨k3, _⟩ | ⟨k0, k2, aS, aL, aM, vS, vT⟩
    · exact absurd k3 n3
    · obtain ⟨v, hv⟩ := vS wf
      have vv := vOf_eq hv (by omega)
      -- the sum is told
      have tell : ∀ (σ2 : Mem) (l4 : Option AV), same (fun a f => a == o && f == 9) σ' σ2 → V = v → TT G w w w k (0, 0) 39 69 [some (vr o 0 0), some (vi (s + 15)), some (vr 8 1 0), some (vi j), l4] [] σ2 Q := fun σ2 l4 s2 eV => by
        have fr2 : ∀ f, f ≠ 9 → ∀ c, σ2 o f 0 c = σ' o f 0 c := fun f h c => s2 o f (by simp [h]) 0 c
        have b5 := (fr2 5 (by decide) j).trans g5
        have b6 := (fr2 6 (by decide) j).trans g6
        refine TT_vb ok39 (sm3_ok G w) 60 [2] ?_
        simp -implicitDefEqProofs only [↓b39_0, ↓b39_2, ↓b39_10, ↓b39_20, ↓b39_35, ↓b39_39, ↓b39_40, ↓b39_47, ↓b39_64, ↓b39_69, ↓b39_86, ↓b39_87, ↓b39_93, b39_0, b39_2, b39_10, b39_20, b39_35, b39_39, b39_40, b39_47, b39_64, b39_69, b39_86, b39_87, b39_93, nLE0, layE3, hcl, h22, b5, b6, n3_40, I32, ↓xb, xb, ps, lpad, lat, aok2, rd2, aaok, aav, alok, alen, aok, akk, csum, isLg, cmpI, clsE, Option.elim, eq_self, List.mem_cons, List.not_mem_nil, or_false, false_or, List.append_nil, List.nil_append, List.cons_append, List.append_eq, List.replicate, List.length_cons, List.length_nil, List.map_cons, List.map_nil, ↓reduceIte, reduceCtorEq, if_true, if_false, true_and, and_true, false_and, and_false, and_self, not_true_eq_false, not_false_eq_true, forall_const, true_implies, false_implies, implies_true, Nat.reduceAdd, Nat.reduceSub, Nat.reduceLT, Nat.reduceLeDiff, Nat.reduceEqDiff, Nat.reduceMul, Nat.reducePow, Nat.add_one_ne_zero, Nat.add_one_sub_one, Nat.add_zero, Nat.zero_add, Int.reduceLT, Int.reduceLE, Int.reduceNeg, Int.reduceAdd, Int.reduceSub, Int.reduceToNat, Int.reduceEq, Int.reduceMul, Int.reducePow, Int.cast_ofNat_Int, Int.toNat_natCast, ne_eq, Bool.false_eq_true, true_or, or_true, or_self, Nat.not_lt_zero, ite_e0, ite_e1, lc_lt, lc_ge, lc_gt, lc_le, lc_eq, Classical.not_not]
        with_reducible repeat' (first | (refine And.intro ?_ ?_) | intro _)
        all_goals try omega
        all_goals first | omega | skip
        refine kc_worth ho (by omega) (wf := wf) (L := x.2.2.1) (S' := [v]) (by omega) (fun i hi => by rw [fr2 8 (by decide), g8 _ (by omega), hS'.get1 hi]) aS (by omega) (hd_v hv (by omega)) (fun j hj => by rw [s2 8 1 (by show ((8 == o) && 1 == 9) = false; simp)]; exact gw j hj) (fun σ3 s3 => ?_)
        have r := q σ3 ((hs'.trans s2).trans s3)
        rw [eV] at r
        have r' : Q (some (vl (([v] : List Int).headD 0))) σ3 := r
        simp -implicitDefEqProofs only [↓b39_0, ↓b39_2, ↓b39_10, ↓b39_20, ↓b39_35, ↓b39_39, ↓b39_40, ↓b39_47, ↓b39_64, ↓b39_69, ↓b39_86, ↓b39_87, ↓b39_93, b39_0, b39_2, b39_10, b39_20, b39_35, b39_39, b39_40, b39_47, b39_64, b39_69, b39_86, b39_87, b39_93, nLE0, layE3, hk, n3_40, I32, ↓xb, xb, ps, lpad, lat, aok2, rd2, aaok, aav, alok, alen, aok, akk, csum, isLg, cmpI, clsE, Option.elim, eq_self, List.mem_cons, List.not_mem_nil, or_false, false_or, List.append_nil, List.nil_append, List.cons_append, List.append_eq, List.replicate, List.length_cons, List.length_nil, List.map_cons, List.map_nil, ↓reduceIte, reduceCtorEq, if_true, if_false, true_and, and_true, false_and, and_false, and_self, not_true_eq_false, not_false_eq_true, forall_const, true_implies, false_implies, implies_true, Nat.reduceAdd, Nat.reduceSub, Nat.reduceLT, Nat.reduceLeDiff, Nat.reduceEqDiff, Nat.reduceMul, Nat.reducePow, Nat.add_one_ne_zero, Nat.add_one_sub_one, Nat.add_zero, Nat.zero_add, Int.reduceLT, Int.reduceLE, Int.reduceNeg, Int.reduceAdd, Int.reduceSub, Int.reduceToNat, Int.reduceEq, Int.reduceMul, Int.reducePow, Int.cast_ofNat_Int, Int.toNat_natCast, ne_eq, Bool.false_eq_true, true_or, or_true, or_self, Nat.not_lt_zero, ite_e0, ite_e1, lc_lt, lc_ge, lc_gt, lc_le, lc_eq, Classical.not_not]
        with_reducible repeat' (first | (refine And.intro ?_ ?_) | intro _)
        all_goals try omega
        all_goals first | omega | exact r'
      have eV : V = if x.1 = s ∧ (x.2.2.2.2 = [] ∨ vOf wf x.2.2.2.2 = 1) then vOf wf x.2.2.1 else sOf wf Es s := hV.symm
      by_cases ks : x.1 = s
      · have k15 : x.1 + 15 = s + 15 := by omega
        rcases vT with ⟨lE, mE⟩ | ⟨lN, mN, vTT⟩
        · rw [if_pos ⟨ks, Or.inl mE⟩, vv] at eV
          have be : (b : Int) = (e : Int) := by rw [lE] at le; have := le.2.1; simp at this; omega
          have r := fun l4 => tell σ' l4 same.refl eV
          refine TT_vb ok39 (sm3_ok G w) 60 [2, 69] ?_
          simp -implicitDefEqProofs only [↓b39_0, ↓b39_2, ↓b39_10, ↓b39_20, ↓b39_35, ↓b39_39, ↓b39_40, ↓b39_47, ↓b39_64, ↓b39_69, ↓b39_86, ↓b39_87, ↓b39_93, b39_0, b39_2, b39_10, b39_20, b39_35, b39_39, b39_40, b39_47, b39_64, b39_69, b39_86, b39_87, b39_93, nLE0, layE3, hcl, h22, g2, lt, g4, g6, g7, k15, be, n3_40, I32, ↓xb, xb, ps, lpad, lat, aok2, rd2, aaok, aav, alok, alen, aok, akk, csum, isLg, cmpI, clsE, Option.elim, eq_self, List.mem_cons, List.not_mem_nil, or_false, false_or, List.append_nil, List.nil_append, List.cons_append, List.append_eq, List.replicate, List.length_cons, List.length_nil, List.map_cons, List.map_nil, ↓reduceIte, reduceCtorEq, if_true, if_false, true_and, and_true, false_and, and_false, and_self, not_true_eq_false, not_false_eq_true, forall_const, true_implies, false_implies, implies_true, Nat.reduceAdd, Nat.reduceSub, Nat.reduceLT, Nat.reduceLeDiff, Nat.reduceEqDiff, Nat.reduceMul, Nat.reducePow, Nat.add_one_ne_zero, Nat.add_one_sub_one, Nat.add_zero, Nat.zero_add, Int.reduceLT, Int.reduceLE, Int.reduceNeg, Int.reduceAdd, Int.reduceSub, Int.reduceToNat, Int.reduceEq, Int.reduceMul, Int.reducePow, Int.cast_ofNat_Int, Int.toNat_natCast, ne_eq, Bool.false_eq_true, true_or, or_true, or_self, Nat.not_lt_zero, ite_e0, ite_e1, lc_lt, lc_ge, lc_gt, lc_le, lc_eq, Classical.not_not]
          with_reducible repeat' (first | (refine And.intro ?_ ?_) | intro _)
          all_goals try omega
          all_goals first | omega | exact r _
        · obtain ⟨u, hu, vL, vM⟩ := vTT wf
          have uv := vOf_eq vM (by omega)
          rw [uv] at eV
          have lpos : 0 < x.2.2.2.1.length := List.length_pos_iff.mpr lN
          have nbe : ¬ ((b : Int) = (e : Int)) := by omega
          refine TT_vb ok39 (sm3_ok G w) 60 [2, 69] ?_
          simp -implicitDefEqProofs only [↓b39_0, ↓b39_2, ↓b39_10, ↓b39_20, ↓b39_35, ↓b39_39, ↓b39_40, ↓b39_47, ↓b39_64, ↓b39_69, ↓b39_86, ↓b39_87, ↓b39_93, b39_0, b39_2, b39_10, b39_20, b39_35, b39_39, b39_40, b39_47, b39_64, b39_69, b39_86, b39_87, b39_93, nLE0, layE3, hcl, h22, g2, lt, g4, g6, g7, k15, nbe, n3_40, I32, ↓xb, xb, ps, lpad, lat, aok2, rd2, aaok, aav, alok, alen, aok, akk, csum, isLg, cmpI, clsE, Option.elim, eq_self, List.mem_cons, List.not_mem_nil, or_false, false_or, List.append_nil, List.nil_append, List.cons_append, List.append_eq, List.replicate, List.length_cons, List.length_nil, List.map_cons, List.map_nil, ↓reduceIte, reduceCtorEq, if_true, if_false, true_and, and_true, false_and, and_false, and_self, not_true_eq_false, not_false_eq_true, forall_const, true_implies, false_implies, implies_true, Nat.reduceAdd, Nat.reduceSub, Nat.reduceLT, Nat.reduceLeDiff, Nat.reduceEqDiff, Nat.reduceMul, Nat.reducePow, Nat.add_one_ne_zero, Nat.add_one_sub_one, Nat.add_zero, Nat.zero_add, Int.reduceLT, Int.reduceLE, Int.reduceNeg, Int.reduceAdd, Int.reduceSub, Int.reduceToNat, Int.reduceEq, Int.reduceMul, Int.reducePow, Int.cast_ofNat_Int, Int.toNat_natCast, ne_eq, Bool.false_eq_true, true_or, or_true, or_self, Nat.not_lt_zero, ite_e0, ite_e1, lc_lt, lc_ge, lc_gt, lc_le, lc_eq, Classical.not_not]
          with_reducible repeat' (first | (refine And.intro ?_ ?_) | intro _)
          all_goals try omega
          all_goals first | omega | skip
          refine kc_worth ho (by omega) (wf := wf) (L := x.2.2.2.1) (S' := [u]) (by omega) (fun i hi => by rw [g8 _ (by omega), hS'.get2 hi]) aL (by omega) (hd_v vL (by omega)) gw (fun σ3 s3 => ?_)
          have eu : ([u] : List Int).headD 0 = u := rfl
          rw [eu]
          rcases hu with rfl | rfl
          · rw [if_neg (fun z => by rcases z.2 with z | z; exact mN z; omega)] at eV
            have r := fun l4 => ih σ3 l4 eV.symm (hs'.trans s3)
            rw [show (((j + 1 : Nat) : Int)) = (j : Int) + 1 by omega] at r
            simp -implicitDefEqProofs only [↓b39_0, ↓b39_2, ↓b39_10, ↓b39_20, ↓b39_35, ↓b39_39, ↓b39_40, ↓b39_47, ↓b39_64, ↓b39_69, ↓b39_86, ↓b39_87, ↓b39_93, b39_0, b39_2, b39_10, b39_20, b39_35, b39_39, b39_40, b39_47, b39_64, b39_69, b39_86, b39_87, b39_93, nLE0, layE3, hk, n3_40, I32, ↓xb, xb, ps, lpad, lat, aok2, rd2, aaok, aav, alok, alen, aok, akk, csum, isLg, cmpI, clsE, Option.elim, eq_self, List.mem_cons, List.not_mem_nil, or_false, false_or, List.append_nil, List.nil_append, List.cons_append, List.append_eq, List.replicate, List.length_cons, List.length_nil, List.map_cons, List.map_nil, ↓reduceIte, reduceCtorEq, if_true, if_false, true_and, and_true, false_and, and_false, and_self, not_true_eq_false, not_false_eq_true, forall_const, true_implies, false_implies, implies_true, Nat.reduceAdd, Nat.reduceSub, Nat.reduceLT, Nat.reduceLeDiff, Nat.reduceEqDiff, Nat.reduceMul, Nat.reducePow, Nat.add_one_ne_zero, Nat.add_one_sub_one, Nat.add_zero, Nat.zero_add, Int.reduceLT, Int.reduceLE, Int.reduceNeg, Int.reduceAdd, Int.reduceSub, Int.reduceToNat, Int.reduceEq, Int.reduceMul, Int.reducePow, Int.cast_ofNat_Int, Int.toNat_natCast, ne_eq, Bool.false_eq_true, true_or, or_true, or_self, Nat.not_lt_zero, ite_e0, ite_e1, lc_lt, lc_ge, lc_gt, lc_le, lc_eq, Classical.not_not]
            with_reducible repeat' (first | (refine And.intro ?_ ?_) | intro _)
            all_goals try omega
            all_goals first | omega | exact r _
          · rw [if_pos ⟨ks, Or.inr rfl⟩, vv] at eV
            have r := fun l4 => tell σ3 l4 s3 eV
            simp -implicitDefEqProofs only [↓b39_0, ↓b39_2, ↓b39_10, ↓b39_20, ↓b39_35, ↓b39_39, ↓b39_40, ↓b39_47, ↓b39_64, ↓b39_69, ↓b39_86, ↓b39_87, ↓b39_93, b39_0, b39_2, b39_10, b39_20, b39_35, b39_39, b39_40, b39_47, b39_64, b39_69, b39_86, b39_87, b39_93, nLE0, layE3, hk, n3_40, I32, ↓xb, xb, ps, lpad, lat, aok2, rd2, aaok, aav, alok, alen, aok, akk, csum, isLg, cmpI, clsE, Option.elim, eq_self, List.mem_cons, List.not_mem_nil, or_false, false_or, List.append_nil, List.nil_append, List.cons_append, List.append_eq, List.replicate, List.length_cons, List.length_nil, List.map_cons, List.map_nil, ↓reduceIte, reduceCtorEq, if_true, if_false, true_and, and_true, false_and, and_false, and_self, not_true_eq_false, not_false_eq_true, forall_const, true_implies, false_implies, implies_true, Nat.reduceAdd, Nat.reduceSub, Nat.reduceLT, Nat.reduceLeDiff, Nat.reduceEqDiff, Nat.reduceMul, Nat.reducePow, Nat.add_one_ne_zero, Nat.add_one_sub_one, Nat.add_zero, Nat.zero_add, Int.reduceLT, Int.reduceLE, Int.reduceNeg, Int.reduceAdd, Int.reduceSub, Int.reduceToNat, Int.reduceEq, Int.reduceMul, Int.reducePow, Int.cast_ofNat_Int, Int.toNat_natCast, ne_eq, Bool.false_eq_true, true_or, or_true, or_self, Nat.not_lt_zero, ite_e0, ite_e1, lc_lt, lc_ge, lc_gt, lc_le, lc_eq, Classical.not_not]
            with_reducible repeat' (first | (refine And.intro ?_ ?_) | intro _)
            all_goals try omega
            all_goals first | omega | exact r _
      · rw [if_neg (fun z => ks z.1)] at eV
        have k15 : ¬ x.1 + 15 = s + 15 := by omega
        have r := fun l4 => ih σ' l4 eV.symm hs'
        rw [show (((j + 1 : Nat) : Int)) = (j : Int) + 1 by omega] at r
        refine TT_vb ok39 (sm3_ok G w) 60 [2] ?_
        simp -implicitDefEqProofs only [↓b39_0, ↓b39_2, ↓b39_10, ↓b39_20, ↓b39_35, ↓b39_39, ↓b39_40, ↓b39_47, ↓b39_64, ↓b39_69, ↓b39_86, ↓b39_87, ↓b39_93, b39_0, b39_2, b39_10, b39_20, b39_35, b39_39, b39_40, b39_47, b39_64, b39_69, b39_86, b39_87, b39_93, nLE0, layE3, hcl, h22, g2, lt, g4, k15, n3_40, I32, ↓xb, xb, ps, lpad, lat, aok2, rd2, aaok, aav, alok, alen, aok, akk, csum, isLg, cmpI, clsE, Option.elim, eq_self, List.mem_cons, List.not_mem_nil, or_false, false_or, List.append_nil, List.nil_append, List.cons_append, List.append_eq, List.replicate, List.length_cons, List.length_nil, List.map_cons, List.map_nil, ↓reduceIte, reduceCtorEq, if_true, if_false, true_and, and_true, false_and, and_false, and_self, not_true_eq_false, not_false_eq_true, forall_const, true_implies, false_implies, implies_true, Nat.reduceAdd, Nat.reduceSub, Nat.reduceLT, Nat.reduceLeDiff, Nat.reduceEqDiff, Nat.reduceMul, Nat.reducePow, Nat.add_one_ne_zero, Nat.add_one_sub_one, Nat.add_zero, Nat.zero_add, Int.reduceLT, Int.reduceLE, Int.reduceNeg, Int.reduceAdd, Int.reduceSub, Int.reduceToNat, Int.reduceEq, Int.reduceMul, Int.reducePow, Int.cast_ofNat_Int, Int.toNat_natCast, ne_eq, Bool.false_eq_true, true_or, or_true, or_self, Nat.not_lt_zero, ite_e0, ite_e1, lc_lt, lc_ge, lc_gt, lc_le, lc_eq, Classical.not_not]
        with_reducible repeat' (first | (refine And.intro ?_ ?_) | intro _)
        all_goals try omega
        all_goals first | omega | exact r _
/-- what a rule's clauses say, as a contract -/
def uOf (Cs : List Cl) : RU := (fun n wf => sOf wf Cs ((n : Int) - 15), hdV Cs)
theorem hdV_r {Cs : List Cl} (h : ∀ x, x ∈ Cs → ClOK x) : 0 ≤ hdV Cs ∧ hdV Cs ≤ 9999 := by
  unfold hdV
  have g : ∀ (Cs : List Cl) (v : Int), 0 ≤ v ∧ v ≤ 9999 → (∀ x, x ∈ Cs → ClOK x) → 0 ≤ Cs.foldl (fun v x => if x.1 = 3 then x.2.1 else v) v ∧ Cs.foldl (fun v x => if x.1 = 3 then x.2.1 else v) v ≤ 9999 := by
    intro Cs
    induction Cs with
    | nil => exact fun v hv _ => hv
    | cons x Cs ih =>
      intro v hv hC
      rw [List.foldl_cons]
      refine ih _ ?_ (fun y hy => hC y (List.mem_cons_of_mem _ hy))
      split
      · rename_i k3
        rcases hC x List.mem_cons_self with ⟨_, a, b⟩ | ⟨_, k2, _⟩
        · exact ⟨a, b⟩
        · omega
      · exact hv
  exact g Cs 0 (by omega) h
set_option maxRecDepth 100000 in
set_option maxHeartbeats 1000000 in
theorem kc_RuC (ho : 12 ≤ o ∧ o ≤ 20) {Cs : List Cl} (hC : ∀ x, x ∈ Cs → ClOK x) (hl : Cs.length ≤ 12) (R : RcF σ o Cs) : RuC G w 6 o (uOf Cs) σ := by
  obtain ⟨LL, l400, hP, hD, e1⟩ := R
  refine ⟨⟨e1, hdV_r hC⟩, fun σ' Q k' s hk fr hs q => ?_⟩
  have sl := smC_le (Cs := Cs)
  have sv : sOf (wd σ') (smC Cs) (s - 15) = (uOf Cs).1 s.toNat (wd σ') := by
    rw [sOf_sm (by omega)]
    show sOf (wd σ') Cs (s - 15) = sOf (wd σ') Cs ((s.toNat : Int) - 15)
    rw [show ((s.toNat : Nat) : Int) = s by omega]
  have g := fun l4 => kc_s_l (G := G) (w := w) (k := k') (σ := σ') (Q := Q) ho (by omega) (wf := wd σ') (LL := LL) l400 (fun i hi => (fr 8 (by omega) 0 i).trans (hP i hi)) (n := (smC Cs).length) (by omega) ((fr 2 (by omega) 0 0).trans hD.1) (fun j hj => by unfold wd; rw [if_pos hj]) (s := s - 15) (by omega) q (smC Cs) 0 σ' l4 (fun i hi => by
    rw [Nat.zero_add]
    obtain ⟨a, b, e, h4, h5, h6, h7, hS⟩ := hD.2 i hi
    exact ⟨a, b, e, (fr 4 (by omega) 0 i).trans h4, (fr 5 (by omega) 0 i).trans h5, (fr 6 (by omega) 0 i).trans h6, (fr 7 (by omega) 0 i).trans h7, hS⟩) (fun x hx => by
    have z := List.mem_filter.mp hx
    exact ⟨hC x z.1, by simpa using z.2⟩) (Nat.zero_add _) sv same.refl
  rw [show s - 15 + 15 = s by omega] at g
  refine CC_vb ok39 (by decide) (sm3_ok G w) 60 [2] (Nat.le_of_ble_eq_true rfl) ?_
  simp -implicitDefEqProofs only [↓b39_0, ↓b39_2, ↓b39_10, ↓b39_20, ↓b39_35, ↓b39_39, ↓b39_40, ↓b39_47, ↓b39_64, ↓b39_69, ↓b39_86, ↓b39_87, ↓b39_93, b39_0, b39_2, b39_10, b39_20, b39_35, b39_39, b39_40, b39_47, b39_64, b39_69, b39_86, b39_87, b39_93, nLE0, layE3, hk, n3_40, I32, ↓xb, xb, ps, lpad, lat, aok2, rd2, aaok, aav, alok, alen, aok, akk, csum, isLg, cmpI, clsE, Option.elim, eq_self, List.mem_cons, List.not_mem_nil, or_false, false_or, List.append_nil, List.nil_append, List.cons_append, List.append_eq, List.replicate, List.length_cons, List.length_nil, List.map_cons, List.map_nil, ↓reduceIte, reduceCtorEq, if_true, if_false, true_and, and_true, false_and, and_false, and_self, not_true_eq_false, not_false_eq_true, forall_const, true_implies, false_implies, implies_true, Nat.reduceAdd, Nat.reduceSub, Nat.reduceLT, Nat.reduceLeDiff, Nat.reduceEqDiff, Nat.reduceMul, Nat.reducePow, Nat.add_one_ne_zero, Nat.add_one_sub_one, Nat.add_zero, Nat.zero_add, Int.reduceLT, Int.reduceLE, Int.reduceNeg, Int.reduceAdd, Int.reduceSub, Int.reduceToNat, Int.reduceEq, Int.reduceMul, Int.reducePow, Int.cast_ofNat_Int, Int.toNat_natCast, ne_eq, Bool.false_eq_true, true_or, or_true, or_self, Nat.not_lt_zero, ite_e0, ite_e1, lc_lt, lc_ge, lc_gt, lc_le, lc_eq, Classical.not_not]
  with_reducible repeat' (first | (refine And.intro ?_ ?_) | intro _)
  all_goals try omega
  all_goals first | omega | exact g _
end SUC

/-! 48.cable: a cable (both) -/
abbrev P_cable (P : Pt) (a b c : Int) : Pt := pu (pu (pu (pu (pu P 23 (P 2 3).toNat a) 24 (P 2 3).toNat b) 25 (P 2 3).toNat c) 26 (P 2 3).toNat 0) 2 3 (P 2 3 + 1)
theorem cob_sym {P : Pt} {a b : Int} : ∀ n : Nat, cobP P a b n = cobP P b a n
  | 0 => rfl
  | n + 1 => by
    have ih := cob_sym (P := P) (a := a) (b := b) n
    show (if cobP P a b n ≠ -1 then cobP P a b n else if (P 23 n = a ∧ P 24 n = b) ∨ (P 23 n = b ∧ P 24 n = a) then (n : Int) else -1) = (if cobP P b a n ≠ -1 then cobP P b a n else if (P 23 n = b ∧ P 24 n = a) ∨ (P 23 n = a ∧ P 24 n = b) then (n : Int) else -1)
    rw [ih]
    split
    · rfl
    · by_cases h : (P 23 n = a ∧ P 24 n = b) ∨ (P 23 n = b ∧ P 24 n = a)
      · rw [if_pos h, if_pos h.symm]
      · rw [if_neg h, if_neg (fun z => h z.symm)]
theorem cob_below {P P' : Pt} {a b : Int} : ∀ n : Nat, (∀ i, i < n → P' 23 i = P 23 i ∧ P' 24 i = P 24 i) → cobP P' a b n = cobP P a b n
  | 0, _ => rfl
  | n + 1, h => by
    have ih := cob_below (P := P) (P' := P') (a := a) (b := b) n (fun i hi => h i (by omega))
    show (if cobP P' a b n ≠ -1 then cobP P' a b n else if (P' 23 n = a ∧ P' 24 n = b) ∨ (P' 23 n = b ∧ P' 24 n = a) then (n : Int) else -1) = (if cobP P a b n ≠ -1 then cobP P a b n else if (P 23 n = a ∧ P 24 n = b) ∨ (P 23 n = b ∧ P 24 n = a) then (n : Int) else -1)
    rw [ih, (h n (by omega)).1, (h n (by omega)).2]
theorem cb_new {P : Pt} {a b c x y : Int} (h3 : 0 ≤ P 2 3) (h : cobP P a b (P 2 3).toNat = -1) : cobP (P_cable P a b c) x y (P 2 3 + 1).toNat = if (x = a ∧ y = b) ∨ (x = b ∧ y = a) then P 2 3 else cobP P x y (P 2 3).toNat := by
  have e0 := cob_below (P := P) (P' := P_cable P a b c) (a := x) (b := y) (P 2 3).toNat (fun i hi => ⟨show pu P 23 (P 2 3).toNat a 23 i = _ from pu_ni (by omega), show pu (pu P 23 (P 2 3).toNat a) 24 (P 2 3).toNat b 24 i = _ from pu_ni (by omega)⟩)
  have e1 : P_cable P a b c 23 (P 2 3).toNat = a := pu_eq (P := P) (f := 23) (i := (P 2 3).toNat) (v := a)
  have e2 : P_cable P a b c 24 (P 2 3).toNat = b := pu_eq (P := pu P 23 (P 2 3).toNat a) (f := 24) (i := (P 2 3).toNat) (v := b)
  rw [show (P 2 3 + 1).toNat = (P 2 3).toNat + 1 by omega]
  show (if cobP (P_cable P a b c) x y (P 2 3).toNat ≠ -1 then cobP (P_cable P a b c) x y (P 2 3).toNat else if (P_cable P a b c 23 (P 2 3).toNat = x ∧ P_cable P a b c 24 (P 2 3).toNat = y) ∨ (P_cable P a b c 23 (P 2 3).toNat = y ∧ P_cable P a b c 24 (P 2 3).toNat = x) then (((P 2 3).toNat : Nat) : Int) else -1) = _
  rw [e0, e1, e2]
  by_cases m : (x = a ∧ y = b) ∨ (x = b ∧ y = a)
  · have hx : cobP P x y (P 2 3).toNat = -1 := by
      rcases m with ⟨rfl, rfl⟩ | ⟨rfl, rfl⟩
      · exact h
      · rw [cob_sym]; exact h
    rw [if_neg (fun z => z hx), if_pos m, if_pos (by omega)]
    omega
  · rw [if_neg m]
    split
    · rfl
    · rename_i z
      rw [if_neg (by omega)]
      exact (Classical.not_not.mp z).symm
theorem RT.f0 {g : Prop} {σ : Mem} {t : Nat} {P : Pt} (R : RT g σ t P) {f i : Nat} {v : Int} (hf : ln f = 0) : RT g σ t (pu P f i v) := fun f' j h q => by
  rw [pu_nf (fun e => by rw [e, hf] at h; omega)]; exact R f' j h q
section CBL
variable {G : Gl} {w : Wd} {k : Nat} {σ : Mem} {Q : Option AV → Mem → Prop} {P : Pt}
set_option maxRecDepth 100000 in
set_option maxHeartbeats 1000000 in
theorem kc_cable (R : RT True σ 1 P) (W : WF P) (Wr : WRs σ 1 P) (hk : 10 ≤ k) {a b c : Int} (q0 : ¬ ((0 ≤ a ∧ a < P 2 0) ∧ (0 ≤ b ∧ b < P 2 0) ∧ a ≠ b ∧ (1 ≤ c ∧ c ≤ 9999) ∧ P 2 3 < 20 ∧ cobP P a b (P 2 3).toNat = -1) → Q (some (vi (-1))) σ)
    (q1 : (0 ≤ a ∧ a < P 2 0) ∧ (0 ≤ b ∧ b < P 2 0) ∧ a ≠ b ∧ (1 ≤ c ∧ c ≤ 9999) ∧ P 2 3 < 20 ∧ cobP P a b (P 2 3).toNat = -1 → ∀ σ', RT True σ' 1 (P_cable P a b c) → WRs σ' 1 (P_cable P a b c) → same (fun o f => o == 1 && (f == 6 || f == 13 || f == 14)) σ σ' → Q (some (vi (P 2 3))) σ') : CC G w w k (0, 0) 83 [vr 0 0 0, vi a, vi b, vi c] σ Q := by
  have w1 := W.sc.1; have w4 := W.sc.2.2.2.1
  have e0 := R.houses
  have e3 := R.cables
  by_cases c1 : (0 ≤ a ∧ a < P 2 0) ∧ (0 ≤ b ∧ b < P 2 0) ∧ a ≠ b ∧ (1 ≤ c ∧ c ≤ 9999)
  · have hw := Wr a b (by omega) (by omega)
    refine CC_vb ok83 (by decide) (sm3_ok G w) 60 [] (Nat.le_of_ble_eq_true rfl) ?_
    simp -implicitDefEqProofs only [↓b83_0, ↓b83_9, ↓b83_12, ↓b83_20, ↓b83_23, ↓b83_25, ↓b83_35, b83_0, b83_9, b83_12, b83_20, b83_23, b83_25, b83_35, nLE1, layE7, layE4, layE3, layE2, e0, k3_46, r46, k3_76, r76, n3_50, I32, ↓xb, xb, ps, lpad, lat, aok2, rd2, aaok, aav, alok, alen, aok, akk, csum, isLg, cmpI, clsE, Option.elim, eq_self, List.mem_cons, List.not_mem_nil, or_false, false_or, List.append_nil, List.nil_append, List.cons_append, List.append_eq, List.replicate, List.length_cons, List.length_nil, List.map_cons, List.map_nil, ↓reduceIte, reduceCtorEq, if_true, if_false, true_and, and_true, false_and, and_false, and_self, not_true_eq_false, not_false_eq_true, forall_const, true_implies, false_implies, implies_true, Nat.reduceAdd, Nat.reduceSub, Nat.reduceLT, Nat.reduceLeDiff, Nat.reduceEqDiff, Nat.reduceMul, Nat.reducePow, Nat.add_one_ne_zero, Nat.add_one_sub_one, Nat.add_zero, Nat.zero_add, Int.reduceLT, Int.reduceLE, Int.reduceNeg, Int.reduceAdd, Int.reduceSub, Int.reduceToNat, Int.reduceEq, Int.reduceMul, Int.reducePow, Int.cast_ofNat_Int, Int.toNat_natCast, ne_eq, Bool.false_eq_true, true_or, or_true, or_self, Nat.not_lt_zero, ite_e0, ite_e1, lc_lt, lc_ge, lc_gt, lc_le, lc_eq, Classical.not_not]
    with_reducible repeat' (first | (refine And.intro ?_ ?_) | intro _)
    all_goals try omega
    refine CC_vb ok50 (by decide) (sm3_ok G w) 60 [] (Nat.le_of_ble_eq_true rfl) ?_
    by_cases c2 : P 2 3 < 20 ∧ cobP P a b (P 2 3).toNat = -1
    · have hz : σ 1 14 (a.toNat + 1) b.toNat = 0 := by rw [hw, c2.2]; rfl
      have c9 := W.c0 (n := (P 2 3).toNat) (by omega)
      have R1 : RT True (up σ 1 13 ((P 2 3).toNat + 1) 0 c) 1 (pu (pu (pu (pu P 23 (P 2 3).toNat a) 24 (P 2 3).toNat b) 25 (P 2 3).toNat c) 26 (P 2 3).toNat 0) := by
        have z := ((R.f0 (f := 23) (i := (P 2 3).toNat) (v := a) rfl).f0 (f := 24) (i := (P 2 3).toNat) (v := b) rfl).u_cable0 (n := (P 2 3).toNat) (v := c) (by omega)
        have e : pu (pu (pu (pu P 23 (P 2 3).toNat a) 24 (P 2 3).toNat b) 25 (P 2 3).toNat c) 26 (P 2 3).toNat 0 = pu (pu (pu P 23 (P 2 3).toNat a) 24 (P 2 3).toNat b) 25 (P 2 3).toNat c := by
          have := pu_id (P := pu (pu (pu P 23 (P 2 3).toNat a) 24 (P 2 3).toNat b) 25 (P 2 3).toNat c) (f := 26) (i := (P 2 3).toNat)
          rw [show pu (pu (pu P 23 (P 2 3).toNat a) 24 (P 2 3).toNat b) 25 (P 2 3).toNat c 26 (P 2 3).toNat = 0 from c9] at this
          exact this
        rw [e]; exact z
      simp -implicitDefEqProofs only [↓b50_0, ↓b50_9, ↓b50_15, ↓b50_20, ↓b50_22, ↓b50_31, ↓b50_50, ↓b50_62, b50_0, b50_9, b50_15, b50_20, b50_22, b50_31, b50_50, b50_62, nLE1, layE4, e3, hz, up_rd, I32, ↓xb, xb, ps, lpad, lat, aok2, rd2, aaok, aav, alok, alen, aok, akk, csum, isLg, cmpI, clsE, Option.elim, eq_self, List.mem_cons, List.not_mem_nil, or_false, false_or, List.append_nil, List.nil_append, List.cons_append, List.append_eq, List.replicate, List.length_cons, List.length_nil, List.map_cons, List.map_nil, ↓reduceIte, reduceCtorEq, if_true, if_false, true_and, and_true, false_and, and_false, and_self, not_true_eq_false, not_false_eq_true, forall_const, true_implies, false_implies, implies_true, Nat.reduceAdd, Nat.reduceSub, Nat.reduceLT, Nat.reduceLeDiff, Nat.reduceEqDiff, Nat.reduceMul, Nat.reducePow, Nat.add_one_ne_zero, Nat.add_one_sub_one, Nat.add_zero, Nat.zero_add, Int.reduceLT, Int.reduceLE, Int.reduceNeg, Int.reduceAdd, Int.reduceSub, Int.reduceToNat, Int.reduceEq, Int.reduceMul, Int.reducePow, Int.cast_ofNat_Int, Int.toNat_natCast, ne_eq, Bool.false_eq_true, true_or, or_true, or_self, Nat.not_lt_zero, ite_e0, ite_e1, lc_lt, lc_ge, lc_gt, lc_le, lc_eq, Classical.not_not]
      with_reducible repeat' (first | (refine And.intro ?_ ?_) | intro _)
      all_goals try omega
      all_goals first | omega | skip
      simp -implicitDefEqProofs only [↓b83_0, ↓b83_9, ↓b83_12, ↓b83_20, ↓b83_23, ↓b83_25, ↓b83_35, b83_0, b83_9, b83_12, b83_20, b83_23, b83_25, b83_35, nLE1, layE7, layE4, layE3, layE2, e0, k3_46, r46, k3_76, r76, n3_50, I32, ↓xb, xb, ps, lpad, lat, aok2, rd2, aaok, aav, alok, alen, aok, akk, csum, isLg, cmpI, clsE, Option.elim, eq_self, List.mem_cons, List.not_mem_nil, or_false, false_or, List.append_nil, List.nil_append, List.cons_append, List.append_eq, List.replicate, List.length_cons, List.length_nil, List.map_cons, List.map_nil, ↓reduceIte, reduceCtorEq, if_true, if_false, true_and, and_true, false_and, and_false, and_self, not_true_eq_false, not_false_eq_true, forall_const, true_implies, false_implies, implies_true, Nat.reduceAdd, Nat.reduceSub, Nat.reduceLT, Nat.reduceLeDiff, Nat.reduceEqDiff, Nat.reduceMul, Nat.reducePow, Nat.add_one_ne_zero, Nat.add_one_sub_one, Nat.add_zero, Nat.zero_add, Int.reduceLT, Int.reduceLE, Int.reduceNeg, Int.reduceAdd, Int.reduceSub, Int.reduceToNat, Int.reduceEq, Int.reduceMul, Int.reducePow, Int.cast_ofNat_Int, Int.toNat_natCast, ne_eq, Bool.false_eq_true, true_or, or_true, or_self, Nat.not_lt_zero, ite_e0, ite_e1, lc_lt, lc_ge, lc_gt, lc_le, lc_eq, Classical.not_not]
      with_reducible repeat' (first | (refine And.intro ?_ ?_) | intro _)
      all_goals try omega
      rw [show P 2 3 + 1 - 1 = P 2 3 by omega]
      refine q1 ⟨c1.1, c1.2.1, c1.2.2.1, c1.2.2.2, c2.1, c2.2⟩ _ ((R1.u_cables.put3 (Or.inr rfl)).put3 (Or.inr rfl)) (fun x y hx hy => ?_) ((((same.refl.put rfl).put rfl).put rfl).put rfl)
      rw [show P_cable P a b c 2 3 = P 2 3 + 1 from pu_eq (P := pu (pu (pu (pu P 23 (P 2 3).toNat a) 24 (P 2 3).toNat b) 25 (P 2 3).toNat c) 26 (P 2 3).toNat 0), cb_new w4.1 c2.2]
      have hz := Wr x y hx hy
      simp only [up_rd]
      by_cases m1 : x = b ∧ y = a
      · rw [if_pos ⟨trivial, trivial, by omega, by omega⟩, if_pos (Or.inr m1)]
      · rw [if_neg (fun z => m1 (by omega))]
        by_cases m2 : x = a ∧ y = b
        · rw [if_pos ⟨trivial, trivial, by omega, by omega⟩, if_pos (Or.inl m2)]
        · rw [if_neg (fun z => m2 (by omega)), if_neg (fun z => absurd z.2.1 (by decide)), if_neg (fun z => absurd z.2.1 (by decide)), if_neg (fun z => z.elim m2 m1)]
          exact hz
    · by_cases c3 : P 2 3 < 20
      · have hz : ¬ σ 1 14 (a.toNat + 1) b.toNat = 0 := by rw [hw]; have := c2; omega
        simp -implicitDefEqProofs only [↓b50_0, ↓b50_9, ↓b50_15, ↓b50_20, ↓b50_22, ↓b50_31, ↓b50_50, ↓b50_62, b50_0, b50_9, b50_15, b50_20, b50_22, b50_31, b50_50, b50_62, nLE1, layE4, e3, hz, I32, ↓xb, xb, ps, lpad, lat, aok2, rd2, aaok, aav, alok, alen, aok, akk, csum, isLg, cmpI, clsE, Option.elim, eq_self, List.mem_cons, List.not_mem_nil, or_false, false_or, List.append_nil, List.nil_append, List.cons_append, List.append_eq, List.replicate, List.length_cons, List.length_nil, List.map_cons, List.map_nil, ↓reduceIte, reduceCtorEq, if_true, if_false, true_and, and_true, false_and, and_false, and_self, not_true_eq_false, not_false_eq_true, forall_const, true_implies, false_implies, implies_true, Nat.reduceAdd, Nat.reduceSub, Nat.reduceLT, Nat.reduceLeDiff, Nat.reduceEqDiff, Nat.reduceMul, Nat.reducePow, Nat.add_one_ne_zero, Nat.add_one_sub_one, Nat.add_zero, Nat.zero_add, Int.reduceLT, Int.reduceLE, Int.reduceNeg, Int.reduceAdd, Int.reduceSub, Int.reduceToNat, Int.reduceEq, Int.reduceMul, Int.reducePow, Int.cast_ofNat_Int, Int.toNat_natCast, ne_eq, Bool.false_eq_true, true_or, or_true, or_self, Nat.not_lt_zero, ite_e0, ite_e1, lc_lt, lc_ge, lc_gt, lc_le, lc_eq, Classical.not_not]
        with_reducible repeat' (first | (refine And.intro ?_ ?_) | intro _)
        all_goals try omega
        all_goals first | omega | skip
        simp -implicitDefEqProofs only [↓b83_0, ↓b83_9, ↓b83_12, ↓b83_20, ↓b83_23, ↓b83_25, ↓b83_35, b83_0, b83_9, b83_12, b83_20, b83_23, b83_25, b83_35, nLE1, layE7, layE4, layE3, layE2, e0, k3_46, r46, k3_76, r76, n3_50, I32, ↓xb, xb, ps, lpad, lat, aok2, rd2, aaok, aav, alok, alen, aok, akk, csum, isLg, cmpI, clsE, Option.elim, eq_self, List.mem_cons, List.not_mem_nil, or_false, false_or, List.append_nil, List.nil_append, List.cons_append, List.append_eq, List.replicate, List.length_cons, List.length_nil, List.map_cons, List.map_nil, ↓reduceIte, reduceCtorEq, if_true, if_false, true_and, and_true, false_and, and_false, and_self, not_true_eq_false, not_false_eq_true, forall_const, true_implies, false_implies, implies_true, Nat.reduceAdd, Nat.reduceSub, Nat.reduceLT, Nat.reduceLeDiff, Nat.reduceEqDiff, Nat.reduceMul, Nat.reducePow, Nat.add_one_ne_zero, Nat.add_one_sub_one, Nat.add_zero, Nat.zero_add, Int.reduceLT, Int.reduceLE, Int.reduceNeg, Int.reduceAdd, Int.reduceSub, Int.reduceToNat, Int.reduceEq, Int.reduceMul, Int.reducePow, Int.cast_ofNat_Int, Int.toNat_natCast, ne_eq, Bool.false_eq_true, true_or, or_true, or_self, Nat.not_lt_zero, ite_e0, ite_e1, lc_lt, lc_ge, lc_gt, lc_le, lc_eq, Classical.not_not]
        with_reducible repeat' (first | (refine And.intro ?_ ?_) | intro _)
        all_goals try omega
        exact q0 (fun z => c2 z.2.2.2.2)
      · have h20 : 20 ≤ P 2 3 := by omega
        simp -implicitDefEqProofs only [↓b50_0, ↓b50_9, ↓b50_15, ↓b50_20, ↓b50_22, ↓b50_31, ↓b50_50, ↓b50_62, b50_0, b50_9, b50_15, b50_20, b50_22, b50_31, b50_50, b50_62, nLE1, layE4, e3, h20, I32, ↓xb, xb, ps, lpad, lat, aok2, rd2, aaok, aav, alok, alen, aok, akk, csum, isLg, cmpI, clsE, Option.elim, eq_self, List.mem_cons, List.not_mem_nil, or_false, false_or, List.append_nil, List.nil_append, List.cons_append, List.append_eq, List.replicate, List.length_cons, List.length_nil, List.map_cons, List.map_nil, ↓reduceIte, reduceCtorEq, if_true, if_false, true_and, and_true, false_and, and_false, and_self, not_true_eq_false, not_false_eq_true, forall_const, true_implies, false_implies, implies_true, Nat.reduceAdd, Nat.reduceSub, Nat.reduceLT, Nat.reduceLeDiff, Nat.reduceEqDiff, Nat.reduceMul, Nat.reducePow, Nat.add_one_ne_zero, Nat.add_one_sub_one, Nat.add_zero, Nat.zero_add, Int.reduceLT, Int.reduceLE, Int.reduceNeg, Int.reduceAdd, Int.reduceSub, Int.reduceToNat, Int.reduceEq, Int.reduceMul, Int.reducePow, Int.cast_ofNat_Int, Int.toNat_natCast, ne_eq, Bool.false_eq_true, true_or, or_true, or_self, Nat.not_lt_zero, ite_e0, ite_e1, lc_lt, lc_ge, lc_gt, lc_le, lc_eq, Classical.not_not]
        with_reducible repeat' (first | (refine And.intro ?_ ?_) | intro _)
        all_goals try omega
        all_goals first | omega | skip
        simp -implicitDefEqProofs only [↓b83_0, ↓b83_9, ↓b83_12, ↓b83_20, ↓b83_23, ↓b83_25, ↓b83_35, b83_0, b83_9, b83_12, b83_20, b83_23, b83_25, b83_35, nLE1, layE7, layE4, layE3, layE2, e0, k3_46, r46, k3_76, r76, n3_50, I32, ↓xb, xb, ps, lpad, lat, aok2, rd2, aaok, aav, alok, alen, aok, akk, csum, isLg, cmpI, clsE, Option.elim, eq_self, List.mem_cons, List.not_mem_nil, or_false, false_or, List.append_nil, List.nil_append, List.cons_append, List.append_eq, List.replicate, List.length_cons, List.length_nil, List.map_cons, List.map_nil, ↓reduceIte, reduceCtorEq, if_true, if_false, true_and, and_true, false_and, and_false, and_self, not_true_eq_false, not_false_eq_true, forall_const, true_implies, false_implies, implies_true, Nat.reduceAdd, Nat.reduceSub, Nat.reduceLT, Nat.reduceLeDiff, Nat.reduceEqDiff, Nat.reduceMul, Nat.reducePow, Nat.add_one_ne_zero, Nat.add_one_sub_one, Nat.add_zero, Nat.zero_add, Int.reduceLT, Int.reduceLE, Int.reduceNeg, Int.reduceAdd, Int.reduceSub, Int.reduceToNat, Int.reduceEq, Int.reduceMul, Int.reducePow, Int.cast_ofNat_Int, Int.toNat_natCast, ne_eq, Bool.false_eq_true, true_or, or_true, or_self, Nat.not_lt_zero, ite_e0, ite_e1, lc_lt, lc_ge, lc_gt, lc_le, lc_eq, Classical.not_not]
        with_reducible repeat' (first | (refine And.intro ?_ ?_) | intro _)
        all_goals try omega
        exact q0 (fun z => c3 z.2.2.2.2.1)
  · refine CC_vb ok83 (by decide) (sm3_ok G w) 60 [25] (Nat.le_of_ble_eq_true rfl) ?_
    simp -implicitDefEqProofs only [↓b83_0, ↓b83_9, ↓b83_12, ↓b83_20, ↓b83_23, ↓b83_25, ↓b83_35, b83_0, b83_9, b83_12, b83_20, b83_23, b83_25, b83_35, nLE1, layE7, layE4, layE3, layE2, e0, k3_46, r46, k3_76, r76, n3_50, I32, ↓xb, xb, ps, lpad, lat, aok2, rd2, aaok, aav, alok, alen, aok, akk, csum, isLg, cmpI, clsE, Option.elim, eq_self, List.mem_cons, List.not_mem_nil, or_false, false_or, List.append_nil, List.nil_append, List.cons_append, List.append_eq, List.replicate, List.length_cons, List.length_nil, List.map_cons, List.map_nil, ↓reduceIte, reduceCtorEq, if_true, if_false, true_and, and_true, false_and, and_false, and_self, not_true_eq_false, not_false_eq_true, forall_const, true_implies, false_implies, implies_true, Nat.reduceAdd, Nat.reduceSub, Nat.reduceLT, Nat.reduceLeDiff, Nat.reduceEqDiff, Nat.reduceMul, Nat.reducePow, Nat.add_one_ne_zero, Nat.add_one_sub_one, Nat.add_zero, Nat.zero_add, Int.reduceLT, Int.reduceLE, Int.reduceNeg, Int.reduceAdd, Int.reduceSub, Int.reduceToNat, Int.reduceEq, Int.reduceMul, Int.reducePow, Int.cast_ofNat_Int, Int.toNat_natCast, ne_eq, Bool.false_eq_true, true_or, or_true, or_self, Nat.not_lt_zero, ite_e0, ite_e1, lc_lt, lc_ge, lc_gt, lc_le, lc_eq, Classical.not_not]
    with_reducible repeat' (first | (refine And.intro ?_ ?_) | intro _)
    all_goals try omega
    all_goals first | omega | exact q0 (fun z => c1 ⟨z.1, z.2.1, z.2.2.1, z.2.2.2.1⟩)
set_option maxRecDepth 100000 in
set_option maxHeartbeats 1000000 in
theorem kx_cable (M : MR σ P) (W : WF P) (hk : 10 ≤ k) {a b c : Int} (q0 : ¬ ((0 ≤ a ∧ a < P 2 0) ∧ (0 ≤ b ∧ b < P 2 0) ∧ a ≠ b ∧ (1 ≤ c ∧ c ≤ 9999) ∧ P 2 3 < 20 ∧ cobP P a b (P 2 3).toNat = -1) → Q (some (vi (-1))) σ)
    (q1 : (0 ≤ a ∧ a < P 2 0) ∧ (0 ≤ b ∧ b < P 2 0) ∧ a ≠ b ∧ (1 ≤ c ∧ c ≤ 9999) ∧ P 2 3 < 20 ∧ cobP P a b (P 2 3).toNat = -1 → ∀ σ', MR σ' (P_cable P a b c) → same (fun o f => o == 21 && (f == 2 || f == 23 || f == 24 || f == 25 || f == 26)) σ σ' → Q (some (vi (P 2 3))) σ') : CC G w w k (0, 0) 142 [vr 21 0 0, vi a, vi b, vi c] σ Q := by
  have w1 := W.sc.1; have w4 := W.sc.2.2.2.1
  have hM : ∀ f i, 2 ≤ f → f ≤ 38 → σ 21 f 0 i = P f i := M
  by_cases c1 : (0 ≤ a ∧ a < P 2 0) ∧ (0 ≤ b ∧ b < P 2 0) ∧ a ≠ b ∧ (1 ≤ c ∧ c ≤ 9999) ∧ P 2 3 < 20
  · have h20 : ¬ P 2 3 = 20 := by omega
    refine CC_vb ok142 (by decide) (sm3_ok G w) 60 [] (Nat.le_of_ble_eq_true rfl) ?_
    simp -implicitDefEqProofs only [↓b142_0, ↓b142_15, ↓b142_21, ↓b142_24, ↓b142_33, ↓b142_36, ↓b142_42, ↓b142_46, ↓b142_48, b142_0, b142_15, b142_21, b142_24, b142_33, b142_36, b142_42, b142_46, b142_48, nLE2, layE8, hM, h20, k3_134, r134, k3_128, r128, n3_141, I32, ↓xb, xb, ps, lpad, lat, aok2, rd2, aaok, aav, alok, alen, aok, akk, csum, isLg, cmpI, clsE, Option.elim, eq_self, List.mem_cons, List.not_mem_nil, or_false, false_or, List.append_nil, List.nil_append, List.cons_append, List.append_eq, List.replicate, List.length_cons, List.length_nil, List.map_cons, List.map_nil, ↓reduceIte, reduceCtorEq, if_true, if_false, true_and, and_true, false_and, and_false, and_self, not_true_eq_false, not_false_eq_true, forall_const, true_implies, false_implies, implies_true, Nat.reduceAdd, Nat.reduceSub, Nat.reduceLT, Nat.reduceLeDiff, Nat.reduceEqDiff, Nat.reduceMul, Nat.reducePow, Nat.add_one_ne_zero, Nat.add_one_sub_one, Nat.add_zero, Nat.zero_add, Int.reduceLT, Int.reduceLE, Int.reduceNeg, Int.reduceAdd, Int.reduceSub, Int.reduceToNat, Int.reduceEq, Int.reduceMul, Int.reducePow, Int.cast_ofNat_Int, Int.toNat_natCast, ne_eq, Bool.false_eq_true, true_or, or_true, or_self, Nat.not_lt_zero, ite_e0, ite_e1, lc_lt, lc_ge, lc_gt, lc_le, lc_eq, Classical.not_not]
    with_reducible repeat' (first | (refine And.intro ?_ ?_) | intro _)
    all_goals try omega
    all_goals first | omega | skip
    refine kx_cob M W (by omega) ?_
    by_cases c2 : cobP P a b (P 2 3).toNat = -1
    · simp -implicitDefEqProofs only [↓b142_0, ↓b142_15, ↓b142_21, ↓b142_24, ↓b142_33, ↓b142_36, ↓b142_42, ↓b142_46, ↓b142_48, b142_0, b142_15, b142_21, b142_24, b142_33, b142_36, b142_42, b142_46, b142_48, nLE2, layE8, hM, c2, up_rd, k3_134, r134, k3_128, r128, n3_141, I32, ↓xb, xb, ps, lpad, lat, aok2, rd2, aaok, aav, alok, alen, aok, akk, csum, isLg, cmpI, clsE, Option.elim, eq_self, List.mem_cons, List.not_mem_nil, or_false, false_or, List.append_nil, List.nil_append, List.cons_append, List.append_eq, List.replicate, List.length_cons, List.length_nil, List.map_cons, List.map_nil, ↓reduceIte, reduceCtorEq, if_true, if_false, true_and, and_true, false_and, and_false, and_self, not_true_eq_false, not_false_eq_true, forall_const, true_implies, false_implies, implies_true, Nat.reduceAdd, Nat.reduceSub, Nat.reduceLT, Nat.reduceLeDiff, Nat.reduceEqDiff, Nat.reduceMul, Nat.reducePow, Nat.add_one_ne_zero, Nat.add_one_sub_one, Nat.add_zero, Nat.zero_add, Int.reduceLT, Int.reduceLE, Int.reduceNeg, Int.reduceAdd, Int.reduceSub, Int.reduceToNat, Int.reduceEq, Int.reduceMul, Int.reducePow, Int.cast_ofNat_Int, Int.toNat_natCast, ne_eq, Bool.false_eq_true, true_or, or_true, or_self, Nat.not_lt_zero, ite_e0, ite_e1, lc_lt, lc_ge, lc_gt, lc_le, lc_eq, Classical.not_not]
      with_reducible repeat' (first | (refine And.intro ?_ ?_) | intro _)
      all_goals try omega
      exact q1 ⟨c1.1, c1.2.1, c1.2.2.1, c1.2.2.2.1, c1.2.2.2.2, c2⟩ _ M.put.put.put.put.put (((((same.refl.put rfl).put rfl).put rfl).put rfl).put rfl)
    · simp -implicitDefEqProofs only [↓b142_0, ↓b142_15, ↓b142_21, ↓b142_24, ↓b142_33, ↓b142_36, ↓b142_42, ↓b142_46, ↓b142_48, b142_0, b142_15, b142_21, b142_24, b142_33, b142_36, b142_42, b142_46, b142_48, nLE2, layE8, c2, k3_134, r134, k3_128, r128, n3_141, I32, ↓xb, xb, ps, lpad, lat, aok2, rd2, aaok, aav, alok, alen, aok, akk, csum, isLg, cmpI, clsE, Option.elim, eq_self, List.mem_cons, List.not_mem_nil, or_false, false_or, List.append_nil, List.nil_append, List.cons_append, List.append_eq, List.replicate, List.length_cons, List.length_nil, List.map_cons, List.map_nil, ↓reduceIte, reduceCtorEq, if_true, if_false, true_and, and_true, false_and, and_false, and_self, not_true_eq_false, not_false_eq_true, forall_const, true_implies, false_implies, implies_true, Nat.reduceAdd, Nat.reduceSub, Nat.reduceLT, Nat.reduceLeDiff, Nat.reduceEqDiff, Nat.reduceMul, Nat.reducePow, Nat.add_one_ne_zero, Nat.add_one_sub_one, Nat.add_zero, Nat.zero_add, Int.reduceLT, Int.reduceLE, Int.reduceNeg, Int.reduceAdd, Int.reduceSub, Int.reduceToNat, Int.reduceEq, Int.reduceMul, Int.reducePow, Int.cast_ofNat_Int, Int.toNat_natCast, ne_eq, Bool.false_eq_true, true_or, or_true, or_self, Nat.not_lt_zero, ite_e0, ite_e1, lc_lt, lc_ge, lc_gt, lc_le, lc_eq, Classical.not_not]
      with_reducible repeat' (first | (refine And.intro ?_ ?_) | intro _)
      all_goals try omega
      exact q0 (fun z => c2 z.2.2.2.2.2)
  · refine CC_vb ok142 (by decide) (sm3_ok G w) 60 [36] (Nat.le_of_ble_eq_true rfl) ?_
    simp -implicitDefEqProofs only [↓b142_0, ↓b142_15, ↓b142_21, ↓b142_24, ↓b142_33, ↓b142_36, ↓b142_42, ↓b142_46, ↓b142_48, b142_0, b142_15, b142_21, b142_24, b142_33, b142_36, b142_42, b142_46, b142_48, nLE2, layE8, hM, k3_134, r134, k3_128, r128, n3_141, I32, ↓xb, xb, ps, lpad, lat, aok2, rd2, aaok, aav, alok, alen, aok, akk, csum, isLg, cmpI, clsE, Option.elim, eq_self, List.mem_cons, List.not_mem_nil, or_false, false_or, List.append_nil, List.nil_append, List.cons_append, List.append_eq, List.replicate, List.length_cons, List.length_nil, List.map_cons, List.map_nil, ↓reduceIte, reduceCtorEq, if_true, if_false, true_and, and_true, false_and, and_false, and_self, not_true_eq_false, not_false_eq_true, forall_const, true_implies, false_implies, implies_true, Nat.reduceAdd, Nat.reduceSub, Nat.reduceLT, Nat.reduceLeDiff, Nat.reduceEqDiff, Nat.reduceMul, Nat.reducePow, Nat.add_one_ne_zero, Nat.add_one_sub_one, Nat.add_zero, Nat.zero_add, Int.reduceLT, Int.reduceLE, Int.reduceNeg, Int.reduceAdd, Int.reduceSub, Int.reduceToNat, Int.reduceEq, Int.reduceMul, Int.reducePow, Int.cast_ofNat_Int, Int.toNat_natCast, ne_eq, Bool.false_eq_true, true_or, or_true, or_self, Nat.not_lt_zero, ite_e0, ite_e1, lc_lt, lc_ge, lc_gt, lc_le, lc_eq, Classical.not_not]
    with_reducible repeat' (first | (refine And.intro ?_ ?_) | intro _)
    all_goals try omega
    all_goals first | omega | exact q0 (fun z => c1 ⟨z.1, z.2.1, z.2.2.1, z.2.2.2.1, z.2.2.2.2.1⟩)
end CBL

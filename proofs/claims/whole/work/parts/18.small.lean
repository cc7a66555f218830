/-! 18.small: loud, debtor, the small loops of a town and of the check (by wip/gen/gen18.py) -/
section SML
variable {G : Gl} {w : Wd} {k : Nat} {σ : Mem} {Q : Option AV → Mem → Prop} {P : Pt} {g : Prop} {t : Nat}
def ldP (P : Pt) (m : Nat) : Int := iter (lst P m) (P 2 0).toNat 0
set_option maxRecDepth 100000 in
set_option maxHeartbeats 1000000 in
theorem kc_loud_i (R : RT g σ t P) (W : WF P) (hk : 8 ≤ k) (ht : t = 1) {b v x : Int} (hx : 0 ≤ x ∧ x < P 2 2) (q : TT G w w w k (0, 0) 121 57 [some (vr 0 0 0), some (vi b), some (vi v), some (vi x), some (vi (iter (lst P x.toNat) (P 2 0).toNat 0)), some (vi (P 2 0))] [] σ Q) : ∀ (m : Nat) (i c : Int), 0 ≤ i → i ≤ P 2 0 → P 2 0 < i + m → c = iter (lst P x.toNat) i.toNat 0 → TT G w w w k (0, 0) 121 24 [some (vr 0 0 0), some (vi b), some (vi v), some (vi x), some (vi c), some (vi i)] [] σ Q
  | 0, i, c, h0, h1, h2, _ => by omega
  | m + 1, i, c, h0, h1, h2, hc => by
    have ih := kc_loud_i R W hk ht hx q m (i + 1)
    rw [iter_toNat _ h0, ← hc] at ih
    obtain ⟨⟨w1, w2⟩, ⟨w3, w4⟩, ⟨w5, w6⟩, ⟨w7, w8⟩, ⟨w9, w10⟩, ⟨w11, w12⟩, w13, ⟨w14, w15⟩⟩ := W.sc
    subst ht
    have hb := lst_b W (m := x.toNat) (by omega) i.toNat (by omega); rw [← hc] at hb
    have e1 := R.houses; have e2 := R.needs; have e3 := R.makers; have e4 := R.cables; have e5 := R.items; have e6 := R.ends; have e7 := R.now; have e8 := R.said
    by_cases hi : i < P 2 0
    · obtain ⟨d1, d2, d3, d4, d5, d6, d7, d8⟩ := W.mk (n := x.toNat) (by omega)
      have hd := hdP_b W (m := x.toNat) (h := i) (by omega) (by omega)
      have s0 := R.maker0 (n := x.toNat) (by omega); have s5 := R.maker5 (n := x.toNat) (by omega)
      have x1 := R.xy W (a := P 16 x.toNat) (by omega); have x2 := R.xy W (a := i) (by omega); have x3 := R.far_t (a := P 16 x.toNat) (b := i) (by omega) (by omega)
      have x4 : max 0 (P 21 x.toNat - farP P (P 16 x.toNat) i) = hdP P x.toNat i := rfl
      refine TT_vb ok121 (sm3_ok G w) 60 [24, 57] ?_
      simp -implicitDefEqProofs only [↓b121_0, ↓b121_7, ↓b121_18, ↓b121_24, ↓b121_36, ↓b121_48, ↓b121_57, ↓b121_63, ↓b121_69, ↓b121_74, ↓b121_80, b121_0, b121_7, b121_18, b121_24, b121_36, b121_48, b121_57, b121_63, b121_69, b121_74, b121_80, nLE2, layE7, layE4, layE3, layE2, e1, e2, e3, e4, e5, e6, e7, e8, up_rd, s0, s5, x1, x2, x3, x4, k3_55, r55, I32, ↓xb, xb, ps, lpad, lat, aok2, rd2, aaok, aav, alok, alen, aok, akk, csum, isLg, cmpI, clsE, Option.elim, eq_self, List.mem_cons, List.not_mem_nil, or_false, false_or, List.append_nil, List.nil_append, List.cons_append, List.append_eq, List.replicate, List.length_cons, List.length_nil, List.map_cons, List.map_nil, ↓reduceIte, reduceCtorEq, if_true, if_false, true_and, and_true, false_and, and_false, and_self, not_true_eq_false, not_false_eq_true, forall_const, true_implies, false_implies, implies_true, Nat.reduceAdd, Nat.reduceSub, Nat.reduceLT, Nat.reduceLeDiff, Nat.reduceEqDiff, Nat.reduceMul, Nat.reducePow, Nat.add_one_ne_zero, Nat.add_one_sub_one, Nat.add_zero, Nat.zero_add, Int.reduceLT, Int.reduceLE, Int.reduceNeg, Int.reduceAdd, Int.reduceSub, Int.reduceToNat, Int.reduceEq, Int.reduceMul, Int.reducePow, Int.cast_ofNat_Int, Int.toNat_natCast, ne_eq, Bool.false_eq_true, true_or, or_true, or_self, Nat.not_lt_zero, ite_e0, ite_e1, lc_lt, lc_ge, lc_gt, lc_le, lc_eq, Classical.not_not]
      with_reducible repeat' (first | (refine And.intro ?_ ?_) | intro _)
      all_goals try omega
      all_goals try (exact ih _ (by omega) (by omega) (by omega) (by unfold lst; rw [show ((i.toNat : Nat) : Int) = i by omega]))
    · refine TT_vb ok121 (sm3_ok G w) 60 [24, 57] ?_
      simp -implicitDefEqProofs only [↓b121_0, ↓b121_7, ↓b121_18, ↓b121_24, ↓b121_36, ↓b121_48, ↓b121_57, ↓b121_63, ↓b121_69, ↓b121_74, ↓b121_80, b121_0, b121_7, b121_18, b121_24, b121_36, b121_48, b121_57, b121_63, b121_69, b121_74, b121_80, nLE2, layE7, layE4, layE3, layE2, e1, e2, e3, e4, e5, e6, e7, e8, up_rd, k3_55, r55, I32, ↓xb, xb, ps, lpad, lat, aok2, rd2, aaok, aav, alok, alen, aok, akk, csum, isLg, cmpI, clsE, Option.elim, eq_self, List.mem_cons, List.not_mem_nil, or_false, false_or, List.append_nil, List.nil_append, List.cons_append, List.append_eq, List.replicate, List.length_cons, List.length_nil, List.map_cons, List.map_nil, ↓reduceIte, reduceCtorEq, if_true, if_false, true_and, and_true, false_and, and_false, and_self, not_true_eq_false, not_false_eq_true, forall_const, true_implies, false_implies, implies_true, Nat.reduceAdd, Nat.reduceSub, Nat.reduceLT, Nat.reduceLeDiff, Nat.reduceEqDiff, Nat.reduceMul, Nat.reducePow, Nat.add_one_ne_zero, Nat.add_one_sub_one, Nat.add_zero, Nat.zero_add, Int.reduceLT, Int.reduceLE, Int.reduceNeg, Int.reduceAdd, Int.reduceSub, Int.reduceToNat, Int.reduceEq, Int.reduceMul, Int.reducePow, Int.cast_ofNat_Int, Int.toNat_natCast, ne_eq, Bool.false_eq_true, true_or, or_true, or_self, Nat.not_lt_zero, ite_e0, ite_e1, lc_lt, lc_ge, lc_gt, lc_le, lc_eq, Classical.not_not]
      with_reducible repeat' (first | (refine And.intro ?_ ?_) | intro _)
      all_goals try omega
      have ei : i = P 2 0 := by omega
      subst ei; subst hc; exact q
set_option maxRecDepth 100000 in
set_option maxHeartbeats 1000000 in
theorem kx_loud_i (M : MR σ P) (W : WF P) (hk : 8 ≤ k) {b v x : Int} (hx : 0 ≤ x ∧ x < P 2 2) (q : TT G w w w k (0, 0) 236 52 [some (vr 21 0 0), some (vi b), some (vi v), some (vi x), some (vi (iter (lst P x.toNat) (P 2 0).toNat 0)), some (vi (P 2 0))] [] σ Q) : ∀ (m : Nat) (i c : Int), 0 ≤ i → i ≤ P 2 0 → P 2 0 < i + m → c = iter (lst P x.toNat) i.toNat 0 → TT G w w w k (0, 0) 236 23 [some (vr 21 0 0), some (vi b), some (vi v), some (vi x), some (vi c), some (vi i)] [] σ Q
  | 0, i, c, h0, h1, h2, _ => by omega
  | m + 1, i, c, h0, h1, h2, hc => by
    have ih := kx_loud_i M W hk hx q m (i + 1)
    rw [iter_toNat _ h0, ← hc] at ih
    obtain ⟨⟨w1, w2⟩, ⟨w3, w4⟩, ⟨w5, w6⟩, ⟨w7, w8⟩, ⟨w9, w10⟩, ⟨w11, w12⟩, w13, ⟨w14, w15⟩⟩ := W.sc
    have hb := lst_b W (m := x.toNat) (by omega) i.toNat (by omega); rw [← hc] at hb
    have hM : ∀ f i, 2 ≤ f → f ≤ 38 → σ 21 f 0 i = P f i := M
    by_cases hi : i < P 2 0
    · obtain ⟨d1, d2, d3, d4, d5, d6, d7, d8⟩ := W.mk (n := x.toNat) (by omega)
      have hd := hdP_b W (m := x.toNat) (h := i) (by omega) (by omega)
      have x1 := M.xy W (a := P 16 x.toNat) (by omega); have x2 := M.xy W (a := i) (by omega); have x3 := M.far_m (a := P 16 x.toNat) (b := i)
      have x4 : (if P 21 x.toNat - farP P (P 16 x.toNat) i < 0 then 0 else P 21 x.toNat - farP P (P 16 x.toNat) i) = hdP P x.toNat i := by unfold hdP; split <;> omega
      refine TT_vb ok236 (sm3_ok G w) 60 [23, 52] ?_
      simp -implicitDefEqProofs only [↓b236_0, ↓b236_7, ↓b236_17, ↓b236_23, ↓b236_34, ↓b236_43, ↓b236_52, ↓b236_58, ↓b236_64, ↓b236_69, ↓b236_75, b236_0, b236_7, b236_17, b236_23, b236_34, b236_43, b236_52, b236_58, b236_64, b236_69, b236_75, nLE4, layE8, hM, up_rd, x1, x2, x3, x4, k3_234, r234, I32, ↓xb, xb, ps, lpad, lat, aok2, rd2, aaok, aav, alok, alen, aok, akk, csum, isLg, cmpI, clsE, Option.elim, eq_self, List.mem_cons, List.not_mem_nil, or_false, false_or, List.append_nil, List.nil_append, List.cons_append, List.append_eq, List.replicate, List.length_cons, List.length_nil, List.map_cons, List.map_nil, ↓reduceIte, reduceCtorEq, if_true, if_false, true_and, and_true, false_and, and_false, and_self, not_true_eq_false, not_false_eq_true, forall_const, true_implies, false_implies, implies_true, Nat.reduceAdd, Nat.reduceSub, Nat.reduceLT, Nat.reduceLeDiff, Nat.reduceEqDiff, Nat.reduceMul, Nat.reducePow, Nat.add_one_ne_zero, Nat.add_one_sub_one, Nat.add_zero, Nat.zero_add, Int.reduceLT, Int.reduceLE, Int.reduceNeg, Int.reduceAdd, Int.reduceSub, Int.reduceToNat, Int.reduceEq, Int.reduceMul, Int.reducePow, Int.cast_ofNat_Int, Int.toNat_natCast, ne_eq, Bool.false_eq_true, true_or, or_true, or_self, Nat.not_lt_zero, ite_e0, ite_e1, lc_lt, lc_ge, lc_gt, lc_le, lc_eq, Classical.not_not]
      with_reducible repeat' (first | (refine And.intro ?_ ?_) | intro _)
      all_goals try omega
      all_goals try (exact ih _ (by omega) (by omega) (by omega) (by unfold lst; rw [show ((i.toNat : Nat) : Int) = i by omega]))
    · refine TT_vb ok236 (sm3_ok G w) 60 [23, 52] ?_
      simp -implicitDefEqProofs only [↓b236_0, ↓b236_7, ↓b236_17, ↓b236_23, ↓b236_34, ↓b236_43, ↓b236_52, ↓b236_58, ↓b236_64, ↓b236_69, ↓b236_75, b236_0, b236_7, b236_17, b236_23, b236_34, b236_43, b236_52, b236_58, b236_64, b236_69, b236_75, nLE4, layE8, hM, up_rd, k3_234, r234, I32, ↓xb, xb, ps, lpad, lat, aok2, rd2, aaok, aav, alok, alen, aok, akk, csum, isLg, cmpI, clsE, Option.elim, eq_self, List.mem_cons, List.not_mem_nil, or_false, false_or, List.append_nil, List.nil_append, List.cons_append, List.append_eq, List.replicate, List.length_cons, List.length_nil, List.map_cons, List.map_nil, ↓reduceIte, reduceCtorEq, if_true, if_false, true_and, and_true, false_and, and_false, and_self, not_true_eq_false, not_false_eq_true, forall_const, true_implies, false_implies, implies_true, Nat.reduceAdd, Nat.reduceSub, Nat.reduceLT, Nat.reduceLeDiff, Nat.reduceEqDiff, Nat.reduceMul, Nat.reducePow, Nat.add_one_ne_zero, Nat.add_one_sub_one, Nat.add_zero, Nat.zero_add, Int.reduceLT, Int.reduceLE, Int.reduceNeg, Int.reduceAdd, Int.reduceSub, Int.reduceToNat, Int.reduceEq, Int.reduceMul, Int.reducePow, Int.cast_ofNat_Int, Int.toNat_natCast, ne_eq, Bool.false_eq_true, true_or, or_true, or_self, Nat.not_lt_zero, ite_e0, ite_e1, lc_lt, lc_ge, lc_gt, lc_le, lc_eq, Classical.not_not]
      with_reducible repeat' (first | (refine And.intro ?_ ?_) | intro _)
      all_goals try omega
      have ei : i = P 2 0 := by omega
      subst ei; subst hc; exact q
set_option maxRecDepth 100000 in
set_option maxHeartbeats 1000000 in
theorem kc_loud_l (R : RT True σ 1 P) (W : WF P) (hk : 8 ≤ k) (q : Q (some (vi (iter (pick (ldP P)) (P 2 2).toNat (-2, 0)).1)) σ) : ∀ (m : Nat) (i b v : Int) (l4 l5 : Option AV), 0 ≤ i → i ≤ P 2 2 → P 2 2 < i + m → (b, v) = iter (pick (ldP P)) i.toNat (-2, 0) → TT G w w w k (0, 0) 121 7 [some (vr 0 0 0), some (vi b), some (vi v), some (vi i), l4, l5] [] σ Q
  | 0, i, b, v, l4, l5, h0, h1, h2, _ => by omega
  | m + 1, i, b, v, l4, l5, h0, h1, h2, hc => by
    have ih := kc_loud_l R W hk q m (i + 1)
    rw [iter_toNat _ h0, ← hc] at ih
    have wh := W.sc.1
    have wm := W.sc.2.2.1
    have pb := pick_b (f := ldP P) i.toNat
    rw [← hc] at pb
    have e1 := R.houses
    have e3 := R.makers
    by_cases hi : i < P 2 2
    · refine TT_vb ok121 (sm3_ok G w) 60 [7, 24] ?_
      simp -implicitDefEqProofs only [↓b121_0, ↓b121_7, ↓b121_18, ↓b121_24, ↓b121_36, ↓b121_48, ↓b121_57, ↓b121_63, ↓b121_69, ↓b121_74, ↓b121_80, b121_0, b121_7, b121_18, b121_24, b121_36, b121_48, b121_57, b121_63, b121_69, b121_74, b121_80, nLE2, layE7, layE4, layE3, layE2, e1, e3, k3_55, r55, I32, ↓xb, xb, ps, lpad, lat, aok2, rd2, aaok, aav, alok, alen, aok, akk, csum, isLg, cmpI, clsE, Option.elim, eq_self, List.mem_cons, List.not_mem_nil, or_false, false_or, List.append_nil, List.nil_append, List.cons_append, List.append_eq, List.replicate, List.length_cons, List.length_nil, List.map_cons, List.map_nil, ↓reduceIte, reduceCtorEq, if_true, if_false, true_and, and_true, false_and, and_false, and_self, not_true_eq_false, not_false_eq_true, forall_const, true_implies, false_implies, implies_true, Nat.reduceAdd, Nat.reduceSub, Nat.reduceLT, Nat.reduceLeDiff, Nat.reduceEqDiff, Nat.reduceMul, Nat.reducePow, Nat.add_one_ne_zero, Nat.add_one_sub_one, Nat.add_zero, Nat.zero_add, Int.reduceLT, Int.reduceLE, Int.reduceNeg, Int.reduceAdd, Int.reduceSub, Int.reduceToNat, Int.reduceEq, Int.reduceMul, Int.reducePow, Int.cast_ofNat_Int, Int.toNat_natCast, ne_eq, Bool.false_eq_true, true_or, or_true, or_self, Nat.not_lt_zero, ite_e0, ite_e1, lc_lt, lc_ge, lc_gt, lc_le, lc_eq, Classical.not_not]
      with_reducible repeat' (first | (refine And.intro ?_ ?_) | intro _)
      all_goals try omega
      refine kc_loud_i R W hk rfl ⟨h0, hi⟩ ?_ 13 0 0 (by omega) (by omega) (by omega) rfl
      refine TT_vb ok121 (sm3_ok G w) 60 [7] ?_
      simp -implicitDefEqProofs only [↓b121_0, ↓b121_7, ↓b121_18, ↓b121_24, ↓b121_36, ↓b121_48, ↓b121_57, ↓b121_63, ↓b121_69, ↓b121_74, ↓b121_80, b121_0, b121_7, b121_18, b121_24, b121_36, b121_48, b121_57, b121_63, b121_69, b121_74, b121_80, nLE2, layE7, layE4, layE3, layE2, e1, e3, k3_55, r55, I32, ↓xb, xb, ps, lpad, lat, aok2, rd2, aaok, aav, alok, alen, aok, akk, csum, isLg, cmpI, clsE, Option.elim, eq_self, List.mem_cons, List.not_mem_nil, or_false, false_or, List.append_nil, List.nil_append, List.cons_append, List.append_eq, List.replicate, List.length_cons, List.length_nil, List.map_cons, List.map_nil, ↓reduceIte, reduceCtorEq, if_true, if_false, true_and, and_true, false_and, and_false, and_self, not_true_eq_false, not_false_eq_true, forall_const, true_implies, false_implies, implies_true, Nat.reduceAdd, Nat.reduceSub, Nat.reduceLT, Nat.reduceLeDiff, Nat.reduceEqDiff, Nat.reduceMul, Nat.reducePow, Nat.add_one_ne_zero, Nat.add_one_sub_one, Nat.add_zero, Nat.zero_add, Int.reduceLT, Int.reduceLE, Int.reduceNeg, Int.reduceAdd, Int.reduceSub, Int.reduceToNat, Int.reduceEq, Int.reduceMul, Int.reducePow, Int.cast_ofNat_Int, Int.toNat_natCast, ne_eq, Bool.false_eq_true, true_or, or_true, or_self, Nat.not_lt_zero, ite_e0, ite_e1, lc_lt, lc_ge, lc_gt, lc_le, lc_eq, Classical.not_not]
      with_reducible repeat' (first | (refine And.intro ?_ ?_) | intro _)
      all_goals try omega
      all_goals refine ih _ _ _ _ (by omega) (by omega) (by omega) ?_
      all_goals unfold pick ldP
      all_goals simp only [show ((i.toNat : Nat) : Int) = i by omega]
      all_goals first | exact (if_pos (by omega)).symm | exact (if_neg (by omega)).symm
    · refine TT_vb ok121 (sm3_ok G w) 60 [7] ?_
      simp -implicitDefEqProofs only [↓b121_0, ↓b121_7, ↓b121_18, ↓b121_24, ↓b121_36, ↓b121_48, ↓b121_57, ↓b121_63, ↓b121_69, ↓b121_74, ↓b121_80, b121_0, b121_7, b121_18, b121_24, b121_36, b121_48, b121_57, b121_63, b121_69, b121_74, b121_80, nLE2, layE7, layE4, layE3, layE2, e1, e3, k3_55, r55, I32, ↓xb, xb, ps, lpad, lat, aok2, rd2, aaok, aav, alok, alen, aok, akk, csum, isLg, cmpI, clsE, Option.elim, eq_self, List.mem_cons, List.not_mem_nil, or_false, false_or, List.append_nil, List.nil_append, List.cons_append, List.append_eq, List.replicate, List.length_cons, List.length_nil, List.map_cons, List.map_nil, ↓reduceIte, reduceCtorEq, if_true, if_false, true_and, and_true, false_and, and_false, and_self, not_true_eq_false, not_false_eq_true, forall_const, true_implies, false_implies, implies_true, Nat.reduceAdd, Nat.reduceSub, Nat.reduceLT, Nat.reduceLeDiff, Nat.reduceEqDiff, Nat.reduceMul, Nat.reducePow, Nat.add_one_ne_zero, Nat.add_one_sub_one, Nat.add_zero, Nat.zero_add, Int.reduceLT, Int.reduceLE, Int.reduceNeg, Int.reduceAdd, Int.reduceSub, Int.reduceToNat, Int.reduceEq, Int.reduceMul, Int.reducePow, Int.cast_ofNat_Int, Int.toNat_natCast, ne_eq, Bool.false_eq_true, true_or, or_true, or_self, Nat.not_lt_zero, ite_e0, ite_e1, lc_lt, lc_ge, lc_gt, lc_le, lc_eq, Classical.not_not]
      with_reducible repeat' (first | (refine And.intro ?_ ?_) | intro _)
      all_goals try omega
      have ei : i = P 2 2 := by omega
      subst ei
      rw [← hc] at q
      exact q
set_option maxRecDepth 100000 in
set_option maxHeartbeats 1000000 in
theorem kc_loud (R : RT True σ 1 P) (W : WF P) (hk : 8 ≤ k) (q : Q (some (vi (iter (pick (ldP P)) (P 2 2).toNat (-2, 0)).1)) σ) : CC G w w k (0, 0) 121 [vr 0 0 0] σ Q := by
  have wm := W.sc.2.2.1
  refine CC_vb ok121 (by decide) (sm3_ok G w) 60 [7] (Nat.le_of_ble_eq_true rfl) ?_
  simp -implicitDefEqProofs only [↓b121_0, ↓b121_7, ↓b121_18, ↓b121_24, ↓b121_36, ↓b121_48, ↓b121_57, ↓b121_63, ↓b121_69, ↓b121_74, ↓b121_80, b121_0, b121_7, b121_18, b121_24, b121_36, b121_48, b121_57, b121_63, b121_69, b121_74, b121_80, nLE2, layE7, layE4, layE3, layE2, hk, k3_55, r55, I32, ↓xb, xb, ps, lpad, lat, aok2, rd2, aaok, aav, alok, alen, aok, akk, csum, isLg, cmpI, clsE, Option.elim, eq_self, List.mem_cons, List.not_mem_nil, or_false, false_or, List.append_nil, List.nil_append, List.cons_append, List.append_eq, List.replicate, List.length_cons, List.length_nil, List.map_cons, List.map_nil, ↓reduceIte, reduceCtorEq, if_true, if_false, true_and, and_true, false_and, and_false, and_self, not_true_eq_false, not_false_eq_true, forall_const, true_implies, false_implies, implies_true, Nat.reduceAdd, Nat.reduceSub, Nat.reduceLT, Nat.reduceLeDiff, Nat.reduceEqDiff, Nat.reduceMul, Nat.reducePow, Nat.add_one_ne_zero, Nat.add_one_sub_one, Nat.add_zero, Nat.zero_add, Int.reduceLT, Int.reduceLE, Int.reduceNeg, Int.reduceAdd, Int.reduceSub, Int.reduceToNat, Int.reduceEq, Int.reduceMul, Int.reducePow, Int.cast_ofNat_Int, Int.toNat_natCast, ne_eq, Bool.false_eq_true, true_or, or_true, or_self, Nat.not_lt_zero, ite_e0, ite_e1, lc_lt, lc_ge, lc_gt, lc_le, lc_eq, Classical.not_not]
  with_reducible repeat' (first | (refine And.intro ?_ ?_) | intro _)
  all_goals try omega
  exact kc_loud_l R W hk q 13 0 (-2) 0 none none (by omega) (by omega) (by omega) rfl
set_option maxRecDepth 100000 in
set_option maxHeartbeats 1000000 in
theorem kx_loud_l (M : MR σ P) (W : WF P) (hk : 8 ≤ k) (q : Q (some (vi (iter (pick (ldP P)) (P 2 2).toNat (-2, 0)).1)) σ) : ∀ (m : Nat) (i b v : Int) (l4 l5 : Option AV), 0 ≤ i → i ≤ P 2 2 → P 2 2 < i + m → (b, v) = iter (pick (ldP P)) i.toNat (-2, 0) → TT G w w w k (0, 0) 236 7 [some (vr 21 0 0), some (vi b), some (vi v), some (vi i), l4, l5] [] σ Q
  | 0, i, b, v, l4, l5, h0, h1, h2, _ => by omega
  | m + 1, i, b, v, l4, l5, h0, h1, h2, hc => by
    have ih := kx_loud_l M W hk q m (i + 1)
    rw [iter_toNat _ h0, ← hc] at ih
    have wh := W.sc.1
    have wm := W.sc.2.2.1
    have pb := pick_b (f := ldP P) i.toNat
    rw [← hc] at pb
    have e1 := M 2 0 (by decide) (by decide)
    have e3 := M 2 2 (by decide) (by decide)
    by_cases hi : i < P 2 2
    · refine TT_vb ok236 (sm3_ok G w) 60 [7, 23] ?_
      simp -implicitDefEqProofs only [↓b236_0, ↓b236_7, ↓b236_17, ↓b236_23, ↓b236_34, ↓b236_43, ↓b236_52, ↓b236_58, ↓b236_64, ↓b236_69, ↓b236_75, b236_0, b236_7, b236_17, b236_23, b236_34, b236_43, b236_52, b236_58, b236_64, b236_69, b236_75, nLE4, layE8, e1, e3, k3_234, r234, I32, ↓xb, xb, ps, lpad, lat, aok2, rd2, aaok, aav, alok, alen, aok, akk, csum, isLg, cmpI, clsE, Option.elim, eq_self, List.mem_cons, List.not_mem_nil, or_false, false_or, List.append_nil, List.nil_append, List.cons_append, List.append_eq, List.replicate, List.length_cons, List.length_nil, List.map_cons, List.map_nil, ↓reduceIte, reduceCtorEq, if_true, if_false, true_and, and_true, false_and, and_false, and_self, not_true_eq_false, not_false_eq_true, forall_const, true_implies, false_implies, implies_true, Nat.reduceAdd, Nat.reduceSub, Nat.reduceLT, Nat.reduceLeDiff, Nat.reduceEqDiff, Nat.reduceMul, Nat.reducePow, Nat.add_one_ne_zero, Nat.add_one_sub_one, Nat.add_zero, Nat.zero_add, Int.reduceLT, Int.reduceLE, Int.reduceNeg, Int.reduceAdd, Int.reduceSub, Int.reduceToNat, Int.reduceEq, Int.reduceMul, Int.reducePow, Int.cast_ofNat_Int, Int.toNat_natCast, ne_eq, Bool.false_eq_true, true_or, or_true, or_self, Nat.not_lt_zero, ite_e0, ite_e1, lc_lt, lc_ge, lc_gt, lc_le, lc_eq, Classical.not_not]
      with_reducible repeat' (first | (refine And.intro ?_ ?_) | intro _)
      all_goals try omega
      refine kx_loud_i M W hk ⟨h0, hi⟩ ?_ 13 0 0 (by omega) (by omega) (by omega) rfl
      refine TT_vb ok236 (sm3_ok G w) 60 [7] ?_
      simp -implicitDefEqProofs only [↓b236_0, ↓b236_7, ↓b236_17, ↓b236_23, ↓b236_34, ↓b236_43, ↓b236_52, ↓b236_58, ↓b236_64, ↓b236_69, ↓b236_75, b236_0, b236_7, b236_17, b236_23, b236_34, b236_43, b236_52, b236_58, b236_64, b236_69, b236_75, nLE4, layE8, e1, e3, k3_234, r234, I32, ↓xb, xb, ps, lpad, lat, aok2, rd2, aaok, aav, alok, alen, aok, akk, csum, isLg, cmpI, clsE, Option.elim, eq_self, List.mem_cons, List.not_mem_nil, or_false, false_or, List.append_nil, List.nil_append, List.cons_append, List.append_eq, List.replicate, List.length_cons, List.length_nil, List.map_cons, List.map_nil, ↓reduceIte, reduceCtorEq, if_true, if_false, true_and, and_true, false_and, and_false, and_self, not_true_eq_false, not_false_eq_true, forall_const, true_implies, false_implies, implies_true, Nat.reduceAdd, Nat.reduceSub, Nat.reduceLT, Nat.reduceLeDiff, Nat.reduceEqDiff, Nat.reduceMul, Nat.reducePow, Nat.add_one_ne_zero, Nat.add_one_sub_one, Nat.add_zero, Nat.zero_add, Int.reduceLT, Int.reduceLE, Int.reduceNeg, Int.reduceAdd, Int.reduceSub, Int.reduceToNat, Int.reduceEq, Int.reduceMul, Int.reducePow, Int.cast_ofNat_Int, Int.toNat_natCast, ne_eq, Bool.false_eq_true, true_or, or_true, or_self, Nat.not_lt_zero, ite_e0, ite_e1, lc_lt, lc_ge, lc_gt, lc_le, lc_eq, Classical.not_not]
      with_reducible repeat' (first | (refine And.intro ?_ ?_) | intro _)
      all_goals try omega
      all_goals refine ih _ _ _ _ (by omega) (by omega) (by omega) ?_
      all_goals unfold pick ldP
      all_goals simp only [show ((i.toNat : Nat) : Int) = i by omega]
      all_goals first | exact (if_pos (by omega)).symm | exact (if_neg (by omega)).symm
    · refine TT_vb ok236 (sm3_ok G w) 60 [7] ?_
      simp -implicitDefEqProofs only [↓b236_0, ↓b236_7, ↓b236_17, ↓b236_23, ↓b236_34, ↓b236_43, ↓b236_52, ↓b236_58, ↓b236_64, ↓b236_69, ↓b236_75, b236_0, b236_7, b236_17, b236_23, b236_34, b236_43, b236_52, b236_58, b236_64, b236_69, b236_75, nLE4, layE8, e1, e3, k3_234, r234, I32, ↓xb, xb, ps, lpad, lat, aok2, rd2, aaok, aav, alok, alen, aok, akk, csum, isLg, cmpI, clsE, Option.elim, eq_self, List.mem_cons, List.not_mem_nil, or_false, false_or, List.append_nil, List.nil_append, List.cons_append, List.append_eq, List.replicate, List.length_cons, List.length_nil, List.map_cons, List.map_nil, ↓reduceIte, reduceCtorEq, if_true, if_false, true_and, and_true, false_and, and_false, and_self, not_true_eq_false, not_false_eq_true, forall_const, true_implies, false_implies, implies_true, Nat.reduceAdd, Nat.reduceSub, Nat.reduceLT, Nat.reduceLeDiff, Nat.reduceEqDiff, Nat.reduceMul, Nat.reducePow, Nat.add_one_ne_zero, Nat.add_one_sub_one, Nat.add_zero, Nat.zero_add, Int.reduceLT, Int.reduceLE, Int.reduceNeg, Int.reduceAdd, Int.reduceSub, Int.reduceToNat, Int.reduceEq, Int.reduceMul, Int.reducePow, Int.cast_ofNat_Int, Int.toNat_natCast, ne_eq, Bool.false_eq_true, true_or, or_true, or_self, Nat.not_lt_zero, ite_e0, ite_e1, lc_lt, lc_ge, lc_gt, lc_le, lc_eq, Classical.not_not]
      with_reducible repeat' (first | (refine And.intro ?_ ?_) | intro _)
      all_goals try omega
      have ei : i = P 2 2 := by omega
      subst ei
      rw [← hc] at q
      exact q
set_option maxRecDepth 100000 in
set_option maxHeartbeats 1000000 in
theorem kx_loud (M : MR σ P) (W : WF P) (hk : 8 ≤ k) (q : Q (some (vi (iter (pick (ldP P)) (P 2 2).toNat (-2, 0)).1)) σ) : CC G w w k (0, 0) 236 [vr 21 0 0] σ Q := by
  have wm := W.sc.2.2.1
  refine CC_vb ok236 (by decide) (sm3_ok G w) 60 [7] (Nat.le_of_ble_eq_true rfl) ?_
  simp -implicitDefEqProofs only [↓b236_0, ↓b236_7, ↓b236_17, ↓b236_23, ↓b236_34, ↓b236_43, ↓b236_52, ↓b236_58, ↓b236_64, ↓b236_69, ↓b236_75, b236_0, b236_7, b236_17, b236_23, b236_34, b236_43, b236_52, b236_58, b236_64, b236_69, b236_75, nLE4, layE8, hk, k3_234, r234, I32, ↓xb, xb, ps, lpad, lat, aok2, rd2, aaok, aav, alok, alen, aok, akk, csum, isLg, cmpI, clsE, Option.elim, eq_self, List.mem_cons, List.not_mem_nil, or_false, false_or, List.append_nil, List.nil_append, List.cons_append, List.append_eq, List.replicate, List.length_cons, List.length_nil, List.map_cons, List.map_nil, ↓reduceIte, reduceCtorEq, if_true, if_false, true_and, and_true, false_and, and_false, and_self, not_true_eq_false, not_false_eq_true, forall_const, true_implies, false_implies, implies_true, Nat.reduceAdd, Nat.reduceSub, Nat.reduceLT, Nat.reduceLeDiff, Nat.reduceEqDiff, Nat.reduceMul, Nat.reducePow, Nat.add_one_ne_zero, Nat.add_one_sub_one, Nat.add_zero, Nat.zero_add, Int.reduceLT, Int.reduceLE, Int.reduceNeg, Int.reduceAdd, Int.reduceSub, Int.reduceToNat, Int.reduceEq, Int.reduceMul, Int.reducePow, Int.cast_ofNat_Int, Int.toNat_natCast, ne_eq, Bool.false_eq_true, true_or, or_true, or_self, Nat.not_lt_zero, ite_e0, ite_e1, lc_lt, lc_ge, lc_gt, lc_le, lc_eq, Classical.not_not]
  with_reducible repeat' (first | (refine And.intro ?_ ?_) | intro _)
  all_goals try omega
  exact kx_loud_l M W hk q 13 0 (-2) 0 none none (by omega) (by omega) (by omega) rfl
end SML

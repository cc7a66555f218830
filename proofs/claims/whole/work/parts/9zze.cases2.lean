/-! 9zze.cases2: rule and image, the law's cases in which an object may come to be -/
def rcm (w : Wd) (o a : Nat) : Nat := if w o = true then 0 else a
/-- the room that images and rules not yet there will take -/
def rcl (w : Wd) : Nat × Nat := (rcm w 3 162 + rcm w 4 162 + rcm w 5 162 + rcm w 6 162 + (rcm w 13 7 + rcm w 14 7 + rcm w 15 7 + rcm w 16 7 + rcm w 17 7 + rcm w 18 7 + rcm w 19 7 + rcm w 20 7), rcm w 3 1344 + rcm w 4 1344 + rcm w 5 1344 + rcm w 6 1344 + (rcm w 13 489 + rcm w 14 489 + rcm w 15 489 + rcm w 16 489 + rcm w 17 489 + rcm w 18 489 + rcm w 19 489 + rcm w 20 489))
theorem rcm_o {w : Wd} {o a : Nat} (h : w o = false) : rcm w o a = a := by unfold rcm; rw [h]; rfl
theorem rcm_n {w : Wd} {o a : Nat} : rcm (wdN w o) o a = 0 := by unfold rcm wdN; simp
theorem rcm_x {w : Wd} {o o' a : Nat} (h : o' ≠ o) : rcm (wdN w o) o' a = rcm w o' a := by unfold rcm wdN; simp [h]
theorem rcl_i {w : Wd} {m : Nat} (hm : m < 4) (h : w (3 + m) = false) : (rcl w).1 = 162 + (rcl (wdN w (3 + m))).1 ∧ (rcl w).2 = 1344 + (rcl (wdN w (3 + m))).2 := by
  have e : m = 0 ∨ m = 1 ∨ m = 2 ∨ m = 3 := by omega
  have y : ∀ a, rcm w (3 + m) a = a := fun a => rcm_o h
  have z : ∀ a, rcm (wdN w (3 + m)) (3 + m) a = 0 := fun a => rcm_n
  unfold rcl
  dsimp only
  rcases e with rfl | rfl | rfl | rfl
  all_goals
    simp only [Nat.reduceAdd] at y z h ⊢
    rw [y, y, z, z]
    repeat rw [rcm_x (by omega)]
    omega
theorem rcl_r {w : Wd} {m : Nat} (hm : m < 8) (h : w (13 + m) = false) : (rcl w).1 = 7 + (rcl (wdN w (13 + m))).1 ∧ (rcl w).2 = 489 + (rcl (wdN w (13 + m))).2 := by
  have e : m = 0 ∨ m = 1 ∨ m = 2 ∨ m = 3 ∨ m = 4 ∨ m = 5 ∨ m = 6 ∨ m = 7 := by omega
  have y : ∀ a, rcm w (13 + m) a = a := fun a => rcm_o h
  have z : ∀ a, rcm (wdN w (13 + m)) (13 + m) a = 0 := fun a => rcm_n
  unfold rcl
  dsimp only
  rcases e with rfl | rfl | rfl | rfl | rfl | rfl | rfl | rfl
  all_goals
    simp only [Nat.reduceAdd] at y z h ⊢
    rw [y, y, z, z]
    repeat rw [rcm_x (by omega)]
    omega
theorem d804 : decode (bc 248) 804 = .ok (.aload_n 1, 1) ∧ decode (bc 248) 805 = .ok (.invokevirtual 67, 3) := by decide +kernel
theorem d1785 : decode (bc 248) 1785 = .ok (.aload_n 1, 1) ∧ decode (bc 248) 1786 = .ok (.aload_n 0, 1) ∧ decode (bc 248) 1787 = .ok (.iload_n 3, 1) ∧ decode (bc 248) 1788 = .ok (.iconst 1, 1) ∧ decode (bc 248) 1789 = .ok (.iadd, 1) ∧ decode (bc 248) 1790 = .ok (.iaload, 1) ∧ decode (bc 248) 1791 = .ok (.invokevirtual 195, 3) := by decide +kernel
theorem l248 : hasL (own 248) 67 91 = true ∧ hasL (own 248) 195 125 = true ∧ isVt 91 = true ∧ isVt 125 = true := by decide +kernel
theorem bo_wN {w : Wd} {o : Nat} (ho : o < 22) : ∀ x, born w x → born (wdN w o) x := fun x h => (born_wN ho x).mpr (Or.inl h)
section LC2
variable {G : Gl} {w0 w : Wd} {k : Nat} {σ : Mem} {Q : Option AV → Mem → Prop} {i : Int}
set_option maxRecDepth 100000 in
set_option maxHeartbeats 1000000 in
theorem lc_12 (hww0 : ∀ o, born w0 o → born w o) (L : LWx w σ) (hi : 0 ≤ i ∧ i + 8 ≤ ((G.2.2.2.1.1 : Nat) : Int)) (hG : G.2.2.2.1.1 < 2147483648) (hI : ∀ j, I32 (G.2.2.2.1.2 j)) (hk : 200 ≤ k) (kk : ∀ w' σ', (∀ o, born w o → born w' o) → LWx w' σ' → TT G w0 w' w00 k (rcl w') 248 18 [some (vr 999 999 0), some (vr 0 0 0), some (vr 21 0 0), some (vi (i + 8))] [] σ' Q) : TT G w0 w w00 k (rcl w) 248 804 [some (vr 999 999 0), some (vr 0 0 0), some (vr 21 0 0), some (vi i)] [] σ Q := by
  obtain ⟨P, n, Cs, N, b, Pk, L⟩ := L
  have pr : Pair G w w (k - 1) (0, 0) 91 [vr 0 0 0] 174 [vr 21 0 0] σ ∨ ∃ m, m < 8 ∧ w (13 + m) = false ∧ Pair G w (wdN w (13 + m)) (k - 1) (7, 489) 91 [vr 0 0 0] 174 [vr 21 0 0] σ := pair_rule L (by omega)
  rcases pr with ⟨MID, m0, m1, m2⟩ | ⟨m, hm8, hwm, MID, m0, m1, m2⟩
  · refine TT_vb0 hww0 ok248 (sm3_ok G w) 60 [18, 1837] ?_
    simp -implicitDefEqProofs only [↓b248_804, ↓b248_808, ↓b248_812, ↓b248_815, ↓b248_1831, b248_804, b248_808, b248_812, b248_815, b248_1831, nLE4, layE7, layE4, layE3, layE2, n3_91, n3_174, I32, ↓xb, xb, ps, lpad, lat, aok2, rd2, aaok, aav, alok, alen, aok, akk, csum, isLg, cmpI, clsE, Option.elim, eq_self, List.mem_cons, List.not_mem_nil, or_false, false_or, List.append_nil, List.nil_append, List.cons_append, List.append_eq, List.replicate, List.length_cons, List.length_nil, List.map_cons, List.map_nil, ↓reduceIte, reduceCtorEq, if_true, if_false, true_and, and_true, false_and, and_false, and_self, not_true_eq_false, not_false_eq_true, forall_const, true_implies, false_implies, implies_true, Nat.reduceAdd, Nat.reduceSub, Nat.reduceLT, Nat.reduceLeDiff, Nat.reduceEqDiff, Nat.reduceMul, Nat.reducePow, Nat.add_one_ne_zero, Nat.add_one_sub_one, Nat.add_zero, Nat.zero_add, Int.reduceLT, Int.reduceLE, Int.reduceNeg, Int.reduceAdd, Int.reduceSub, Int.reduceToNat, Int.reduceEq, Int.reduceMul, Int.reducePow, Int.cast_ofNat_Int, Int.toNat_natCast, ne_eq, Bool.false_eq_true, true_or, or_true, or_self, Nat.not_lt_zero, ite_e0, ite_e1, lc_lt, lc_ge, lc_gt, lc_le, lc_eq, Classical.not_not]
    with_reducible repeat' (first | (refine And.intro ?_ ?_) | intro _)
    all_goals try omega
    refine m1 _ (fun a σ1 hm => ?_)
    obtain ⟨x, rfl⟩ := m0 _ _ hm
    simp -implicitDefEqProofs only [↓b248_804, ↓b248_808, ↓b248_812, ↓b248_815, ↓b248_1831, b248_804, b248_808, b248_812, b248_815, b248_1831, nLE4, layE7, layE4, layE3, layE2, n3_91, n3_174, I32, ↓xb, xb, ps, lpad, lat, aok2, rd2, aaok, aav, alok, alen, aok, akk, csum, isLg, cmpI, clsE, Option.elim, eq_self, List.mem_cons, List.not_mem_nil, or_false, false_or, List.append_nil, List.nil_append, List.cons_append, List.append_eq, List.replicate, List.length_cons, List.length_nil, List.map_cons, List.map_nil, ↓reduceIte, reduceCtorEq, if_true, if_false, true_and, and_true, false_and, and_false, and_self, not_true_eq_false, not_false_eq_true, forall_const, true_implies, false_implies, implies_true, Nat.reduceAdd, Nat.reduceSub, Nat.reduceLT, Nat.reduceLeDiff, Nat.reduceEqDiff, Nat.reduceMul, Nat.reducePow, Nat.add_one_ne_zero, Nat.add_one_sub_one, Nat.add_zero, Nat.zero_add, Int.reduceLT, Int.reduceLE, Int.reduceNeg, Int.reduceAdd, Int.reduceSub, Int.reduceToNat, Int.reduceEq, Int.reduceMul, Int.reducePow, Int.cast_ofNat_Int, Int.toNat_natCast, ne_eq, Bool.false_eq_true, true_or, or_true, or_self, Nat.not_lt_zero, ite_e0, ite_e1, lc_lt, lc_ge, lc_gt, lc_le, lc_eq, Classical.not_not]
    with_reducible repeat' (first | (refine And.intro ?_ ?_) | intro _)
    all_goals try omega
    refine m2 _ _ hm _ (fun σ2 L2 => ?_)
    simp -implicitDefEqProofs only [↓b248_804, ↓b248_808, ↓b248_812, ↓b248_815, ↓b248_1831, b248_804, b248_808, b248_812, b248_815, b248_1831, nLE4, layE7, layE4, layE3, layE2, n3_91, n3_174, lcmpI_self, I32, ↓xb, xb, ps, lpad, lat, aok2, rd2, aaok, aav, alok, alen, aok, akk, csum, isLg, cmpI, clsE, Option.elim, eq_self, List.mem_cons, List.not_mem_nil, or_false, false_or, List.append_nil, List.nil_append, List.cons_append, List.append_eq, List.replicate, List.length_cons, List.length_nil, List.map_cons, List.map_nil, ↓reduceIte, reduceCtorEq, if_true, if_false, true_and, and_true, false_and, and_false, and_self, not_true_eq_false, not_false_eq_true, forall_const, true_implies, false_implies, implies_true, Nat.reduceAdd, Nat.reduceSub, Nat.reduceLT, Nat.reduceLeDiff, Nat.reduceEqDiff, Nat.reduceMul, Nat.reducePow, Nat.add_one_ne_zero, Nat.add_one_sub_one, Nat.add_zero, Nat.zero_add, Int.reduceLT, Int.reduceLE, Int.reduceNeg, Int.reduceAdd, Int.reduceSub, Int.reduceToNat, Int.reduceEq, Int.reduceMul, Int.reducePow, Int.cast_ofNat_Int, Int.toNat_natCast, ne_eq, Bool.false_eq_true, true_or, or_true, or_self, Nat.not_lt_zero, ite_e0, ite_e1, lc_lt, lc_ge, lc_gt, lc_le, lc_eq, Classical.not_not]
    with_reducible repeat' (first | (refine And.intro ?_ ?_) | intro _)
    all_goals try omega
    all_goals first | omega | exact kk w σ2 (fun _ z => z) L2
  · obtain ⟨k', rfl⟩ : ∃ k', k = k' + 1 := ⟨k - 1, by omega⟩
    obtain ⟨e1, e2⟩ := d804
    have rr := rcl_r hm8 hwm
    have bw := bo_wN (w := w) (o := 13 + m) (by omega)
    refine S_aload_n (i := 1) (q := some (0, 0, 0)) e1 rfl ?_
    refine S_invV (As := []) (y := 91) (w' := wdN w (13 + m)) (rc' := (7, 489)) (rc2 := rcl (wdN w (13 + m))) e2 (okL_of l248.1) (okY_of (by decide) (by decide)) (okV_of (by decide) (by decide) l248.2.2.1) (by decide) rfl rfl (by decide) rr bw hww0 ?_
    refine m1 _ (fun a σ1 hm => ?_)
    obtain ⟨x, rfl⟩ := m0 _ _ hm
    show TT G w0 (wdN w (13 + m)) w00 (k' + 1) (rcl (wdN w (13 + m))) 248 808 [some (vr 999 999 0), some (vr 0 0 0), some (vr 21 0 0), some (vi i)] [vi x] σ1 Q
    refine TT_vb0 (fun o z => bw o (hww0 o z)) ok248 (sm3_ok G _) 60 [18, 1837] ?_
    simp -implicitDefEqProofs only [↓b248_804, ↓b248_808, ↓b248_812, ↓b248_815, ↓b248_1831, b248_804, b248_808, b248_812, b248_815, b248_1831, nLE4, layE7, layE4, layE3, layE2, n3_91, n3_174, I32, ↓xb, xb, ps, lpad, lat, aok2, rd2, aaok, aav, alok, alen, aok, akk, csum, isLg, cmpI, clsE, Option.elim, eq_self, List.mem_cons, List.not_mem_nil, or_false, false_or, List.append_nil, List.nil_append, List.cons_append, List.append_eq, List.replicate, List.length_cons, List.length_nil, List.map_cons, List.map_nil, ↓reduceIte, reduceCtorEq, if_true, if_false, true_and, and_true, false_and, and_false, and_self, not_true_eq_false, not_false_eq_true, forall_const, true_implies, false_implies, implies_true, Nat.reduceAdd, Nat.reduceSub, Nat.reduceLT, Nat.reduceLeDiff, Nat.reduceEqDiff, Nat.reduceMul, Nat.reducePow, Nat.add_one_ne_zero, Nat.add_one_sub_one, Nat.add_zero, Nat.zero_add, Int.reduceLT, Int.reduceLE, Int.reduceNeg, Int.reduceAdd, Int.reduceSub, Int.reduceToNat, Int.reduceEq, Int.reduceMul, Int.reducePow, Int.cast_ofNat_Int, Int.toNat_natCast, ne_eq, Bool.false_eq_true, true_or, or_true, or_self, Nat.not_lt_zero, ite_e0, ite_e1, lc_lt, lc_ge, lc_gt, lc_le, lc_eq, Classical.not_not]
    with_reducible repeat' (first | (refine And.intro ?_ ?_) | intro _)
    all_goals try omega
    refine m2 _ _ hm _ (fun σ2 L2 => ?_)
    simp -implicitDefEqProofs only [↓b248_804, ↓b248_808, ↓b248_812, ↓b248_815, ↓b248_1831, b248_804, b248_808, b248_812, b248_815, b248_1831, nLE4, layE7, layE4, layE3, layE2, n3_91, n3_174, lcmpI_self, I32, ↓xb, xb, ps, lpad, lat, aok2, rd2, aaok, aav, alok, alen, aok, akk, csum, isLg, cmpI, clsE, Option.elim, eq_self, List.mem_cons, List.not_mem_nil, or_false, false_or, List.append_nil, List.nil_append, List.cons_append, List.append_eq, List.replicate, List.length_cons, List.length_nil, List.map_cons, List.map_nil, ↓reduceIte, reduceCtorEq, if_true, if_false, true_and, and_true, false_and, and_false, and_self, not_true_eq_false, not_false_eq_true, forall_const, true_implies, false_implies, implies_true, Nat.reduceAdd, Nat.reduceSub, Nat.reduceLT, Nat.reduceLeDiff, Nat.reduceEqDiff, Nat.reduceMul, Nat.reducePow, Nat.add_one_ne_zero, Nat.add_one_sub_one, Nat.add_zero, Nat.zero_add, Int.reduceLT, Int.reduceLE, Int.reduceNeg, Int.reduceAdd, Int.reduceSub, Int.reduceToNat, Int.reduceEq, Int.reduceMul, Int.reducePow, Int.cast_ofNat_Int, Int.toNat_natCast, ne_eq, Bool.false_eq_true, true_or, or_true, or_self, Nat.not_lt_zero, ite_e0, ite_e1, lc_lt, lc_ge, lc_gt, lc_le, lc_eq, Classical.not_not]
    with_reducible repeat' (first | (refine And.intro ?_ ?_) | intro _)
    all_goals try omega
    all_goals first | omega | exact kk _ σ2 bw L2
set_option maxRecDepth 100000 in
set_option maxHeartbeats 1000000 in
theorem lc_42 (hww0 : ∀ o, born w0 o → born w o) (L : LWx w σ) (hi : 0 ≤ i ∧ i + 8 ≤ ((G.2.2.2.1.1 : Nat) : Int)) (hG : G.2.2.2.1.1 < 2147483648) (hI : ∀ j, I32 (G.2.2.2.1.2 j)) (hk : 200 ≤ k) (kk : ∀ w' σ', (∀ o, born w o → born w' o) → LWx w' σ' → TT G w0 w' w00 k (rcl w') 248 18 [some (vr 999 999 0), some (vr 0 0 0), some (vr 21 0 0), some (vi (i + 8))] [] σ' Q) : TT G w0 w w00 k (rcl w) 248 1785 [some (vr 999 999 0), some (vr 0 0 0), some (vr 21 0 0), some (vi i)] [] σ Q := by
  obtain ⟨P, n, Cs, N, b, Pk, L⟩ := L
  have pr : Pair G w w (k - 1) (0, 0) 125 [vr 0 0 0, vi (G.2.2.2.1.2 (i + 1).toNat)] 246 [vr 21 0 0, vi (G.2.2.2.1.2 (i + 1).toNat)] σ ∨ ∃ m, m < 4 ∧ w (3 + m) = false ∧ Pair G w (wdN w (3 + m)) (k - 1) (162, 1344) 125 [vr 0 0 0, vi (G.2.2.2.1.2 (i + 1).toNat)] 246 [vr 21 0 0, vi (G.2.2.2.1.2 (i + 1).toNat)] σ := pair_image L (by omega)
  rcases pr with ⟨MID, m0, m1, m2⟩ | ⟨m, hm8, hwm, MID, m0, m1, m2⟩
  · refine TT_vb0 hww0 ok248 (sm3_ok G w) 60 [18, 1837] ?_
    simp -implicitDefEqProofs only [↓b248_1785, ↓b248_1794, ↓b248_1803, ↓b248_1806, ↓b248_1831, b248_1785, b248_1794, b248_1803, b248_1806, b248_1831, nLE4, layE7, layE4, layE3, layE2, n3_125, n3_246, I32, ↓xb, xb, ps, lpad, lat, aok2, rd2, aaok, aav, alok, alen, aok, akk, csum, isLg, cmpI, clsE, Option.elim, eq_self, List.mem_cons, List.not_mem_nil, or_false, false_or, List.append_nil, List.nil_append, List.cons_append, List.append_eq, List.replicate, List.length_cons, List.length_nil, List.map_cons, List.map_nil, ↓reduceIte, reduceCtorEq, if_true, if_false, true_and, and_true, false_and, and_false, and_self, not_true_eq_false, not_false_eq_true, forall_const, true_implies, false_implies, implies_true, Nat.reduceAdd, Nat.reduceSub, Nat.reduceLT, Nat.reduceLeDiff, Nat.reduceEqDiff, Nat.reduceMul, Nat.reducePow, Nat.add_one_ne_zero, Nat.add_one_sub_one, Nat.add_zero, Nat.zero_add, Int.reduceLT, Int.reduceLE, Int.reduceNeg, Int.reduceAdd, Int.reduceSub, Int.reduceToNat, Int.reduceEq, Int.reduceMul, Int.reducePow, Int.cast_ofNat_Int, Int.toNat_natCast, ne_eq, Bool.false_eq_true, true_or, or_true, or_self, Nat.not_lt_zero, ite_e0, ite_e1, lc_lt, lc_ge, lc_gt, lc_le, lc_eq, Classical.not_not]
    with_reducible repeat' (first | (refine And.intro ?_ ?_) | intro _)
    all_goals try omega
    refine m1 _ (fun a σ1 hm => ?_)
    obtain ⟨x, rfl⟩ := m0 _ _ hm
    simp -implicitDefEqProofs only [↓b248_1785, ↓b248_1794, ↓b248_1803, ↓b248_1806, ↓b248_1831, b248_1785, b248_1794, b248_1803, b248_1806, b248_1831, nLE4, layE7, layE4, layE3, layE2, n3_125, n3_246, I32, ↓xb, xb, ps, lpad, lat, aok2, rd2, aaok, aav, alok, alen, aok, akk, csum, isLg, cmpI, clsE, Option.elim, eq_self, List.mem_cons, List.not_mem_nil, or_false, false_or, List.append_nil, List.nil_append, List.cons_append, List.append_eq, List.replicate, List.length_cons, List.length_nil, List.map_cons, List.map_nil, ↓reduceIte, reduceCtorEq, if_true, if_false, true_and, and_true, false_and, and_false, and_self, not_true_eq_false, not_false_eq_true, forall_const, true_implies, false_implies, implies_true, Nat.reduceAdd, Nat.reduceSub, Nat.reduceLT, Nat.reduceLeDiff, Nat.reduceEqDiff, Nat.reduceMul, Nat.reducePow, Nat.add_one_ne_zero, Nat.add_one_sub_one, Nat.add_zero, Nat.zero_add, Int.reduceLT, Int.reduceLE, Int.reduceNeg, Int.reduceAdd, Int.reduceSub, Int.reduceToNat, Int.reduceEq, Int.reduceMul, Int.reducePow, Int.cast_ofNat_Int, Int.toNat_natCast, ne_eq, Bool.false_eq_true, true_or, or_true, or_self, Nat.not_lt_zero, ite_e0, ite_e1, lc_lt, lc_ge, lc_gt, lc_le, lc_eq, Classical.not_not]
    with_reducible repeat' (first | (refine And.intro ?_ ?_) | intro _)
    all_goals try omega
    refine m2 _ _ hm _ (fun σ2 L2 => ?_)
    simp -implicitDefEqProofs only [↓b248_1785, ↓b248_1794, ↓b248_1803, ↓b248_1806, ↓b248_1831, b248_1785, b248_1794, b248_1803, b248_1806, b248_1831, nLE4, layE7, layE4, layE3, layE2, n3_125, n3_246, lcmpI_self, I32, ↓xb, xb, ps, lpad, lat, aok2, rd2, aaok, aav, alok, alen, aok, akk, csum, isLg, cmpI, clsE, Option.elim, eq_self, List.mem_cons, List.not_mem_nil, or_false, false_or, List.append_nil, List.nil_append, List.cons_append, List.append_eq, List.replicate, List.length_cons, List.length_nil, List.map_cons, List.map_nil, ↓reduceIte, reduceCtorEq, if_true, if_false, true_and, and_true, false_and, and_false, and_self, not_true_eq_false, not_false_eq_true, forall_const, true_implies, false_implies, implies_true, Nat.reduceAdd, Nat.reduceSub, Nat.reduceLT, Nat.reduceLeDiff, Nat.reduceEqDiff, Nat.reduceMul, Nat.reducePow, Nat.add_one_ne_zero, Nat.add_one_sub_one, Nat.add_zero, Nat.zero_add, Int.reduceLT, Int.reduceLE, Int.reduceNeg, Int.reduceAdd, Int.reduceSub, Int.reduceToNat, Int.reduceEq, Int.reduceMul, Int.reducePow, Int.cast_ofNat_Int, Int.toNat_natCast, ne_eq, Bool.false_eq_true, true_or, or_true, or_self, Nat.not_lt_zero, ite_e0, ite_e1, lc_lt, lc_ge, lc_gt, lc_le, lc_eq, Classical.not_not]
    with_reducible repeat' (first | (refine And.intro ?_ ?_) | intro _)
    all_goals try omega
    all_goals first | omega | exact kk w σ2 (fun _ z => z) L2
  · obtain ⟨k', rfl⟩ : ∃ k', k = k' + 1 := ⟨k - 1, by omega⟩
    obtain ⟨e1, e2, e3, e4, e5, e6, e7⟩ := d1785
    have rr := rcl_i hm8 hwm
    have bw := bo_wN (w := w) (o := 3 + m) (by omega)
    refine S_aload_n (i := 1) (q := some (0, 0, 0)) e1 rfl ?_
    refine S_aload_n (i := 0) (q := some (999, 999, 0)) e2 rfl ?_
    refine S_iload_n (i := 3) (x := i) e3 rfl ?_
    refine S_iconst (n := 1) e4 (by unfold I32; omega) ?_
    refine S_iadd e5 (by unfold I32; omega) ?_
    refine S_script e6 (by omega) (by omega) ?_
    refine S_invV (o := 0) (st := []) (As := [vi (G.2.2.2.1.2 (i + 1).toNat)]) (y := 125) (w' := wdN w (3 + m)) (rc' := (162, 1344)) (rc2 := rcl (wdN w (3 + m))) e7 (okL_of l248.2.1) (okY_of (by decide) (by decide)) (okV_of (by decide) (by decide) l248.2.2.2) (by decide) rfl rfl (by decide) rr bw hww0 ?_
    refine m1 _ (fun a σ1 hm => ?_)
    obtain ⟨x, rfl⟩ := m0 _ _ hm
    show TT G w0 (wdN w (3 + m)) w00 (k' + 1) (rcl (wdN w (3 + m))) 248 1794 [some (vr 999 999 0), some (vr 0 0 0), some (vr 21 0 0), some (vi i)] [vi x] σ1 Q
    refine TT_vb0 (fun o z => bw o (hww0 o z)) ok248 (sm3_ok G _) 60 [18, 1837] ?_
    simp -implicitDefEqProofs only [↓b248_1785, ↓b248_1794, ↓b248_1803, ↓b248_1806, ↓b248_1831, b248_1785, b248_1794, b248_1803, b248_1806, b248_1831, nLE4, layE7, layE4, layE3, layE2, n3_125, n3_246, I32, ↓xb, xb, ps, lpad, lat, aok2, rd2, aaok, aav, alok, alen, aok, akk, csum, isLg, cmpI, clsE, Option.elim, eq_self, List.mem_cons, List.not_mem_nil, or_false, false_or, List.append_nil, List.nil_append, List.cons_append, List.append_eq, List.replicate, List.length_cons, List.length_nil, List.map_cons, List.map_nil, ↓reduceIte, reduceCtorEq, if_true, if_false, true_and, and_true, false_and, and_false, and_self, not_true_eq_false, not_false_eq_true, forall_const, true_implies, false_implies, implies_true, Nat.reduceAdd, Nat.reduceSub, Nat.reduceLT, Nat.reduceLeDiff, Nat.reduceEqDiff, Nat.reduceMul, Nat.reducePow, Nat.add_one_ne_zero, Nat.add_one_sub_one, Nat.add_zero, Nat.zero_add, Int.reduceLT, Int.reduceLE, Int.reduceNeg, Int.reduceAdd, Int.reduceSub, Int.reduceToNat, Int.reduceEq, Int.reduceMul, Int.reducePow, Int.cast_ofNat_Int, Int.toNat_natCast, ne_eq, Bool.false_eq_true, true_or, or_true, or_self, Nat.not_lt_zero, ite_e0, ite_e1, lc_lt, lc_ge, lc_gt, lc_le, lc_eq, Classical.not_not]
    with_reducible repeat' (first | (refine And.intro ?_ ?_) | intro _)
    all_goals try omega
    refine m2 _ _ hm _ (fun σ2 L2 => ?_)
    simp -implicitDefEqProofs only [↓b248_1785, ↓b248_1794, ↓b248_1803, ↓b248_1806, ↓b248_1831, b248_1785, b248_1794, b248_1803, b248_1806, b248_1831, nLE4, layE7, layE4, layE3, layE2, n3_125, n3_246, lcmpI_self, I32, ↓xb, xb, ps, lpad, lat, aok2, rd2, aaok, aav, alok, alen, aok, akk, csum, isLg, cmpI, clsE, Option.elim, eq_self, List.mem_cons, List.not_mem_nil, or_false, false_or, List.append_nil, List.nil_append, List.cons_append, List.append_eq, List.replicate, List.length_cons, List.length_nil, List.map_cons, List.map_nil, ↓reduceIte, reduceCtorEq, if_true, if_false, true_and, and_true, false_and, and_false, and_self, not_true_eq_false, not_false_eq_true, forall_const, true_implies, false_implies, implies_true, Nat.reduceAdd, Nat.reduceSub, Nat.reduceLT, Nat.reduceLeDiff, Nat.reduceEqDiff, Nat.reduceMul, Nat.reducePow, Nat.add_one_ne_zero, Nat.add_one_sub_one, Nat.add_zero, Nat.zero_add, Int.reduceLT, Int.reduceLE, Int.reduceNeg, Int.reduceAdd, Int.reduceSub, Int.reduceToNat, Int.reduceEq, Int.reduceMul, Int.reducePow, Int.cast_ofNat_Int, Int.toNat_natCast, ne_eq, Bool.false_eq_true, true_or, or_true, or_self, Nat.not_lt_zero, ite_e0, ite_e1, lc_lt, lc_ge, lc_gt, lc_le, lc_eq, Classical.not_not]
    with_reducible repeat' (first | (refine And.intro ?_ ?_) | intro _)
    all_goals try omega
    all_goals first | omega | exact kk _ σ2 bw L2
end LC2

/-! 31.begins: what begins a quarter, by the check -/
section BGN
variable {G : Gl} {w : Wd} {k : Nat} {σ : Mem} {Q : Option AV → Mem → Prop} {P : Pt} {U : RU} {r : Int}
set_option maxRecDepth 100000 in
set_option maxHeartbeats 1000000 in
theorem kx_b1 (W : WF P) (hk : 8 ≤ k) (q : ∀ (σ' : Mem) (l3 : Option AV), MR σ' (iter cuP (P 2 0).toNat P) → same SX σ σ' → TT G w w w k (0, 0) 187 67 [some (vr 21 0 0), some (vi r), some (vi 0), l3, none] [] σ' Q) :
    ∀ (m : Nat) (i : Int) (σ' : Mem) (l3 : Option AV), 0 ≤ i → i ≤ P 2 0 → P 2 0 < i + m → MR σ' (iter cuP i.toNat P) → same SX σ σ' → TT G w w w k (0, 0) 187 2 [some (vr 21 0 0), some (vi r), some (vi i), l3, none] [] σ' Q
  | 0, i, σ', l3, h0, h1, h2, _, _ => by omega
  | m + 1, i, σ', l3, h0, h1, h2, M, hs => by
    have ih := kx_b1 W hk q m (i + 1)
    rw [iter_toNat _ h0] at ih
    have w1 := W.sc.1
    have kk : K8 P (iter cuP i.toNat P) := iter_inv (I := fun _ P' => K8 P P') (K8.refl W) (fun j b hj hb => cuP_k hb (by omega))
    have e1 := kk.2 2 0 (by decide)
    have hcu : cuP i.toNat (iter cuP i.toNat P) = pu (iter cuP i.toNat P) 8 (6 * i + 0).toNat (if (iter cuP i.toNat P) 6 i.toNat = 1 ∧ (iter cuP i.toNat P) 8 (6 * i + 0).toNat < 9999 then 9999 else (iter cuP i.toNat P) 8 (6 * i + 0).toNat) := by
      unfold cuP; rw [show ((i.toNat : Nat) : Int) = i by omega]
    rw [hcu] at ih
    have hM : ∀ f i', 2 ≤ f → f ≤ 38 → σ' 21 f 0 i' = iter cuP i.toNat P f i' := M
    refine TT_vb ok187 (sm3_ok G w) 60 [2, 67] ?_
    simp -implicitDefEqProofs only [↓b187_0, ↓b187_2, ↓b187_12, ↓b187_34, ↓b187_46, ↓b187_52, ↓b187_58, ↓b187_65, ↓b187_67, ↓b187_77, ↓b187_122, ↓b187_137, ↓b187_178, ↓b187_184, ↓b187_198, ↓b187_199, ↓b187_205, ↓b187_207, ↓b187_217, ↓b187_235, ↓b187_243, ↓b187_245, ↓b187_255, ↓b187_268, b187_0, b187_2, b187_12, b187_34, b187_46, b187_52, b187_58, b187_65, b187_67, b187_77, b187_122, b187_137, b187_178, b187_184, b187_198, b187_199, b187_205, b187_207, b187_217, b187_235, b187_243, b187_245, b187_255, b187_268, nLE3, layE8, hM, e1, n3_186, I32, ↓xb, xb, ps, lpad, lat, aok2, rd2, aaok, aav, alok, alen, aok, akk, csum, isLg, cmpI, clsE, Option.elim, eq_self, List.mem_cons, List.not_mem_nil, or_false, false_or, List.append_nil, List.nil_append, List.cons_append, List.append_eq, List.replicate, List.length_cons, List.length_nil, List.map_cons, List.map_nil, ↓reduceIte, reduceCtorEq, if_true, if_false, true_and, and_true, false_and, and_false, and_self, not_true_eq_false, not_false_eq_true, forall_const, true_implies, false_implies, implies_true, Nat.reduceAdd, Nat.reduceSub, Nat.reduceLT, Nat.reduceLeDiff, Nat.reduceEqDiff, Nat.reduceMul, Nat.reducePow, Nat.add_one_ne_zero, Nat.add_one_sub_one, Nat.add_zero, Nat.zero_add, Int.reduceLT, Int.reduceLE, Int.reduceNeg, Int.reduceAdd, Int.reduceSub, Int.reduceToNat, Int.reduceEq, Int.reduceMul, Int.reducePow, Int.cast_ofNat_Int, Int.toNat_natCast, ne_eq, Bool.false_eq_true, true_or, or_true, or_self, Nat.not_lt_zero, ite_e0, ite_e1, lc_lt, lc_ge, lc_gt, lc_le, lc_eq, Classical.not_not]
    with_reducible repeat' (first | (refine And.intro ?_ ?_) | intro _)
    all_goals try omega
    · have ei : i = P 2 0 := by omega
      rw [ei] at M
      exact q σ' _ M hs
    · rw [if_neg (by omega)] at ih
      exact ih _ _ (by omega) (by omega) (by omega) M.put (hs.put rfl)
    · rw [if_neg (by omega)] at ih
      exact ih _ _ (by omega) (by omega) (by omega) M.put (hs.put rfl)
    · rw [if_pos (by omega)] at ih
      exact ih _ _ (by omega) (by omega) (by omega) M.put (hs.put rfl)
set_option maxRecDepth 100000 in
set_option maxHeartbeats 1000000 in
theorem kx_b2 (W : WF P) (hk : 8 ≤ k) (q : ∀ (σ' : Mem) (l3 l4 : Option AV), MR σ' (iter mkP (P 2 2).toNat P) → same SX σ σ' → TT G w w w k (0, 0) 187 207 [some (vr 21 0 0), some (vi r), some (vi 0), l3, l4] [] σ' Q) :
    ∀ (m : Nat) (i : Int) (σ' : Mem) (l3 l4 : Option AV), 0 ≤ i → i ≤ P 2 2 → P 2 2 < i + m → MR σ' (iter mkP i.toNat P) → same SX σ σ' → TT G w w w k (0, 0) 187 67 [some (vr 21 0 0), some (vi r), some (vi i), l3, l4] [] σ' Q
  | 0, i, σ', l3, l4, h0, h1, h2, _, _ => by omega
  | m + 1, i, σ', l3, l4, h0, h1, h2, M, hs => by
    have ih := kx_b2 W hk q m (i + 1)
    rw [iter_toNat _ h0] at ih
    have wm := W.sc.2.2.1
    have kk : K8 P (iter mkP i.toNat P) := iter_inv (I := fun _ P' => K8 P P') (K8.refl W) (fun j b hj hb => mkP_k hb (by omega))
    have e0 := kk.2 2 2 (by decide)
    by_cases hi : i < P 2 2
    · revert ih M kk e0
      generalize iter mkP i.toNat P = P1
      intro M ih kk e0
      have hM : ∀ f i', 2 ≤ f → f ≤ 38 → σ' 21 f 0 i' = P1 f i' := M
      obtain ⟨d1, d2, d3, d4, d5, d6, d7, d8⟩ := kk.1.mk (n := i.toNat) (by omega)
      have w1 := kk.1.sc.1
      have b1 := kk.1.st (n := (6 * P1 16 i.toNat + P1 17 i.toNat).toNat) (by omega)
      have b2 := kk.1.st (n := (6 * P1 16 i.toNat + P1 19 i.toNat).toNat) (by omega)
      have ne : ¬ (6 * P1 16 i.toNat + P1 19 i.toNat).toNat = (6 * P1 16 i.toNat + P1 17 i.toNat).toNat := by omega
      have hmp : (P1 22 i.toNat = 1 ∧ P1 18 i.toNat ≤ P1 8 (6 * P1 16 i.toNat + P1 17 i.toNat).toNat) → mkP i.toNat P1 = pu (pu P1 8 (6 * P1 16 i.toNat + P1 17 i.toNat).toNat (P1 8 (6 * P1 16 i.toNat + P1 17 i.toNat).toNat - P1 18 i.toNat)) 8 (6 * P1 16 i.toNat + P1 19 i.toNat).toNat (min 99999 (P1 8 (6 * P1 16 i.toNat + P1 19 i.toNat).toNat + P1 20 i.toNat)) := fun z => if_pos z
      have hmn : ¬ (P1 22 i.toNat = 1 ∧ P1 18 i.toNat ≤ P1 8 (6 * P1 16 i.toNat + P1 17 i.toNat).toNat) → mkP i.toNat P1 = P1 := fun z => if_neg z
      refine TT_vb ok187 (sm3_ok G w) 60 [67, 207] ?_
      simp -implicitDefEqProofs only [↓b187_0, ↓b187_2, ↓b187_12, ↓b187_34, ↓b187_46, ↓b187_52, ↓b187_58, ↓b187_65, ↓b187_67, ↓b187_77, ↓b187_122, ↓b187_137, ↓b187_178, ↓b187_184, ↓b187_198, ↓b187_199, ↓b187_205, ↓b187_207, ↓b187_217, ↓b187_235, ↓b187_243, ↓b187_245, ↓b187_255, ↓b187_268, b187_0, b187_2, b187_12, b187_34, b187_46, b187_52, b187_58, b187_65, b187_67, b187_77, b187_122, b187_137, b187_178, b187_184, b187_198, b187_199, b187_205, b187_207, b187_217, b187_235, b187_243, b187_245, b187_255, b187_268, nLE3, layE8, hM, e0, up_rd, ne, n3_186, I32, ↓xb, xb, ps, lpad, lat, aok2, rd2, aaok, aav, alok, alen, aok, akk, csum, isLg, cmpI, clsE, Option.elim, eq_self, List.mem_cons, List.not_mem_nil, or_false, false_or, List.append_nil, List.nil_append, List.cons_append, List.append_eq, List.replicate, List.length_cons, List.length_nil, List.map_cons, List.map_nil, ↓reduceIte, reduceCtorEq, if_true, if_false, true_and, and_true, false_and, and_false, and_self, not_true_eq_false, not_false_eq_true, forall_const, true_implies, false_implies, implies_true, Nat.reduceAdd, Nat.reduceSub, Nat.reduceLT, Nat.reduceLeDiff, Nat.reduceEqDiff, Nat.reduceMul, Nat.reducePow, Nat.add_one_ne_zero, Nat.add_one_sub_one, Nat.add_zero, Nat.zero_add, Int.reduceLT, Int.reduceLE, Int.reduceNeg, Int.reduceAdd, Int.reduceSub, Int.reduceToNat, Int.reduceEq, Int.reduceMul, Int.reducePow, Int.cast_ofNat_Int, Int.toNat_natCast, ne_eq, Bool.false_eq_true, true_or, or_true, or_self, Nat.not_lt_zero, ite_e0, ite_e1, lc_lt, lc_ge, lc_gt, lc_le, lc_eq, Classical.not_not]
      with_reducible repeat' (first | (refine And.intro ?_ ?_) | intro _)
      all_goals try omega
      · rw [hmn (by omega)] at ih
        exact ih _ _ _ (by omega) (by omega) (by omega) M hs
      · rw [hmn (by omega)] at ih
        exact ih _ _ _ (by omega) (by omega) (by omega) M hs
      · rw [hmp (by omega), show min 99999 (P1 8 (6 * P1 16 i.toNat + P1 19 i.toNat).toNat + P1 20 i.toNat) = P1 8 (6 * P1 16 i.toNat + P1 19 i.toNat).toNat + P1 20 i.toNat by omega] at ih
        exact ih _ _ _ (by omega) (by omega) (by omega) M.put.put ((hs.put rfl).put rfl)
      · rw [hmp (by omega), show min 99999 (P1 8 (6 * P1 16 i.toNat + P1 19 i.toNat).toNat + P1 20 i.toNat) = 99999 by omega] at ih
        exact ih _ _ _ (by omega) (by omega) (by omega) M.put.put ((hs.put rfl).put rfl)
    · have hM : ∀ f i', 2 ≤ f → f ≤ 38 → σ' 21 f 0 i' = iter mkP i.toNat P f i' := M
      refine TT_vb ok187 (sm3_ok G w) 60 [67, 207] ?_
      simp -implicitDefEqProofs only [↓b187_0, ↓b187_2, ↓b187_12, ↓b187_34, ↓b187_46, ↓b187_52, ↓b187_58, ↓b187_65, ↓b187_67, ↓b187_77, ↓b187_122, ↓b187_137, ↓b187_178, ↓b187_184, ↓b187_198, ↓b187_199, ↓b187_205, ↓b187_207, ↓b187_217, ↓b187_235, ↓b187_243, ↓b187_245, ↓b187_255, ↓b187_268, b187_0, b187_2, b187_12, b187_34, b187_46, b187_52, b187_58, b187_65, b187_67, b187_77, b187_122, b187_137, b187_178, b187_184, b187_198, b187_199, b187_205, b187_207, b187_217, b187_235, b187_243, b187_245, b187_255, b187_268, nLE3, layE8, hM, e0, n3_186, I32, ↓xb, xb, ps, lpad, lat, aok2, rd2, aaok, aav, alok, alen, aok, akk, csum, isLg, cmpI, clsE, Option.elim, eq_self, List.mem_cons, List.not_mem_nil, or_false, false_or, List.append_nil, List.nil_append, List.cons_append, List.append_eq, List.replicate, List.length_cons, List.length_nil, List.map_cons, List.map_nil, ↓reduceIte, reduceCtorEq, if_true, if_false, true_and, and_true, false_and, and_false, and_self, not_true_eq_false, not_false_eq_true, forall_const, true_implies, false_implies, implies_true, Nat.reduceAdd, Nat.reduceSub, Nat.reduceLT, Nat.reduceLeDiff, Nat.reduceEqDiff, Nat.reduceMul, Nat.reducePow, Nat.add_one_ne_zero, Nat.add_one_sub_one, Nat.add_zero, Nat.zero_add, Int.reduceLT, Int.reduceLE, Int.reduceNeg, Int.reduceAdd, Int.reduceSub, Int.reduceToNat, Int.reduceEq, Int.reduceMul, Int.reducePow, Int.cast_ofNat_Int, Int.toNat_natCast, ne_eq, Bool.false_eq_true, true_or, or_true, or_self, Nat.not_lt_zero, ite_e0, ite_e1, lc_lt, lc_ge, lc_gt, lc_le, lc_eq, Classical.not_not]
      with_reducible repeat' (first | (refine And.intro ?_ ?_) | intro _)
      all_goals try omega
      have ei : i = P 2 2 := by omega
      rw [ei] at M
      exact q σ' _ _ M hs
set_option maxRecDepth 100000 in
set_option maxHeartbeats 1000000 in
theorem kx_b3 (W : WF P) (hk : 16 ≤ k) (hn6 : P 2 6 ≤ 99999) (q : ∀ (σ' : Mem) (l3 l4 : Option AV), MR σ' (iter (fun h P => spP U P h) (P 2 0).toNat P) → same SX σ σ' → TT G w w w k (0, 0) 187 245 [some (vr 21 0 0), some (vi r), some (vi 0), l3, l4] [] σ' Q) :
    ∀ (m : Nat) (i : Int) (σ' : Mem) (l3 l4 : Option AV), 0 ≤ i → i ≤ P 2 0 → P 2 0 < i + m → RuX G w 6 r U σ' → MR σ' (iter (fun h P => spP U P h) i.toNat P) → same SX σ σ' → TT G w w w k (0, 0) 187 207 [some (vr 21 0 0), some (vi r), some (vi i), l3, l4] [] σ' Q
  | 0, i, σ', l3, l4, h0, h1, h2, _, _, _ => by omega
  | m + 1, i, σ', l3, l4, h0, h1, h2, hX, M, hs => by
    have ih := kx_b3 W hk hn6 q m (i + 1)
    rw [iter_toNat _ h0] at ih
    have w1 := W.sc.1
    have kk : K8 P (iter (fun h P => spP U P h) i.toNat P) := iter_inv (I := fun _ P' => K8 P P') (K8.refl W) (fun j b hj hb => spP_k hb (by omega))
    have e1 := kk.2 2 0 (by decide)
    have e6 := kk.2 2 6 (by decide)
    have ei0 : ((i.toNat : Nat) : Int) = i := by omega
    have ih2 : ∀ σ2 l3 l4, RuX G w 6 r U σ2 → MR σ2 (spP U (iter (fun h P => spP U P h) i.toNat P) i) → same SX σ σ2 → (i < P 2 0) → TT G w w w k (0, 0) 187 207 [some (vr 21 0 0), some (vi r), some (vi (i + 1)), l3, l4] [] σ2 Q := fun σ2 l3 l4 a b c d => ih σ2 l3 l4 (by omega) (by omega) (by omega) a (by
      show MR σ2 (spP U _ ((i.toNat : Nat) : Int))
      rw [ei0]; exact b) c
    have hM : ∀ f i', 2 ≤ f → f ≤ 38 → σ' 21 f 0 i' = iter (fun h P => spP U P h) i.toNat P f i' := M
    by_cases hi : i < P 2 0
    · have sb := kk.1.st (n := (6 * i + 1).toNat) (by omega)
      have sv : 0 ≤ spV U (iter (fun h P => spP U P h) i.toNat P) i ∧ spV U (iter (fun h P => spP U P h) i.toNat P) i ≤ (iter (fun h P => spP U P h) i.toNat P) 8 (6 * i + 1).toNat := by unfold spV; omega
      refine TT_vb ok187 (sm3_ok G w) 60 [207, 245] ?_
      simp -implicitDefEqProofs only [↓b187_0, ↓b187_2, ↓b187_12, ↓b187_34, ↓b187_46, ↓b187_52, ↓b187_58, ↓b187_65, ↓b187_67, ↓b187_77, ↓b187_122, ↓b187_137, ↓b187_178, ↓b187_184, ↓b187_198, ↓b187_199, ↓b187_205, ↓b187_207, ↓b187_217, ↓b187_235, ↓b187_243, ↓b187_245, ↓b187_255, ↓b187_268, b187_0, b187_2, b187_12, b187_34, b187_46, b187_52, b187_58, b187_65, b187_67, b187_77, b187_122, b187_137, b187_178, b187_184, b187_198, b187_199, b187_205, b187_207, b187_217, b187_235, b187_243, b187_245, b187_255, b187_268, nLE3, layE8, hM, e1, n3_186, I32, ↓xb, xb, ps, lpad, lat, aok2, rd2, aaok, aav, alok, alen, aok, akk, csum, isLg, cmpI, clsE, Option.elim, eq_self, List.mem_cons, List.not_mem_nil, or_false, false_or, List.append_nil, List.nil_append, List.cons_append, List.append_eq, List.replicate, List.length_cons, List.length_nil, List.map_cons, List.map_nil, ↓reduceIte, reduceCtorEq, if_true, if_false, true_and, and_true, false_and, and_false, and_self, not_true_eq_false, not_false_eq_true, forall_const, true_implies, false_implies, implies_true, Nat.reduceAdd, Nat.reduceSub, Nat.reduceLT, Nat.reduceLeDiff, Nat.reduceEqDiff, Nat.reduceMul, Nat.reducePow, Nat.add_one_ne_zero, Nat.add_one_sub_one, Nat.add_zero, Nat.zero_add, Int.reduceLT, Int.reduceLE, Int.reduceNeg, Int.reduceAdd, Int.reduceSub, Int.reduceToNat, Int.reduceEq, Int.reduceMul, Int.reducePow, Int.cast_ofNat_Int, Int.toNat_natCast, ne_eq, Bool.false_eq_true, true_or, or_true, or_self, Nat.not_lt_zero, ite_e0, ite_e1, lc_lt, lc_ge, lc_gt, lc_le, lc_eq, Classical.not_not]
      with_reducible repeat' (first | (refine And.intro ?_ ?_) | intro _)
      all_goals try omega
      refine kx_spoils M kk.1 hX (by omega) (by omega) (h := i) (by omega) (fun σ2 M2 hs2 => ?_)
      simp -implicitDefEqProofs only [↓b187_0, ↓b187_2, ↓b187_12, ↓b187_34, ↓b187_46, ↓b187_52, ↓b187_58, ↓b187_65, ↓b187_67, ↓b187_77, ↓b187_122, ↓b187_137, ↓b187_178, ↓b187_184, ↓b187_198, ↓b187_199, ↓b187_205, ↓b187_207, ↓b187_217, ↓b187_235, ↓b187_243, ↓b187_245, ↓b187_255, ↓b187_268, b187_0, b187_2, b187_12, b187_34, b187_46, b187_52, b187_58, b187_65, b187_67, b187_77, b187_122, b187_137, b187_178, b187_184, b187_198, b187_199, b187_205, b187_207, b187_217, b187_235, b187_243, b187_245, b187_255, b187_268, nLE3, layE8, hM, n3_186, I32, ↓xb, xb, ps, lpad, lat, aok2, rd2, aaok, aav, alok, alen, aok, akk, csum, isLg, cmpI, clsE, Option.elim, eq_self, List.mem_cons, List.not_mem_nil, or_false, false_or, List.append_nil, List.nil_append, List.cons_append, List.append_eq, List.replicate, List.length_cons, List.length_nil, List.map_cons, List.map_nil, ↓reduceIte, reduceCtorEq, if_true, if_false, true_and, and_true, false_and, and_false, and_self, not_true_eq_false, not_false_eq_true, forall_const, true_implies, false_implies, implies_true, Nat.reduceAdd, Nat.reduceSub, Nat.reduceLT, Nat.reduceLeDiff, Nat.reduceEqDiff, Nat.reduceMul, Nat.reducePow, Nat.add_one_ne_zero, Nat.add_one_sub_one, Nat.add_zero, Nat.zero_add, Int.reduceLT, Int.reduceLE, Int.reduceNeg, Int.reduceAdd, Int.reduceSub, Int.reduceToNat, Int.reduceEq, Int.reduceMul, Int.reducePow, Int.cast_ofNat_Int, Int.toNat_natCast, ne_eq, Bool.false_eq_true, true_or, or_true, or_self, Nat.not_lt_zero, ite_e0, ite_e1, lc_lt, lc_ge, lc_gt, lc_le, lc_eq, Classical.not_not]
      with_reducible repeat' (first | (refine And.intro ?_ ?_) | intro _)
      all_goals try omega
      exact ih2 _ _ _ ((hX.sx hs2).keep (fun f a b r c => upp_nf (by omega))) M2.put ((hs.trans hs2).put rfl) hi
    · refine TT_vb ok187 (sm3_ok G w) 60 [207, 245] ?_
      simp -implicitDefEqProofs only [↓b187_0, ↓b187_2, ↓b187_12, ↓b187_34, ↓b187_46, ↓b187_52, ↓b187_58, ↓b187_65, ↓b187_67, ↓b187_77, ↓b187_122, ↓b187_137, ↓b187_178, ↓b187_184, ↓b187_198, ↓b187_199, ↓b187_205, ↓b187_207, ↓b187_217, ↓b187_235, ↓b187_243, ↓b187_245, ↓b187_255, ↓b187_268, b187_0, b187_2, b187_12, b187_34, b187_46, b187_52, b187_58, b187_65, b187_67, b187_77, b187_122, b187_137, b187_178, b187_184, b187_198, b187_199, b187_205, b187_207, b187_217, b187_235, b187_243, b187_245, b187_255, b187_268, nLE3, layE8, hM, e1, n3_186, I32, ↓xb, xb, ps, lpad, lat, aok2, rd2, aaok, aav, alok, alen, aok, akk, csum, isLg, cmpI, clsE, Option.elim, eq_self, List.mem_cons, List.not_mem_nil, or_false, false_or, List.append_nil, List.nil_append, List.cons_append, List.append_eq, List.replicate, List.length_cons, List.length_nil, List.map_cons, List.map_nil, ↓reduceIte, reduceCtorEq, if_true, if_false, true_and, and_true, false_and, and_false, and_self, not_true_eq_false, not_false_eq_true, forall_const, true_implies, false_implies, implies_true, Nat.reduceAdd, Nat.reduceSub, Nat.reduceLT, Nat.reduceLeDiff, Nat.reduceEqDiff, Nat.reduceMul, Nat.reducePow, Nat.add_one_ne_zero, Nat.add_one_sub_one, Nat.add_zero, Nat.zero_add, Int.reduceLT, Int.reduceLE, Int.reduceNeg, Int.reduceAdd, Int.reduceSub, Int.reduceToNat, Int.reduceEq, Int.reduceMul, Int.reducePow, Int.cast_ofNat_Int, Int.toNat_natCast, ne_eq, Bool.false_eq_true, true_or, or_true, or_self, Nat.not_lt_zero, ite_e0, ite_e1, lc_lt, lc_ge, lc_gt, lc_le, lc_eq, Classical.not_not]
      with_reducible repeat' (first | (refine And.intro ?_ ?_) | intro _)
      all_goals try omega
      have ei : i = P 2 0 := by omega
      rw [ei] at M
      exact q σ' _ _ M hs
set_option maxRecDepth 100000 in
set_option maxHeartbeats 1000000 in
theorem kx_b4 (W : WF P) (hk : 8 ≤ k) (q : ∀ (σ' : Mem), MR σ' (iter caP (P 2 3).toNat P) → same SX σ σ' → Q none σ') :
    ∀ (m : Nat) (i : Int) (σ' : Mem) (l3 l4 : Option AV), 0 ≤ i → i ≤ P 2 3 → P 2 3 < i + m → MR σ' (iter caP i.toNat P) → same SX σ σ' → TT G w w w k (0, 0) 187 245 [some (vr 21 0 0), some (vi r), some (vi i), l3, l4] [] σ' Q
  | 0, i, σ', l3, l4, h0, h1, h2, _, _ => by omega
  | m + 1, i, σ', l3, l4, h0, h1, h2, M, hs => by
    have ih := kx_b4 W hk q m (i + 1)
    rw [iter_toNat _ h0] at ih
    have w1 := W.sc.2.2.2.1
    have kk : KQ P (iter caP i.toNat P) := iter_inv (I := fun _ P' => KQ P P') (KQ.refl W) (fun j b hj hb => ca_k hb (by omega))
    have e1 := kk.2 2 3 (by decide) (by decide) (by decide) (by decide)
    have hM : ∀ f i', 2 ≤ f → f ≤ 38 → σ' 21 f 0 i' = iter caP i.toNat P f i' := M
    refine TT_vb ok187 (sm3_ok G w) 60 [245] ?_
    simp -implicitDefEqProofs only [↓b187_0, ↓b187_2, ↓b187_12, ↓b187_34, ↓b187_46, ↓b187_52, ↓b187_58, ↓b187_65, ↓b187_67, ↓b187_77, ↓b187_122, ↓b187_137, ↓b187_178, ↓b187_184, ↓b187_198, ↓b187_199, ↓b187_205, ↓b187_207, ↓b187_217, ↓b187_235, ↓b187_243, ↓b187_245, ↓b187_255, ↓b187_268, b187_0, b187_2, b187_12, b187_34, b187_46, b187_52, b187_58, b187_65, b187_67, b187_77, b187_122, b187_137, b187_178, b187_184, b187_198, b187_199, b187_205, b187_207, b187_217, b187_235, b187_243, b187_245, b187_255, b187_268, nLE3, layE8, hM, e1, n3_186, I32, ↓xb, xb, ps, lpad, lat, aok2, rd2, aaok, aav, alok, alen, aok, akk, csum, isLg, cmpI, clsE, Option.elim, eq_self, List.mem_cons, List.not_mem_nil, or_false, false_or, List.append_nil, List.nil_append, List.cons_append, List.append_eq, List.replicate, List.length_cons, List.length_nil, List.map_cons, List.map_nil, ↓reduceIte, reduceCtorEq, if_true, if_false, true_and, and_true, false_and, and_false, and_self, not_true_eq_false, not_false_eq_true, forall_const, true_implies, false_implies, implies_true, Nat.reduceAdd, Nat.reduceSub, Nat.reduceLT, Nat.reduceLeDiff, Nat.reduceEqDiff, Nat.reduceMul, Nat.reducePow, Nat.add_one_ne_zero, Nat.add_one_sub_one, Nat.add_zero, Nat.zero_add, Int.reduceLT, Int.reduceLE, Int.reduceNeg, Int.reduceAdd, Int.reduceSub, Int.reduceToNat, Int.reduceEq, Int.reduceMul, Int.reducePow, Int.cast_ofNat_Int, Int.toNat_natCast, ne_eq, Bool.false_eq_true, true_or, or_true, or_self, Nat.not_lt_zero, ite_e0, ite_e1, lc_lt, lc_ge, lc_gt, lc_le, lc_eq, Classical.not_not]
    with_reducible repeat' (first | (refine And.intro ?_ ?_) | intro _)
    all_goals try omega
    · have ei : i = P 2 3 := by omega
      rw [ei] at M
      exact q σ' M hs
    · exact ih _ _ _ (by omega) (by omega) (by omega) M.put (hs.put rfl)
set_option maxRecDepth 100000 in
set_option maxHeartbeats 1000000 in
theorem kx_begins (M : MR σ P) (W : WF P) (hX : RuX G w 6 r U σ) (hk : 18 ≤ k) (hn6 : P 2 6 ≤ 99999) (q : ∀ σ', MR σ' (q4P U P) → same SX σ σ' → Q none σ') : CC G w w k (0, 0) 187 [vr 21 0 0, vi r] σ Q := by
  have w1 := W.sc.1; have w3 := W.sc.2.2.1; have w4 := W.sc.2.2.2.1
  have k1 : K8 P (iter cuP (P 2 0).toNat P) := iter_inv (I := fun _ P' => K8 P P') (K8.refl W) (fun i b hi hb => cuP_k hb (by omega))
  have k2 : K8 P (iter mkP (P 2 2).toNat (iter cuP (P 2 0).toNat P)) := iter_inv (I := fun _ P' => K8 P P') k1 (fun i b hi hb => mkP_k hb (by omega))
  have k3 := q3_k (U := U) W
  have g12 := k1.2 2 2 (by decide)
  have g20 := k2.2 2 0 (by decide)
  have g26 := k2.2 2 6 (by decide)
  have g33 := k3.2 2 3 (by decide)
  refine CC_vb ok187 (by decide) (sm3_ok G w) 60 [2] (Nat.le_of_ble_eq_true rfl) ?_
  simp -implicitDefEqProofs only [↓b187_0, ↓b187_2, ↓b187_12, ↓b187_34, ↓b187_46, ↓b187_52, ↓b187_58, ↓b187_65, ↓b187_67, ↓b187_77, ↓b187_122, ↓b187_137, ↓b187_178, ↓b187_184, ↓b187_198, ↓b187_199, ↓b187_205, ↓b187_207, ↓b187_217, ↓b187_235, ↓b187_243, ↓b187_245, ↓b187_255, ↓b187_268, b187_0, b187_2, b187_12, b187_34, b187_46, b187_52, b187_58, b187_65, b187_67, b187_77, b187_122, b187_137, b187_178, b187_184, b187_198, b187_199, b187_205, b187_207, b187_217, b187_235, b187_243, b187_245, b187_255, b187_268, nLE3, layE8, hk, n3_186, I32, ↓xb, xb, ps, lpad, lat, aok2, rd2, aaok, aav, alok, alen, aok, akk, csum, isLg, cmpI, clsE, Option.elim, eq_self, List.mem_cons, List.not_mem_nil, or_false, false_or, List.append_nil, List.nil_append, List.cons_append, List.append_eq, List.replicate, List.length_cons, List.length_nil, List.map_cons, List.map_nil, ↓reduceIte, reduceCtorEq, if_true, if_false, true_and, and_true, false_and, and_false, and_self, not_true_eq_false, not_false_eq_true, forall_const, true_implies, false_implies, implies_true, Nat.reduceAdd, Nat.reduceSub, Nat.reduceLT, Nat.reduceLeDiff, Nat.reduceEqDiff, Nat.reduceMul, Nat.reducePow, Nat.add_one_ne_zero, Nat.add_one_sub_one, Nat.add_zero, Nat.zero_add, Int.reduceLT, Int.reduceLE, Int.reduceNeg, Int.reduceAdd, Int.reduceSub, Int.reduceToNat, Int.reduceEq, Int.reduceMul, Int.reducePow, Int.cast_ofNat_Int, Int.toNat_natCast, ne_eq, Bool.false_eq_true, true_or, or_true, or_self, Nat.not_lt_zero, ite_e0, ite_e1, lc_lt, lc_ge, lc_gt, lc_le, lc_eq, Classical.not_not]
  with_reducible repeat' (first | (refine And.intro ?_ ?_) | intro _)
  all_goals try omega
  refine kx_b1 (σ := σ) W (by omega) (fun σ1 l3 M1 s1 => ?_) 13 0 σ _ (by omega) (by omega) (by omega) M same.refl
  refine kx_b2 (σ := σ) k1.1 (by omega) (fun σ2 l3 l4 M2 s2 => ?_) 13 0 σ1 _ _ (by omega) (by omega) (by omega) M1 s1
  rw [g12] at M2
  refine kx_b3 (U := U) (σ := σ) k2.1 (by omega) (by omega) (fun σ3 l3 l4 M3 s3 => ?_) 13 0 σ2 _ _ (by omega) (by omega) (by omega) (hX.sx s2) M2 s2
  rw [g20] at M3
  refine kx_b4 (σ := σ) (P := q3P U P) k3.1 (by omega) (fun σ4 M4 s4 => ?_) 21 0 σ3 _ _ (by omega) (by omega) (by omega) M3 s3
  rw [g33] at M4
  exact q σ4 M4 s4
end BGN

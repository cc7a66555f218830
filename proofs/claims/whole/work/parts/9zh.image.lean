/-! 9zh.image: image(): the class's method whole, its new image with it -/
section I125
variable {G : Gl} {w0 w : Wd} {k : Nat} {σ : Mem} {Q : Option AV → Mem → Prop} {P : Pt} {n : Nat}
theorem img_cls (hn : n ≤ 3) : cls (3 + n) = 4 := by unfold cls; rw [if_neg (by omega), if_pos (by omega)]
/-- what image() comes to, the town being laid into the image -/
def A125 (n : Nat) (P : Pt) (σ : Mem) (Q : Option AV → Mem → Prop) : Prop := ∀ σ', RT True σ' (3 + n) P → WRs σ' (3 + n) P → NRs σ' (3 + n) P → same (fun o _ => o == 3 + n) σ σ' → Q (some (vi (P 2 6))) σ'
set_option maxRecDepth 100000 in
set_option maxHeartbeats 1000000 in
set_option maxRecDepth 100000 in
set_option maxHeartbeats 1000000 in
theorem kc_125b (hww0 : ∀ o, born w0 o → born w o) (hn : n ≤ 3) (hw : w (3 + n) = true) (hk : 14 ≤ k) (T : TF σ P) (W : WF P) (q : A125 n P σ Q) {l1 : Option AV} :
    TT G w0 w w k (0, 0) 125 37 [some (vr 0 0 0), l1, some (vr (3 + n) 0 0)] [] σ Q := by
  have hc := img_cls hn
  have h22 : 3 + n < 22 := by omega
  have hwf : wfv w (vr (3 + n) 0 0) := wfv_o hw (by omega)
  refine TT_vb0 hww0 ok125 (sm3_ok G w) 60 [] ?_
  simp -implicitDefEqProofs only [↓b125_0, ↓b125_6, ↓b125_9, ↓b125_11, ↓b125_17, ↓b125_37, ↓b125_45, b125_0, b125_6, b125_9, b125_11, b125_17, b125_37, b125_45, nLE2, layE7, layE4, layE3, layE2, hwf, hc, h22, k3_76, r76, n3_42, n3_43, I32, ↓xb, xb, ps, lpad, lat, aok2, rd2, aaok, aav, alok, alen, aok, akk, csum, isLg, cmpI, clsE, Option.elim, eq_self, List.mem_cons, List.not_mem_nil, or_false, false_or, List.append_nil, List.nil_append, List.cons_append, List.append_eq, List.replicate, List.length_cons, List.length_nil, List.map_cons, List.map_nil, ↓reduceIte, reduceCtorEq, if_true, if_false, true_and, and_true, false_and, and_false, and_self, not_true_eq_false, not_false_eq_true, forall_const, true_implies, false_implies, implies_true, Nat.reduceAdd, Nat.reduceSub, Nat.reduceLT, Nat.reduceLeDiff, Nat.reduceEqDiff, Nat.reduceMul, Nat.reducePow, Nat.add_one_ne_zero, Nat.add_one_sub_one, Nat.add_zero, Nat.zero_add, Int.reduceLT, Int.reduceLE, Int.reduceNeg, Int.reduceAdd, Int.reduceSub, Int.reduceToNat, Int.reduceEq, Int.reduceMul, Int.reducePow, Int.cast_ofNat_Int, Int.toNat_natCast, ne_eq, Bool.false_eq_true, true_or, or_true, or_self, Nat.not_lt_zero, ite_e0, ite_e1, lc_lt, lc_ge, lc_gt, lc_le, lc_eq, Classical.not_not]
  with_reducible repeat' (first | (refine And.intro ?_ ?_) | intro _)
  all_goals try omega
  all_goals first | omega | assumption | skip
  refine kc_copy (by omega) (a := 1) (b := 3 + n) (by omega) (by decide) (by decide) hc h22 (fun σ1 h => ?_)
  have e0 := T.1.now
  have e7 : σ1 1 1 0 0 = P 2 6 := (h.2 1 1 (by show (1 == 3 + n && decide (1 ≤ 20)) = false; rw [show (1 == 3 + n) = false by simp; omega]; rfl) 0 0).trans e0
  have r := q σ1 (T.1.copied h) (T.2.1.copied h) (T.2.2.copied W h) (h.2.mono (fun o f z => by
    have z' : (o == 3 + n && decide (f ≤ 20)) = true := z
    rw [Bool.and_eq_true] at z'
    exact z'.1))
  simp -implicitDefEqProofs only [↓b125_0, ↓b125_6, ↓b125_9, ↓b125_11, ↓b125_17, ↓b125_37, ↓b125_45, b125_0, b125_6, b125_9, b125_11, b125_17, b125_37, b125_45, nLE2, layE7, layE4, layE3, layE2, e7, k3_76, r76, n3_42, n3_43, I32, ↓xb, xb, ps, lpad, lat, aok2, rd2, aaok, aav, alok, alen, aok, akk, csum, isLg, cmpI, clsE, Option.elim, eq_self, List.mem_cons, List.not_mem_nil, or_false, false_or, List.append_nil, List.nil_append, List.cons_append, List.append_eq, List.replicate, List.length_cons, List.length_nil, List.map_cons, List.map_nil, ↓reduceIte, reduceCtorEq, if_true, if_false, true_and, and_true, false_and, and_false, and_self, not_true_eq_false, not_false_eq_true, forall_const, true_implies, false_implies, implies_true, Nat.reduceAdd, Nat.reduceSub, Nat.reduceLT, Nat.reduceLeDiff, Nat.reduceEqDiff, Nat.reduceMul, Nat.reducePow, Nat.add_one_ne_zero, Nat.add_one_sub_one, Nat.add_zero, Nat.zero_add, Int.reduceLT, Int.reduceLE, Int.reduceNeg, Int.reduceAdd, Int.reduceSub, Int.reduceToNat, Int.reduceEq, Int.reduceMul, Int.reducePow, Int.cast_ofNat_Int, Int.toNat_natCast, ne_eq, Bool.false_eq_true, true_or, or_true, or_self, Nat.not_lt_zero, ite_e0, ite_e1, lc_lt, lc_ge, lc_gt, lc_le, lc_eq, Classical.not_not]
  with_reducible repeat' (first | (refine And.intro ?_ ?_) | intro _)
  all_goals try omega
  all_goals exact r
set_option maxRecDepth 100000 in
set_option maxHeartbeats 1000000 in
set_option maxRecDepth 100000 in
set_option maxHeartbeats 1000000 in
theorem kc_125f (hk : 14 ≤ k) {i : Int} (hi : ¬ (0 ≤ i ∧ i ≤ 3)) (q : Q (some (vi (-1))) σ) : CC G w w k (0, 0) 125 [vr 0 0 0, vi i] σ Q := by
  refine CC_vb ok125 (by decide) (sm3_ok G w) 60 [11] (Nat.le_of_ble_eq_true rfl) ?_
  simp -implicitDefEqProofs only [↓b125_0, ↓b125_6, ↓b125_9, ↓b125_11, ↓b125_17, ↓b125_37, ↓b125_45, b125_0, b125_6, b125_9, b125_11, b125_17, b125_37, b125_45, nLE2, layE7, layE4, layE3, layE2, hk, k3_76, r76, n3_42, n3_43, I32, ↓xb, xb, ps, lpad, lat, aok2, rd2, aaok, aav, alok, alen, aok, akk, csum, isLg, cmpI, clsE, Option.elim, eq_self, List.mem_cons, List.not_mem_nil, or_false, false_or, List.append_nil, List.nil_append, List.cons_append, List.append_eq, List.replicate, List.length_cons, List.length_nil, List.map_cons, List.map_nil, ↓reduceIte, reduceCtorEq, if_true, if_false, true_and, and_true, false_and, and_false, and_self, not_true_eq_false, not_false_eq_true, forall_const, true_implies, false_implies, implies_true, Nat.reduceAdd, Nat.reduceSub, Nat.reduceLT, Nat.reduceLeDiff, Nat.reduceEqDiff, Nat.reduceMul, Nat.reducePow, Nat.add_one_ne_zero, Nat.add_one_sub_one, Nat.add_zero, Nat.zero_add, Int.reduceLT, Int.reduceLE, Int.reduceNeg, Int.reduceAdd, Int.reduceSub, Int.reduceToNat, Int.reduceEq, Int.reduceMul, Int.reducePow, Int.cast_ofNat_Int, Int.toNat_natCast, ne_eq, Bool.false_eq_true, true_or, or_true, or_self, Nat.not_lt_zero, ite_e0, ite_e1, lc_lt, lc_ge, lc_gt, lc_le, lc_eq, Classical.not_not]
  with_reducible repeat' (first | (refine And.intro ?_ ?_) | intro _)
  all_goals try omega
  all_goals first | omega | exact q
set_option maxRecDepth 100000 in
set_option maxHeartbeats 1000000 in
set_option maxRecDepth 100000 in
set_option maxHeartbeats 1000000 in
theorem kc_125o (hn : n ≤ 3) (hw : w (3 + n) = true) (hr : σ 0 3 0 n = enc (3 + n) 0 0) (hk : 14 ≤ k) (T : TF σ P) (W : WF P) (q : A125 n P σ Q) : CC G w w k (0, 0) 125 [vr 0 0 0, vi (n : Nat)] σ Q := by
  have de : dec (enc (3 + n) 0 0) = vr (3 + n) 0 0 := dec_enc (3 + n) 0 0 (by omega) (by omega)
  have hwf : wfv w (vr (3 + n) 0 0) := wfv_o hw (by omega)
  refine CC_vb ok125 (by decide) (sm3_ok G w) 60 [37] (Nat.le_of_ble_eq_true rfl) ?_
  simp -implicitDefEqProofs only [↓b125_0, ↓b125_6, ↓b125_9, ↓b125_11, ↓b125_17, ↓b125_37, ↓b125_45, b125_0, b125_6, b125_9, b125_11, b125_17, b125_37, b125_45, nLE2, layE7, layE4, layE3, layE2, hr, de, hwf, Int.toNat_natCast, k3_76, r76, n3_42, n3_43, I32, ↓xb, xb, ps, lpad, lat, aok2, rd2, aaok, aav, alok, alen, aok, akk, csum, isLg, cmpI, clsE, Option.elim, eq_self, List.mem_cons, List.not_mem_nil, or_false, false_or, List.append_nil, List.nil_append, List.cons_append, List.append_eq, List.replicate, List.length_cons, List.length_nil, List.map_cons, List.map_nil, ↓reduceIte, reduceCtorEq, if_true, if_false, true_and, and_true, false_and, and_false, and_self, not_true_eq_false, not_false_eq_true, forall_const, true_implies, false_implies, implies_true, Nat.reduceAdd, Nat.reduceSub, Nat.reduceLT, Nat.reduceLeDiff, Nat.reduceEqDiff, Nat.reduceMul, Nat.reducePow, Nat.add_one_ne_zero, Nat.add_one_sub_one, Nat.add_zero, Nat.zero_add, Int.reduceLT, Int.reduceLE, Int.reduceNeg, Int.reduceAdd, Int.reduceSub, Int.reduceToNat, Int.reduceEq, Int.reduceMul, Int.reducePow, Int.cast_ofNat_Int, Int.toNat_natCast, ne_eq, Bool.false_eq_true, true_or, or_true, or_self, Nat.not_lt_zero, ite_e0, ite_e1, lc_lt, lc_ge, lc_gt, lc_le, lc_eq, Classical.not_not]
  with_reducible repeat' (first | (refine And.intro ?_ ?_) | intro _)
  all_goals try omega
  all_goals first | omega | exact kc_125b (fun _ z => z) hn hw hk T W q | skip
end I125

/-! 78.put: a piece is put; what is wrong with a value; the fault (class) -/
/-- the reader stands before the token behind p, has counted c and put the pieces LL into the rule o -/
def RSt (σ : Mem) (t : Nat → Int) (N o p c : Nat) (LL : List (Nat × Int)) : Prop := TXt σ t N ∧ TKs σ t N (bls t N p) ∧ σ 7 7 0 0 = c ∧ dec (σ 7 9 0 0) = vr o 0 0 ∧ σ o 3 0 0 = LL.length ∧ (∀ i, i < LL.length → σ o 8 0 i = cP (LL.getD i (0, 0))) ∧ σ 7 8 0 0 = 0
abbrev SR (o : Nat) : Nat → Nat → Bool := fun a f => (a == 7 && (f == 3 || f == 4 || f == 5 || f == 6 || f == 7 || f == 8)) || (a == o && (f == 3 || f == 8))
section PUT
variable {G : Gl} {w : Wd} {k : Nat} {σ : Mem} {Q : Option AV → Mem → Prop} {t : Nat → Int} {N o : Nat}
theorem ro_cls (ho : 12 ≤ o ∧ o ≤ 20) : cls o = 3 := by
  have : o = 12 ∨ o = 13 ∨ o = 14 ∨ o = 15 ∨ o = 16 ∨ o = 17 ∨ o = 18 ∨ o = 19 ∨ o = 20 := by omega
  rcases this with rfl | rfl | rfl | rfl | rfl | rfl | rfl | rfl | rfl <;> rfl
set_option maxRecDepth 100000 in
set_option maxHeartbeats 1000000 in
theorem kc_pce (ho : 12 ≤ o ∧ o ≤ 20) (hk : 6 ≤ k) {n : Nat} (hn : n < 400) (e3 : σ o 3 0 0 = n) {x : Int} (q : ∀ σ', σ' o 3 0 0 = (n : Int) + 1 → σ' o 8 0 n = x → (∀ i, i ≠ n → σ' o 8 0 i = σ o 8 0 i) → (∀ a f, ¬ (a = o ∧ (f = 3 ∨ f = 8)) → ∀ r c, σ' a f r c = σ a f r c) → Q none σ') : CC G w w k (0, 0) 38 [vr o 0 0, vi x] σ Q := by
  have hc := ro_cls ho
  have h22 : o < 22 := by omega
  have u1 : up σ o 8 0 n x o 3 0 0 = n := (upp_nf (by decide)).trans e3
  have r := q (up (up σ o 8 0 n x) o 3 0 0 ((n : Int) + 1)) upp_eq ((upp_nf (by decide)).trans upp_eq) (fun i hi => (upp_nf (by decide)).trans (upp_nc hi)) (fun a f h r c => by
    unfold up
    rw [if_neg (fun z => h ⟨z.1, Or.inl z.2.1⟩), if_neg (fun z => h ⟨z.1, Or.inr z.2.1⟩)])
  refine CC_vb ok38 (by decide) (sm3_ok G w) 60 [] (Nat.le_of_ble_eq_true rfl) ?_
  simp -implicitDefEqProofs only [↓b38_0, ↓b38_12, ↓b38_32, b38_0, b38_12, b38_32, nLE0, layE3, hc, h22, e3, u1, I32, ↓xb, xb, ps, lpad, lat, aok2, rd2, aaok, aav, alok, alen, aok, akk, csum, isLg, cmpI, clsE, Option.elim, eq_self, List.mem_cons, List.not_mem_nil, or_false, false_or, List.append_nil, List.nil_append, List.cons_append, List.append_eq, List.replicate, List.length_cons, List.length_nil, List.map_cons, List.map_nil, ↓reduceIte, reduceCtorEq, if_true, if_false, true_and, and_true, false_and, and_false, and_self, not_true_eq_false, not_false_eq_true, forall_const, true_implies, false_implies, implies_true, Nat.reduceAdd, Nat.reduceSub, Nat.reduceLT, Nat.reduceLeDiff, Nat.reduceEqDiff, Nat.reduceMul, Nat.reducePow, Nat.add_one_ne_zero, Nat.add_one_sub_one, Nat.add_zero, Nat.zero_add, Int.reduceLT, Int.reduceLE, Int.reduceNeg, Int.reduceAdd, Int.reduceSub, Int.reduceToNat, Int.reduceEq, Int.reduceMul, Int.reducePow, Int.cast_ofNat_Int, Int.toNat_natCast, ne_eq, Bool.false_eq_true, true_or, or_true, or_self, Nat.not_lt_zero, ite_e0, ite_e1, lc_lt, lc_ge, lc_gt, lc_le, lc_eq, Classical.not_not]
  with_reducible repeat' (first | (refine And.intro ?_ ?_) | intro _)
  all_goals try omega
  all_goals first | omega | exact r
set_option maxRecDepth 100000 in
set_option maxHeartbeats 1000000 in
theorem kc_vfault {c : Nat} {a v : Int} (e4 : σ 7 4 0 0 = a) (e7 : σ 7 7 0 0 = c) (hk : 4 ≤ k) (e6 : a = 31 → σ 7 6 0 0 = v) (q : Q (some (vi (if a = 31 then (if v = -1 then 1 else if 60 ≤ c then 3 else -1) else if a < 15 then (if 60 ≤ c then 3 else -1) else 0))) σ) : CC G w w k (0, 0) 28 [vr 7 0 0] σ Q := by
  by_cases c1 : a = 31
  · have e6' := e6 c1
    subst c1
    by_cases c2 : v = -1
    · subst c2
      refine CC_vb ok28 (by decide) (sm3_ok G w) 60 [] (Nat.le_of_ble_eq_true rfl) ?_
      simp -implicitDefEqProofs only [↓b28_0, ↓b28_9, ↓b28_18, ↓b28_20, ↓b28_29, ↓b28_37, ↓b28_39, ↓b28_48, ↓b28_52, ↓b28_53, b28_0, b28_9, b28_18, b28_20, b28_29, b28_37, b28_39, b28_48, b28_52, b28_53, nLE0, layE2, layE3, e4, e7, e6', I32, ↓xb, xb, ps, lpad, lat, aok2, rd2, aaok, aav, alok, alen, aok, akk, csum, isLg, cmpI, clsE, Option.elim, eq_self, List.mem_cons, List.not_mem_nil, or_false, false_or, List.append_nil, List.nil_append, List.cons_append, List.append_eq, List.replicate, List.length_cons, List.length_nil, List.map_cons, List.map_nil, ↓reduceIte, reduceCtorEq, if_true, if_false, true_and, and_true, false_and, and_false, and_self, not_true_eq_false, not_false_eq_true, forall_const, true_implies, false_implies, implies_true, Nat.reduceAdd, Nat.reduceSub, Nat.reduceLT, Nat.reduceLeDiff, Nat.reduceEqDiff, Nat.reduceMul, Nat.reducePow, Nat.add_one_ne_zero, Nat.add_one_sub_one, Nat.add_zero, Nat.zero_add, Int.reduceLT, Int.reduceLE, Int.reduceNeg, Int.reduceAdd, Int.reduceSub, Int.reduceToNat, Int.reduceEq, Int.reduceMul, Int.reducePow, Int.cast_ofNat_Int, Int.toNat_natCast, ne_eq, Bool.false_eq_true, true_or, or_true, or_self, Nat.not_lt_zero, ite_e0, ite_e1, lc_lt, lc_ge, lc_gt, lc_le, lc_eq, Classical.not_not]
      with_reducible repeat' (first | (refine And.intro ?_ ?_) | intro _)
      all_goals try omega
      all_goals first | omega | exact q
    · rw [if_pos rfl, if_neg c2] at q
      by_cases c3 : 60 ≤ c
      · rw [if_pos c3] at q
        refine CC_vb ok28 (by decide) (sm3_ok G w) 60 [] (Nat.le_of_ble_eq_true rfl) ?_
        simp -implicitDefEqProofs only [↓b28_0, ↓b28_9, ↓b28_18, ↓b28_20, ↓b28_29, ↓b28_37, ↓b28_39, ↓b28_48, ↓b28_52, ↓b28_53, b28_0, b28_9, b28_18, b28_20, b28_29, b28_37, b28_39, b28_48, b28_52, b28_53, nLE0, layE2, layE3, e4, e7, e6', c2, I32, ↓xb, xb, ps, lpad, lat, aok2, rd2, aaok, aav, alok, alen, aok, akk, csum, isLg, cmpI, clsE, Option.elim, eq_self, List.mem_cons, List.not_mem_nil, or_false, false_or, List.append_nil, List.nil_append, List.cons_append, List.append_eq, List.replicate, List.length_cons, List.length_nil, List.map_cons, List.map_nil, ↓reduceIte, reduceCtorEq, if_true, if_false, true_and, and_true, false_and, and_false, and_self, not_true_eq_false, not_false_eq_true, forall_const, true_implies, false_implies, implies_true, Nat.reduceAdd, Nat.reduceSub, Nat.reduceLT, Nat.reduceLeDiff, Nat.reduceEqDiff, Nat.reduceMul, Nat.reducePow, Nat.add_one_ne_zero, Nat.add_one_sub_one, Nat.add_zero, Nat.zero_add, Int.reduceLT, Int.reduceLE, Int.reduceNeg, Int.reduceAdd, Int.reduceSub, Int.reduceToNat, Int.reduceEq, Int.reduceMul, Int.reducePow, Int.cast_ofNat_Int, Int.toNat_natCast, ne_eq, Bool.false_eq_true, true_or, or_true, or_self, Nat.not_lt_zero, ite_e0, ite_e1, lc_lt, lc_ge, lc_gt, lc_le, lc_eq, Classical.not_not]
        with_reducible repeat' (first | (refine And.intro ?_ ?_) | intro _)
        all_goals try omega
        all_goals first | omega | exact q
      · rw [if_neg c3] at q
        refine CC_vb ok28 (by decide) (sm3_ok G w) 60 [] (Nat.le_of_ble_eq_true rfl) ?_
        simp -implicitDefEqProofs only [↓b28_0, ↓b28_9, ↓b28_18, ↓b28_20, ↓b28_29, ↓b28_37, ↓b28_39, ↓b28_48, ↓b28_52, ↓b28_53, b28_0, b28_9, b28_18, b28_20, b28_29, b28_37, b28_39, b28_48, b28_52, b28_53, nLE0, layE2, layE3, e4, e7, e6', c2, I32, ↓xb, xb, ps, lpad, lat, aok2, rd2, aaok, aav, alok, alen, aok, akk, csum, isLg, cmpI, clsE, Option.elim, eq_self, List.mem_cons, List.not_mem_nil, or_false, false_or, List.append_nil, List.nil_append, List.cons_append, List.append_eq, List.replicate, List.length_cons, List.length_nil, List.map_cons, List.map_nil, ↓reduceIte, reduceCtorEq, if_true, if_false, true_and, and_true, false_and, and_false, and_self, not_true_eq_false, not_false_eq_true, forall_const, true_implies, false_implies, implies_true, Nat.reduceAdd, Nat.reduceSub, Nat.reduceLT, Nat.reduceLeDiff, Nat.reduceEqDiff, Nat.reduceMul, Nat.reducePow, Nat.add_one_ne_zero, Nat.add_one_sub_one, Nat.add_zero, Nat.zero_add, Int.reduceLT, Int.reduceLE, Int.reduceNeg, Int.reduceAdd, Int.reduceSub, Int.reduceToNat, Int.reduceEq, Int.reduceMul, Int.reducePow, Int.cast_ofNat_Int, Int.toNat_natCast, ne_eq, Bool.false_eq_true, true_or, or_true, or_self, Nat.not_lt_zero, ite_e0, ite_e1, lc_lt, lc_ge, lc_gt, lc_le, lc_eq, Classical.not_not]
        with_reducible repeat' (first | (refine And.intro ?_ ?_) | intro _)
        all_goals try omega
        all_goals first | omega | exact q
  · rw [if_neg c1] at q
    by_cases c2 : a < 15
    · rw [if_pos c2] at q
      by_cases c3 : 60 ≤ c
      · rw [if_pos c3] at q
        refine CC_vb ok28 (by decide) (sm3_ok G w) 60 [] (Nat.le_of_ble_eq_true rfl) ?_
        simp -implicitDefEqProofs only [↓b28_0, ↓b28_9, ↓b28_18, ↓b28_20, ↓b28_29, ↓b28_37, ↓b28_39, ↓b28_48, ↓b28_52, ↓b28_53, b28_0, b28_9, b28_18, b28_20, b28_29, b28_37, b28_39, b28_48, b28_52, b28_53, nLE0, layE2, layE3, e4, e7, c1, I32, ↓xb, xb, ps, lpad, lat, aok2, rd2, aaok, aav, alok, alen, aok, akk, csum, isLg, cmpI, clsE, Option.elim, eq_self, List.mem_cons, List.not_mem_nil, or_false, false_or, List.append_nil, List.nil_append, List.cons_append, List.append_eq, List.replicate, List.length_cons, List.length_nil, List.map_cons, List.map_nil, ↓reduceIte, reduceCtorEq, if_true, if_false, true_and, and_true, false_and, and_false, and_self, not_true_eq_false, not_false_eq_true, forall_const, true_implies, false_implies, implies_true, Nat.reduceAdd, Nat.reduceSub, Nat.reduceLT, Nat.reduceLeDiff, Nat.reduceEqDiff, Nat.reduceMul, Nat.reducePow, Nat.add_one_ne_zero, Nat.add_one_sub_one, Nat.add_zero, Nat.zero_add, Int.reduceLT, Int.reduceLE, Int.reduceNeg, Int.reduceAdd, Int.reduceSub, Int.reduceToNat, Int.reduceEq, Int.reduceMul, Int.reducePow, Int.cast_ofNat_Int, Int.toNat_natCast, ne_eq, Bool.false_eq_true, true_or, or_true, or_self, Nat.not_lt_zero, ite_e0, ite_e1, lc_lt, lc_ge, lc_gt, lc_le, lc_eq, Classical.not_not]
        with_reducible repeat' (first | (refine And.intro ?_ ?_) | intro _)
        all_goals try omega
        all_goals first | omega | exact q
      · rw [if_neg c3] at q
        refine CC_vb ok28 (by decide) (sm3_ok G w) 60 [] (Nat.le_of_ble_eq_true rfl) ?_
        simp -implicitDefEqProofs only [↓b28_0, ↓b28_9, ↓b28_18, ↓b28_20, ↓b28_29, ↓b28_37, ↓b28_39, ↓b28_48, ↓b28_52, ↓b28_53, b28_0, b28_9, b28_18, b28_20, b28_29, b28_37, b28_39, b28_48, b28_52, b28_53, nLE0, layE2, layE3, e4, e7, c1, I32, ↓xb, xb, ps, lpad, lat, aok2, rd2, aaok, aav, alok, alen, aok, akk, csum, isLg, cmpI, clsE, Option.elim, eq_self, List.mem_cons, List.not_mem_nil, or_false, false_or, List.append_nil, List.nil_append, List.cons_append, List.append_eq, List.replicate, List.length_cons, List.length_nil, List.map_cons, List.map_nil, ↓reduceIte, reduceCtorEq, if_true, if_false, true_and, and_true, false_and, and_false, and_self, not_true_eq_false, not_false_eq_true, forall_const, true_implies, false_implies, implies_true, Nat.reduceAdd, Nat.reduceSub, Nat.reduceLT, Nat.reduceLeDiff, Nat.reduceEqDiff, Nat.reduceMul, Nat.reducePow, Nat.add_one_ne_zero, Nat.add_one_sub_one, Nat.add_zero, Nat.zero_add, Int.reduceLT, Int.reduceLE, Int.reduceNeg, Int.reduceAdd, Int.reduceSub, Int.reduceToNat, Int.reduceEq, Int.reduceMul, Int.reducePow, Int.cast_ofNat_Int, Int.toNat_natCast, ne_eq, Bool.false_eq_true, true_or, or_true, or_self, Nat.not_lt_zero, ite_e0, ite_e1, lc_lt, lc_ge, lc_gt, lc_le, lc_eq, Classical.not_not]
        with_reducible repeat' (first | (refine And.intro ?_ ?_) | intro _)
        all_goals try omega
        all_goals first | omega | exact q
    · rw [if_neg c2] at q
      refine CC_vb ok28 (by decide) (sm3_ok G w) 60 [] (Nat.le_of_ble_eq_true rfl) ?_
      simp -implicitDefEqProofs only [↓b28_0, ↓b28_9, ↓b28_18, ↓b28_20, ↓b28_29, ↓b28_37, ↓b28_39, ↓b28_48, ↓b28_52, ↓b28_53, b28_0, b28_9, b28_18, b28_20, b28_29, b28_37, b28_39, b28_48, b28_52, b28_53, nLE0, layE2, layE3, e4, e7, c1, I32, ↓xb, xb, ps, lpad, lat, aok2, rd2, aaok, aav, alok, alen, aok, akk, csum, isLg, cmpI, clsE, Option.elim, eq_self, List.mem_cons, List.not_mem_nil, or_false, false_or, List.append_nil, List.nil_append, List.cons_append, List.append_eq, List.replicate, List.length_cons, List.length_nil, List.map_cons, List.map_nil, ↓reduceIte, reduceCtorEq, if_true, if_false, true_and, and_true, false_and, and_false, and_self, not_true_eq_false, not_false_eq_true, forall_const, true_implies, false_implies, implies_true, Nat.reduceAdd, Nat.reduceSub, Nat.reduceLT, Nat.reduceLeDiff, Nat.reduceEqDiff, Nat.reduceMul, Nat.reducePow, Nat.add_one_ne_zero, Nat.add_one_sub_one, Nat.add_zero, Nat.zero_add, Int.reduceLT, Int.reduceLE, Int.reduceNeg, Int.reduceAdd, Int.reduceSub, Int.reduceToNat, Int.reduceEq, Int.reduceMul, Int.reducePow, Int.cast_ofNat_Int, Int.toNat_natCast, ne_eq, Bool.false_eq_true, true_or, or_true, or_self, Nat.not_lt_zero, ite_e0, ite_e1, lc_lt, lc_ge, lc_gt, lc_le, lc_eq, Classical.not_not]
      with_reducible repeat' (first | (refine And.intro ?_ ?_) | intro _)
      all_goals try omega
      all_goals first | omega | exact q
set_option maxRecDepth 100000 in
set_option maxHeartbeats 1000000 in
theorem kc_refuse {b : Nat} {x : Int} (hb : b ≤ 400) (hx : 0 ≤ x ∧ x ≤ 4) (e5 : σ 7 5 0 0 = b) (hk : 4 ≤ k) (q : Q (some (vi 0)) (up σ 7 8 0 0 (1 + 8 * b + x))) : CC G w w k (0, 0) 21 [vr 7 0 0, vi x] σ Q := by
  refine CC_vb ok21 (by decide) (sm3_ok G w) 60 [] (Nat.le_of_ble_eq_true rfl) ?_
  simp -implicitDefEqProofs only [↓b21_0, b21_0, nLE0, layE2, layE3, e5, I32, ↓xb, xb, ps, lpad, lat, aok2, rd2, aaok, aav, alok, alen, aok, akk, csum, isLg, cmpI, clsE, Option.elim, eq_self, List.mem_cons, List.not_mem_nil, or_false, false_or, List.append_nil, List.nil_append, List.cons_append, List.append_eq, List.replicate, List.length_cons, List.length_nil, List.map_cons, List.map_nil, ↓reduceIte, reduceCtorEq, if_true, if_false, true_and, and_true, false_and, and_false, and_self, not_true_eq_false, not_false_eq_true, forall_const, true_implies, false_implies, implies_true, Nat.reduceAdd, Nat.reduceSub, Nat.reduceLT, Nat.reduceLeDiff, Nat.reduceEqDiff, Nat.reduceMul, Nat.reducePow, Nat.add_one_ne_zero, Nat.add_one_sub_one, Nat.add_zero, Nat.zero_add, Int.reduceLT, Int.reduceLE, Int.reduceNeg, Int.reduceAdd, Int.reduceSub, Int.reduceToNat, Int.reduceEq, Int.reduceMul, Int.reducePow, Int.cast_ofNat_Int, Int.toNat_natCast, ne_eq, Bool.false_eq_true, true_or, or_true, or_self, Nat.not_lt_zero, ite_e0, ite_e1, lc_lt, lc_ge, lc_gt, lc_le, lc_eq, Classical.not_not]
  with_reducible repeat' (first | (refine And.intro ?_ ?_) | intro _)
  all_goals try omega
  all_goals first | omega | exact q
end PUT

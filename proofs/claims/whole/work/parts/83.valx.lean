/-! 83.valx: what is written and counted; the words (check) -/
abbrev SXq : Nat → Nat → Bool := fun o f => o == 21 && (f == 40 || f == 41 || f == 44 || f == 46 || f == 50 || f == 51)
/-- the check stands at p, has counted c and written the pieces LL into its slot s; no fault yet -/
def XSt (σ : Mem) (t : Nat → Int) (N s p c : Nat) (LL : List (Nat × Int)) : Prop := TXx σ t N ∧ σ 21 40 0 0 = ((p : Nat) : Int) ∧ σ 21 41 0 0 = 0 ∧ σ 21 42 0 0 = ((s : Nat) : Int) ∧ σ 21 44 0 0 = ((LL.length : Nat) : Int) ∧ σ 21 46 0 0 = ((c : Nat) : Int) ∧ σ 21 48 0 0 = 15 ∧ ∀ i, i < LL.length → σ 21 50 0 (300 * s + i) = (((LL.getD i (0, 0)).1 : Nat) : Int) ∧ σ 21 51 0 (300 * s + i) = (LL.getD i (0, 0)).2
/-- there is a fault: f; nothing runs over -/
def XFb (σ : Mem) (t : Nat → Int) (N : Nat) (f B : Int) : Prop := TXx σ t N ∧ σ 21 41 0 0 = f ∧ f ≠ 0 ∧ 0 ≤ σ 21 40 0 0 ∧ σ 21 40 0 0 ≤ 1000 ∧ 0 ≤ σ 21 46 0 0 ∧ σ 21 46 0 0 ≤ B
abbrev XFt (σ : Mem) (t : Nat → Int) (N : Nat) (f : Int) : Prop := XFb σ t N f 62
section VLX
variable {G : Gl} {w : Wd} {k : Nat} {σ : Mem} {Q : Option AV → Mem → Prop} {t : Nat → Int} {N s : Nat}
set_option maxRecDepth 100000 in
set_option maxHeartbeats 1000000 in
theorem kx_wordOf (hk : 4 ≤ k) {i : Int} (hi : 0 ≤ i ∧ i < 15) (q : Q (some (vr (1005 + i.toNat) 0 0)) σ) : CC G w w k (0, 0) 151 [vi i] σ Q := by
  have h : i = 0 ∨ i = 1 ∨ i = 2 ∨ i = 3 ∨ i = 4 ∨ i = 5 ∨ i = 6 ∨ i = 7 ∨ i = 8 ∨ i = 9 ∨ i = 10 ∨ i = 11 ∨ i = 12 ∨ i = 13 ∨ i = 14 := by omega
  rcases h with rfl | rfl | rfl | rfl | rfl | rfl | rfl | rfl | rfl | rfl | rfl | rfl | rfl | rfl | rfl
  all_goals refine CC_vb ok151 (by decide) (sm3_ok G w) 60 [] (Nat.le_of_ble_eq_true rfl) ?_
  all_goals simp -implicitDefEqProofs only [↓b151_0, ↓b151_72, ↓b151_76, ↓b151_80, ↓b151_84, ↓b151_88, ↓b151_92, ↓b151_96, ↓b151_100, ↓b151_104, ↓b151_108, ↓b151_112, ↓b151_116, ↓b151_120, ↓b151_124, ↓b151_128, b151_0, b151_72, b151_76, b151_80, b151_84, b151_88, b151_92, b151_96, b151_100, b151_104, b151_108, b151_112, b151_116, b151_120, b151_124, b151_128, nLE3, layE8, hk, I32, ↓xb, xb, ps, lpad, lat, aok2, rd2, aaok, aav, alok, alen, aok, akk, csum, isLg, cmpI, clsE, Option.elim, eq_self, List.mem_cons, List.not_mem_nil, or_false, false_or, List.append_nil, List.nil_append, List.cons_append, List.append_eq, List.replicate, List.length_cons, List.length_nil, List.map_cons, List.map_nil, ↓reduceIte, reduceCtorEq, if_true, if_false, true_and, and_true, false_and, and_false, and_self, not_true_eq_false, not_false_eq_true, forall_const, true_implies, false_implies, implies_true, Nat.reduceAdd, Nat.reduceSub, Nat.reduceLT, Nat.reduceLeDiff, Nat.reduceEqDiff, Nat.reduceMul, Nat.reducePow, Nat.add_one_ne_zero, Nat.add_one_sub_one, Nat.add_zero, Nat.zero_add, Int.reduceLT, Int.reduceLE, Int.reduceNeg, Int.reduceAdd, Int.reduceSub, Int.reduceToNat, Int.reduceEq, Int.reduceMul, Int.reducePow, Int.cast_ofNat_Int, Int.toNat_natCast, ne_eq, Bool.false_eq_true, true_or, or_true, or_self, Nat.not_lt_zero, ite_e0, ite_e1, lc_lt, lc_ge, lc_gt, lc_le, lc_eq, Classical.not_not]
  all_goals with_reducible repeat' (first | (refine And.intro ?_ ?_) | intro _)
  all_goals first | omega | exact q
set_option maxRecDepth 100000 in
set_option maxHeartbeats 1000000 in
theorem kx_entry (hk : 6 ≤ k) (hs : s ≤ 7) {p c : Nat} {LL : List (Nat × Int)} (X : XSt σ t N s p c LL) (hl : LL.length < 300) {a : Nat} {n : Int} (q : ∀ σ', XSt σ' t N s p c (LL ++ [(a, n)]) → same SXq σ σ' → Q none σ') : CC G w w k (0, 0) 159 [vr 21 0 0, vi a, vi n] σ Q := by
  obtain ⟨T, e40, e41, e42, e44, e46, e48, e5⟩ := X
  have ix : (300 * (s : Int) + (LL.length : Int)).toNat = 300 * s + LL.length := by omega
  have u1 : ∀ v, up σ 21 50 0 (300 * s + LL.length) v 21 42 0 0 = ((s : Nat) : Int) := fun v => (upp_nf (by decide)).trans e42
  have u2 : ∀ v, up σ 21 50 0 (300 * s + LL.length) v 21 44 0 0 = ((LL.length : Nat) : Int) := fun v => (upp_nf (by decide)).trans e44
  have u3 : ∀ v x, up (up σ 21 50 0 (300 * s + LL.length) v) 21 51 0 (300 * s + LL.length) x 21 44 0 0 = ((LL.length : Nat) : Int) := fun v x => (upp_nf (by decide)).trans (u2 v)
  have u42 : up σ 21 50 0 (300 * s + LL.length) a 21 42 0 0 = σ 21 42 0 0 := upp_nf (by decide)
  have r := q (up (up (up σ 21 50 0 (300 * s + LL.length) a) 21 51 0 (300 * s + LL.length) n) 21 44 0 0 ((LL.length : Int) + 1)) (by
    have g : ∀ f, f ≠ 44 → f ≠ 50 → f ≠ 51 → ∀ c, up (up (up σ 21 50 0 (300 * s + LL.length) a) 21 51 0 (300 * s + LL.length) n) 21 44 0 0 ((LL.length : Int) + 1) 21 f 0 c = σ 21 f 0 c := fun f h1 h2 h3 c => by
      rw [upp_nf h1, upp_nf h3, upp_nf h2]
    refine ⟨((T.wr (f := 50) (i := 300 * s + LL.length) (v := a) e42 (by decide) (by show (300 : Int) * s ≤ _; omega)).wr (f := 51) (i := 300 * s + LL.length) (v := n) (u42.trans e42) (by decide) (by show (300 : Int) * s ≤ _; omega)).keep (S := SXl) (same.refl.put rfl) rfl rfl, (g 40 (by decide) (by decide) (by decide) 0).trans e40, (g 41 (by decide) (by decide) (by decide) 0).trans e41, (g 42 (by decide) (by decide) (by decide) 0).trans e42, ?_, (g 46 (by decide) (by decide) (by decide) 0).trans e46, (g 48 (by decide) (by decide) (by decide) 0).trans e48, fun i hi => ?_⟩
    · rw [upp_eq, List.length_append]; simp
    · rw [List.length_append] at hi
      have f50 : up (up (up σ 21 50 0 (300 * s + LL.length) a) 21 51 0 (300 * s + LL.length) n) 21 44 0 0 ((LL.length : Int) + 1) 21 50 0 (300 * s + i) = up σ 21 50 0 (300 * s + LL.length) a 21 50 0 (300 * s + i) := by rw [upp_nf (by decide), upp_nf (by decide)]
      have f51 : up (up (up σ 21 50 0 (300 * s + LL.length) a) 21 51 0 (300 * s + LL.length) n) 21 44 0 0 ((LL.length : Int) + 1) 21 51 0 (300 * s + i) = up (up σ 21 50 0 (300 * s + LL.length) a) 21 51 0 (300 * s + LL.length) n 21 51 0 (300 * s + i) := by rw [upp_nf (by decide)]
      rw [f50, f51]
      by_cases z : i = LL.length
      · subst z
        rw [upp_eq, upp_eq, gd_r]
        exact ⟨rfl, rfl⟩
      · have l : i < LL.length := by simp at hi; omega
        rw [upp_nc (by omega), upp_nc (by omega), gd_l l]
        exact ⟨(e5 i l).1, by rw [upp_nf (by decide)]; exact (e5 i l).2⟩) (((same.refl.put rfl).put rfl).put rfl)
  refine CC_vb ok159 (by decide) (sm3_ok G w) 60 [] (Nat.le_of_ble_eq_true rfl) ?_
  simp -implicitDefEqProofs only [↓b159_0, ↓b159_7, ↓b159_55, b159_0, b159_7, b159_55, nLE3, layE8, e41, e42, e44, ix, u1, u2, u3, I32, ↓xb, xb, ps, lpad, lat, aok2, rd2, aaok, aav, alok, alen, aok, akk, csum, isLg, cmpI, clsE, Option.elim, eq_self, List.mem_cons, List.not_mem_nil, or_false, false_or, List.append_nil, List.nil_append, List.cons_append, List.append_eq, List.replicate, List.length_cons, List.length_nil, List.map_cons, List.map_nil, ↓reduceIte, reduceCtorEq, if_true, if_false, true_and, and_true, false_and, and_false, and_self, not_true_eq_false, not_false_eq_true, forall_const, true_implies, false_implies, implies_true, Nat.reduceAdd, Nat.reduceSub, Nat.reduceLT, Nat.reduceLeDiff, Nat.reduceEqDiff, Nat.reduceMul, Nat.reducePow, Nat.add_one_ne_zero, Nat.add_one_sub_one, Nat.add_zero, Nat.zero_add, Int.reduceLT, Int.reduceLE, Int.reduceNeg, Int.reduceAdd, Int.reduceSub, Int.reduceToNat, Int.reduceEq, Int.reduceMul, Int.reducePow, Int.cast_ofNat_Int, Int.toNat_natCast, ne_eq, Bool.false_eq_true, true_or, or_true, or_self, Nat.not_lt_zero, ite_e0, ite_e1, lc_lt, lc_ge, lc_gt, lc_le, lc_eq, Classical.not_not]
  with_reducible repeat' (first | (refine And.intro ?_ ?_) | intro _)
  all_goals try omega
  all_goals first | omega | exact r
set_option maxRecDepth 100000 in
set_option maxHeartbeats 1000000 in
theorem kx_entry1 (hk : 6 ≤ k) {f B : Int} (X : XFb σ t N f B) {a n : Int} (q : Q none σ) : CC G w w k (0, 0) 159 [vr 21 0 0, vi a, vi n] σ Q := by
  have e41 := X.2.1
  have hf := X.2.2.1
  refine CC_vb ok159 (by decide) (sm3_ok G w) 60 [] (Nat.le_of_ble_eq_true rfl) ?_
  simp -implicitDefEqProofs only [↓b159_0, ↓b159_7, ↓b159_55, b159_0, b159_7, b159_55, nLE3, layE8, e41, hf, I32, ↓xb, xb, ps, lpad, lat, aok2, rd2, aaok, aav, alok, alen, aok, akk, csum, isLg, cmpI, clsE, Option.elim, eq_self, List.mem_cons, List.not_mem_nil, or_false, false_or, List.append_nil, List.nil_append, List.cons_append, List.append_eq, List.replicate, List.length_cons, List.length_nil, List.map_cons, List.map_nil, ↓reduceIte, reduceCtorEq, if_true, if_false, true_and, and_true, false_and, and_false, and_self, not_true_eq_false, not_false_eq_true, forall_const, true_implies, false_implies, implies_true, Nat.reduceAdd, Nat.reduceSub, Nat.reduceLT, Nat.reduceLeDiff, Nat.reduceEqDiff, Nat.reduceMul, Nat.reducePow, Nat.add_one_ne_zero, Nat.add_one_sub_one, Nat.add_zero, Nat.zero_add, Int.reduceLT, Int.reduceLE, Int.reduceNeg, Int.reduceAdd, Int.reduceSub, Int.reduceToNat, Int.reduceEq, Int.reduceMul, Int.reducePow, Int.cast_ofNat_Int, Int.toNat_natCast, ne_eq, Bool.false_eq_true, true_or, or_true, or_self, Nat.not_lt_zero, ite_e0, ite_e1, lc_lt, lc_ge, lc_gt, lc_le, lc_eq, Classical.not_not]
  with_reducible repeat' (first | (refine And.intro ?_ ?_) | intro _)
  all_goals try omega
  all_goals first | omega | exact q
set_option maxRecDepth 100000 in
set_option maxHeartbeats 1000000 in
theorem kx_cnt (hk : 8 ≤ k) {p c b : Nat} {LL : List (Nat × Int)} (X : XSt σ t N s p c LL) (hp : p ≤ N) (hc : c ≤ 60) (hb : b ≤ 400) (q0 : c < 60 → ∀ σ', XSt σ' t N s p (c + 1) LL → same SXq σ σ' → Q none σ') (q1 : ¬ c < 60 → ∀ σ', XFt σ' t N (1 + 8 * b + 3) → σ' 21 40 0 0 = ((p : Nat) : Int) → same SXq σ σ' → Q none σ') : CC G w w k (0, 0) 160 [vr 21 0 0, vi b] σ Q := by
  obtain ⟨T, e40, e41, e42, e44, e46, e48, e5⟩ := X
  have t2 := T.2.1
  by_cases c0 : c < 60
  · have n60 : ¬ ((c : Int) = 60) := by omega
    have r := q0 c0 (up σ 21 46 0 0 ((c : Int) + 1)) ⟨T.keep (S := SXl) (same.refl.put rfl) rfl rfl, by rw [upp_nf (by decide)]; exact e40, by rw [upp_nf (by decide)]; exact e41, by rw [upp_nf (by decide)]; exact e42, by rw [upp_nf (by decide)]; exact e44, by rw [upp_eq]; omega, by rw [upp_nf (by decide)]; exact e48, fun i hi => by rw [upp_nf (by decide), upp_nf (by decide)]; exact e5 i hi⟩ (same.refl.put rfl)
    refine CC_vb ok160 (by decide) (sm3_ok G w) 60 [] (Nat.le_of_ble_eq_true rfl) ?_
    simp -implicitDefEqProofs only [↓b160_0, ↓b160_9, ↓b160_15, b160_0, b160_9, b160_15, nLE3, layE8, e46, n60, n3_153, I32, ↓xb, xb, ps, lpad, lat, aok2, rd2, aaok, aav, alok, alen, aok, akk, csum, isLg, cmpI, clsE, Option.elim, eq_self, List.mem_cons, List.not_mem_nil, or_false, false_or, List.append_nil, List.nil_append, List.cons_append, List.append_eq, List.replicate, List.length_cons, List.length_nil, List.map_cons, List.map_nil, ↓reduceIte, reduceCtorEq, if_true, if_false, true_and, and_true, false_and, and_false, and_self, not_true_eq_false, not_false_eq_true, forall_const, true_implies, false_implies, implies_true, Nat.reduceAdd, Nat.reduceSub, Nat.reduceLT, Nat.reduceLeDiff, Nat.reduceEqDiff, Nat.reduceMul, Nat.reducePow, Nat.add_one_ne_zero, Nat.add_one_sub_one, Nat.add_zero, Nat.zero_add, Int.reduceLT, Int.reduceLE, Int.reduceNeg, Int.reduceAdd, Int.reduceSub, Int.reduceToNat, Int.reduceEq, Int.reduceMul, Int.reducePow, Int.cast_ofNat_Int, Int.toNat_natCast, ne_eq, Bool.false_eq_true, true_or, or_true, or_self, Nat.not_lt_zero, ite_e0, ite_e1, lc_lt, lc_ge, lc_gt, lc_le, lc_eq, Classical.not_not]
    with_reducible repeat' (first | (refine And.intro ?_ ?_) | intro _)
    all_goals try omega
    all_goals first | omega | exact r
  · have c60 : c = 60 := by omega
    subst c60
    have r := q1 c0 (up (up σ 21 41 0 0 (1 + 8 * (b : Int) + 3)) 21 46 0 0 (60 + 1)) ⟨T.keep (S := SXl) ((same.refl.put rfl).put rfl) rfl rfl, by rw [upp_nf (by decide), upp_eq], by omega, by rw [upp_nf (by decide), upp_nf (by decide), e40]; omega, by rw [upp_nf (by decide), upp_nf (by decide), e40]; omega, by rw [upp_eq]; omega, by rw [upp_eq]; omega⟩ (by rw [upp_nf (by decide), upp_nf (by decide)]; exact e40) ((same.refl.put rfl).put rfl)
    have e46' : σ 21 46 0 0 = 60 := e46
    have u : ∀ v, up σ 21 41 0 0 v 21 46 0 0 = 60 := fun v => (upp_nf (by decide)).trans e46'
    refine CC_vb ok160 (by decide) (sm3_ok G w) 60 [] (Nat.le_of_ble_eq_true rfl) ?_
    simp -implicitDefEqProofs only [↓b160_0, ↓b160_9, ↓b160_15, b160_0, b160_9, b160_15, nLE3, layE8, e46', n3_153, I32, ↓xb, xb, ps, lpad, lat, aok2, rd2, aaok, aav, alok, alen, aok, akk, csum, isLg, cmpI, clsE, Option.elim, eq_self, List.mem_cons, List.not_mem_nil, or_false, false_or, List.append_nil, List.nil_append, List.cons_append, List.append_eq, List.replicate, List.length_cons, List.length_nil, List.map_cons, List.map_nil, ↓reduceIte, reduceCtorEq, if_true, if_false, true_and, and_true, false_and, and_false, and_self, not_true_eq_false, not_false_eq_true, forall_const, true_implies, false_implies, implies_true, Nat.reduceAdd, Nat.reduceSub, Nat.reduceLT, Nat.reduceLeDiff, Nat.reduceEqDiff, Nat.reduceMul, Nat.reducePow, Nat.add_one_ne_zero, Nat.add_one_sub_one, Nat.add_zero, Nat.zero_add, Int.reduceLT, Int.reduceLE, Int.reduceNeg, Int.reduceAdd, Int.reduceSub, Int.reduceToNat, Int.reduceEq, Int.reduceMul, Int.reducePow, Int.cast_ofNat_Int, Int.toNat_natCast, ne_eq, Bool.false_eq_true, true_or, or_true, or_self, Nat.not_lt_zero, ite_e0, ite_e1, lc_lt, lc_ge, lc_gt, lc_le, lc_eq, Classical.not_not]
    with_reducible repeat' (first | (refine And.intro ?_ ?_) | intro _)
    all_goals try omega
    all_goals first | omega | skip
    refine kx_fails0 (by omega) e41 (by omega) (by omega) ?_
    simp -implicitDefEqProofs only [↓b160_0, ↓b160_9, ↓b160_15, b160_0, b160_9, b160_15, nLE3, layE8, u, n3_153, I32, ↓xb, xb, ps, lpad, lat, aok2, rd2, aaok, aav, alok, alen, aok, akk, csum, isLg, cmpI, clsE, Option.elim, eq_self, List.mem_cons, List.not_mem_nil, or_false, false_or, List.append_nil, List.nil_append, List.cons_append, List.append_eq, List.replicate, List.length_cons, List.length_nil, List.map_cons, List.map_nil, ↓reduceIte, reduceCtorEq, if_true, if_false, true_and, and_true, false_and, and_false, and_self, not_true_eq_false, not_false_eq_true, forall_const, true_implies, false_implies, implies_true, Nat.reduceAdd, Nat.reduceSub, Nat.reduceLT, Nat.reduceLeDiff, Nat.reduceEqDiff, Nat.reduceMul, Nat.reducePow, Nat.add_one_ne_zero, Nat.add_one_sub_one, Nat.add_zero, Nat.zero_add, Int.reduceLT, Int.reduceLE, Int.reduceNeg, Int.reduceAdd, Int.reduceSub, Int.reduceToNat, Int.reduceEq, Int.reduceMul, Int.reducePow, Int.cast_ofNat_Int, Int.toNat_natCast, ne_eq, Bool.false_eq_true, true_or, or_true, or_self, Nat.not_lt_zero, ite_e0, ite_e1, lc_lt, lc_ge, lc_gt, lc_le, lc_eq, Classical.not_not]
    with_reducible repeat' (first | (refine And.intro ?_ ?_) | intro _)
    all_goals try omega
    all_goals first | omega | exact r
set_option maxRecDepth 100000 in
set_option maxHeartbeats 1000000 in
theorem kx_cnt1 (hk : 8 ≤ k) {f B : Int} {b : Int} (X : XFb σ t N f B) (hB : B ≤ 2000) (hc : σ 21 46 0 0 + 1 ≤ B) (q : ∀ σ', XFb σ' t N f B → σ' 21 40 0 0 = σ 21 40 0 0 → σ' 21 46 0 0 = σ 21 46 0 0 + 1 → same SXq σ σ' → Q none σ') : CC G w w k (0, 0) 160 [vr 21 0 0, vi b] σ Q := by
  obtain ⟨T, e41, hf, h1, h2, h3, h4⟩ := X
  have mk : ∀ σ0 : Mem, (∀ a g, ¬ (a = 21 ∧ g = 41) → ∀ r c, σ0 a g r c = σ a g r c) → σ0 21 41 0 0 = f → Q none (up σ0 21 46 0 0 (σ 21 46 0 0 + 1)) := fun σ0 g e => by
    have fr : same SXq σ (up σ0 21 46 0 0 (σ 21 46 0 0 + 1)) := fun a f' hf' r c => by
      have z : (a == 21 && (f' == 40 || f' == 41 || f' == 44 || f' == 46 || f' == 50 || f' == 51)) = false := hf'
      simp only [Bool.and_eq_false_iff, Bool.or_eq_false_iff, beq_eq_false_iff_ne, ne_eq] at z
      unfold up
      rw [if_neg (by omega), g a f' (by omega)]
    have fr2 : same SXl σ (up σ0 21 46 0 0 (σ 21 46 0 0 + 1)) := fun a f' hf' r c => by
      have z : (a == 21 && (f' == 40 || f' == 41 || f' == 44 || f' == 45 || f' == 46 || f' == 47 || f' == 58)) = false := hf'
      simp only [Bool.and_eq_false_iff, Bool.or_eq_false_iff, beq_eq_false_iff_ne, ne_eq] at z
      unfold up
      rw [if_neg (by omega), g a f' (by omega)]
    exact q _ ⟨T.keep fr2 rfl rfl, by rw [upp_nf (by decide)]; exact e, hf, by rw [upp_nf (by decide), g 21 40 (by omega)]; exact h1, by rw [upp_nf (by decide), g 21 40 (by omega)]; exact h2, by rw [upp_eq]; omega, by rw [upp_eq]; omega⟩ (by rw [upp_nf (by decide), g 21 40 (by omega)]) upp_eq fr
  by_cases c : σ 21 46 0 0 = 60
  · have r := mk (up σ 21 41 0 0 f) (fun a g h r c => by unfold up; rw [if_neg (fun z => h ⟨z.1, z.2.1⟩)]) upp_eq
    rw [c] at r
    have u : ∀ v, up σ 21 41 0 0 v 21 46 0 0 = 60 := fun v => (upp_nf (by decide)).trans c
    refine CC_vb ok160 (by decide) (sm3_ok G w) 60 [] (Nat.le_of_ble_eq_true rfl) ?_
    simp -implicitDefEqProofs only [↓b160_0, ↓b160_9, ↓b160_15, b160_0, b160_9, b160_15, nLE3, layE8, c, n3_153, I32, ↓xb, xb, ps, lpad, lat, aok2, rd2, aaok, aav, alok, alen, aok, akk, csum, isLg, cmpI, clsE, Option.elim, eq_self, List.mem_cons, List.not_mem_nil, or_false, false_or, List.append_nil, List.nil_append, List.cons_append, List.append_eq, List.replicate, List.length_cons, List.length_nil, List.map_cons, List.map_nil, ↓reduceIte, reduceCtorEq, if_true, if_false, true_and, and_true, false_and, and_false, and_self, not_true_eq_false, not_false_eq_true, forall_const, true_implies, false_implies, implies_true, Nat.reduceAdd, Nat.reduceSub, Nat.reduceLT, Nat.reduceLeDiff, Nat.reduceEqDiff, Nat.reduceMul, Nat.reducePow, Nat.add_one_ne_zero, Nat.add_one_sub_one, Nat.add_zero, Nat.zero_add, Int.reduceLT, Int.reduceLE, Int.reduceNeg, Int.reduceAdd, Int.reduceSub, Int.reduceToNat, Int.reduceEq, Int.reduceMul, Int.reducePow, Int.cast_ofNat_Int, Int.toNat_natCast, ne_eq, Bool.false_eq_true, true_or, or_true, or_self, Nat.not_lt_zero, ite_e0, ite_e1, lc_lt, lc_ge, lc_gt, lc_le, lc_eq, Classical.not_not]
    with_reducible repeat' (first | (refine And.intro ?_ ?_) | intro _)
    all_goals try omega
    all_goals first | omega | skip
    refine kx_fails1 (by omega) e41 hf ?_
    simp -implicitDefEqProofs only [↓b160_0, ↓b160_9, ↓b160_15, b160_0, b160_9, b160_15, nLE3, layE8, u, n3_153, I32, ↓xb, xb, ps, lpad, lat, aok2, rd2, aaok, aav, alok, alen, aok, akk, csum, isLg, cmpI, clsE, Option.elim, eq_self, List.mem_cons, List.not_mem_nil, or_false, false_or, List.append_nil, List.nil_append, List.cons_append, List.append_eq, List.replicate, List.length_cons, List.length_nil, List.map_cons, List.map_nil, ↓reduceIte, reduceCtorEq, if_true, if_false, true_and, and_true, false_and, and_false, and_self, not_true_eq_false, not_false_eq_true, forall_const, true_implies, false_implies, implies_true, Nat.reduceAdd, Nat.reduceSub, Nat.reduceLT, Nat.reduceLeDiff, Nat.reduceEqDiff, Nat.reduceMul, Nat.reducePow, Nat.add_one_ne_zero, Nat.add_one_sub_one, Nat.add_zero, Nat.zero_add, Int.reduceLT, Int.reduceLE, Int.reduceNeg, Int.reduceAdd, Int.reduceSub, Int.reduceToNat, Int.reduceEq, Int.reduceMul, Int.reducePow, Int.cast_ofNat_Int, Int.toNat_natCast, ne_eq, Bool.false_eq_true, true_or, or_true, or_self, Nat.not_lt_zero, ite_e0, ite_e1, lc_lt, lc_ge, lc_gt, lc_le, lc_eq, Classical.not_not]
    with_reducible repeat' (first | (refine And.intro ?_ ?_) | intro _)
    all_goals try omega
    all_goals first | omega | exact r
  · have r := mk σ (fun _ _ _ _ _ => rfl) e41
    refine CC_vb ok160 (by decide) (sm3_ok G w) 60 [] (Nat.le_of_ble_eq_true rfl) ?_
    simp -implicitDefEqProofs only [↓b160_0, ↓b160_9, ↓b160_15, b160_0, b160_9, b160_15, nLE3, layE8, c, n3_153, I32, ↓xb, xb, ps, lpad, lat, aok2, rd2, aaok, aav, alok, alen, aok, akk, csum, isLg, cmpI, clsE, Option.elim, eq_self, List.mem_cons, List.not_mem_nil, or_false, false_or, List.append_nil, List.nil_append, List.cons_append, List.append_eq, List.replicate, List.length_cons, List.length_nil, List.map_cons, List.map_nil, ↓reduceIte, reduceCtorEq, if_true, if_false, true_and, and_true, false_and, and_false, and_self, not_true_eq_false, not_false_eq_true, forall_const, true_implies, false_implies, implies_true, Nat.reduceAdd, Nat.reduceSub, Nat.reduceLT, Nat.reduceLeDiff, Nat.reduceEqDiff, Nat.reduceMul, Nat.reducePow, Nat.add_one_ne_zero, Nat.add_one_sub_one, Nat.add_zero, Nat.zero_add, Int.reduceLT, Int.reduceLE, Int.reduceNeg, Int.reduceAdd, Int.reduceSub, Int.reduceToNat, Int.reduceEq, Int.reduceMul, Int.reducePow, Int.cast_ofNat_Int, Int.toNat_natCast, ne_eq, Bool.false_eq_true, true_or, or_true, or_self, Nat.not_lt_zero, ite_e0, ite_e1, lc_lt, lc_ge, lc_gt, lc_le, lc_eq, Classical.not_not]
    with_reducible repeat' (first | (refine And.intro ?_ ?_) | intro _)
    all_goals try omega
    all_goals first | omega | exact r
end VLX

/-! 9k.worth: what a list of pieces comes to, reckoned (class) -/
def STG (σ : Mem) (o f : Nat) : List Int → Prop
  | [] => True
  | x :: S => σ o f 0 S.length = x ∧ STG σ o f S
theorem STG.keep {σ σ' : Mem} {o f : Nat} : ∀ {S : List Int}, (∀ c, c < S.length → σ' o f 0 c = σ o f 0 c) → STG σ o f S → STG σ' o f S
  | [], _, _ => trivial
  | x :: S, h, k => ⟨(h S.length (by simp)).trans k.1, STG.keep (S := S) (fun c hc => h c (by simp; omega)) k.2⟩
theorem STG.put {σ : Mem} {o f : Nat} {S : List Int} {x : Int} (h : STG σ o f S) : STG (up σ o f 0 S.length x) o f (x :: S) := ⟨upp_eq, h.keep (fun c hc => up_at (by omega))⟩
theorem lx_lt {a b : Int} (h : a < b) : lcmpI a b = -1 := by unfold lcmpI; rw [if_neg (by omega), if_neg (by omega)]
theorem lx_eq {a b : Int} (h : a = b) : lcmpI a b = 0 := by unfold lcmpI; rw [if_neg (by omega), if_pos h]
theorem lx_gt {a b : Int} (h : b < a) : lcmpI a b = 1 := by unfold lcmpI; rw [if_pos h]
def isBin (n : Nat) : Prop := n = 2 ∨ n = 3 ∨ n = 4 ∨ n = 5 ∨ n = 6 ∨ n = 7 ∨ n = 8 ∨ n = 10 ∨ n = 11 ∨ n = 13 ∨ n = 14
theorem bo_4 {a b : Int} : bo 4 a b = if a < b then 1 else 0 := rfl
theorem bo_5 {a b : Int} : bo 5 a b = if a ≤ b then 1 else 0 := rfl
theorem bo_6 {a b : Int} : bo 6 a b = if a = b then 1 else 0 := rfl
theorem bo_7 {a b : Int} : bo 7 a b = if b ≤ a then 1 else 0 := rfl
theorem bo_8 {a b : Int} : bo 8 a b = if b < a then 1 else 0 := rfl
section WOC
variable {G : Gl} {w : Wd} {k : Nat} {σ : Mem} {Q : Option AV → Mem → Prop} {o : Nat}
set_option maxRecDepth 100000 in
set_option maxHeartbeats 1000000 in
theorem kc_join (hk : 1 ≤ k) {n : Nat} {a b : Int} (hn : isBin n) (q : Q (some (vl (bo n a b))) σ) : CC G w w k (0, 0) 41 [vi (cP (n, 0)), vl a, vl b] σ Q := by
  rcases hn with rfl | rfl | rfl | rfl | rfl | rfl | rfl | rfl | rfl | rfl | rfl
  · have q' : Q (some (vl (w64 (a + b)))) σ := q
    show CC G w w k (0, 0) 41 [vi 143, vl a, vl b] σ Q
    refine CC_vb ok41 (by decide) (sm3_ok G w) 60 [] (Nat.le_of_ble_eq_true rfl) ?_
    simp -implicitDefEqProofs only [↓b41_0, ↓b41_100, ↓b41_104, ↓b41_108, ↓b41_112, ↓b41_118, ↓b41_122, ↓b41_125, ↓b41_126, ↓b41_132, ↓b41_136, ↓b41_137, ↓b41_138, ↓b41_144, ↓b41_148, ↓b41_149, ↓b41_150, ↓b41_156, ↓b41_160, ↓b41_161, ↓b41_162, ↓b41_168, ↓b41_172, ↓b41_173, ↓b41_174, ↓b41_180, ↓b41_184, ↓b41_185, ↓b41_186, ↓b41_190, ↓b41_194, b41_0, b41_100, b41_104, b41_108, b41_112, b41_118, b41_122, b41_125, b41_126, b41_132, b41_136, b41_137, b41_138, b41_144, b41_148, b41_149, b41_150, b41_156, b41_160, b41_161, b41_162, b41_168, b41_172, b41_173, b41_174, b41_180, b41_184, b41_185, b41_186, b41_190, b41_194, nLE0, layE3, hk, I32, ↓xb, xb, ps, lpad, lat, aok2, rd2, aaok, aav, alok, alen, aok, akk, csum, isLg, cmpI, clsE, Option.elim, eq_self, List.mem_cons, List.not_mem_nil, or_false, false_or, List.append_nil, List.nil_append, List.cons_append, List.append_eq, List.replicate, List.length_cons, List.length_nil, List.map_cons, List.map_nil, ↓reduceIte, reduceCtorEq, if_true, if_false, true_and, and_true, false_and, and_false, and_self, not_true_eq_false, not_false_eq_true, forall_const, true_implies, false_implies, implies_true, Nat.reduceAdd, Nat.reduceSub, Nat.reduceLT, Nat.reduceLeDiff, Nat.reduceEqDiff, Nat.reduceMul, Nat.reducePow, Nat.add_one_ne_zero, Nat.add_one_sub_one, Nat.add_zero, Nat.zero_add, Int.reduceLT, Int.reduceLE, Int.reduceNeg, Int.reduceAdd, Int.reduceSub, Int.reduceToNat, Int.reduceEq, Int.reduceMul, Int.reducePow, Int.cast_ofNat_Int, Int.toNat_natCast, ne_eq, Bool.false_eq_true, true_or, or_true, or_self, Nat.not_lt_zero, ite_e0, ite_e1, lc_lt, lc_ge, lc_gt, lc_le, lc_eq, Classical.not_not]
    with_reducible repeat' (first | (refine And.intro ?_ ?_) | intro _)
    all_goals try omega
    all_goals first | omega | exact q'
  · have q' : Q (some (vl (w64 (a - b)))) σ := q
    show CC G w w k (0, 0) 41 [vi 145, vl a, vl b] σ Q
    refine CC_vb ok41 (by decide) (sm3_ok G w) 60 [] (Nat.le_of_ble_eq_true rfl) ?_
    simp -implicitDefEqProofs only [↓b41_0, ↓b41_100, ↓b41_104, ↓b41_108, ↓b41_112, ↓b41_118, ↓b41_122, ↓b41_125, ↓b41_126, ↓b41_132, ↓b41_136, ↓b41_137, ↓b41_138, ↓b41_144, ↓b41_148, ↓b41_149, ↓b41_150, ↓b41_156, ↓b41_160, ↓b41_161, ↓b41_162, ↓b41_168, ↓b41_172, ↓b41_173, ↓b41_174, ↓b41_180, ↓b41_184, ↓b41_185, ↓b41_186, ↓b41_190, ↓b41_194, b41_0, b41_100, b41_104, b41_108, b41_112, b41_118, b41_122, b41_125, b41_126, b41_132, b41_136, b41_137, b41_138, b41_144, b41_148, b41_149, b41_150, b41_156, b41_160, b41_161, b41_162, b41_168, b41_172, b41_173, b41_174, b41_180, b41_184, b41_185, b41_186, b41_190, b41_194, nLE0, layE3, hk, I32, ↓xb, xb, ps, lpad, lat, aok2, rd2, aaok, aav, alok, alen, aok, akk, csum, isLg, cmpI, clsE, Option.elim, eq_self, List.mem_cons, List.not_mem_nil, or_false, false_or, List.append_nil, List.nil_append, List.cons_append, List.append_eq, List.replicate, List.length_cons, List.length_nil, List.map_cons, List.map_nil, ↓reduceIte, reduceCtorEq, if_true, if_false, true_and, and_true, false_and, and_false, and_self, not_true_eq_false, not_false_eq_true, forall_const, true_implies, false_implies, implies_true, Nat.reduceAdd, Nat.reduceSub, Nat.reduceLT, Nat.reduceLeDiff, Nat.reduceEqDiff, Nat.reduceMul, Nat.reducePow, Nat.add_one_ne_zero, Nat.add_one_sub_one, Nat.add_zero, Nat.zero_add, Int.reduceLT, Int.reduceLE, Int.reduceNeg, Int.reduceAdd, Int.reduceSub, Int.reduceToNat, Int.reduceEq, Int.reduceMul, Int.reducePow, Int.cast_ofNat_Int, Int.toNat_natCast, ne_eq, Bool.false_eq_true, true_or, or_true, or_self, Nat.not_lt_zero, ite_e0, ite_e1, lc_lt, lc_ge, lc_gt, lc_le, lc_eq, Classical.not_not]
    with_reducible repeat' (first | (refine And.intro ?_ ?_) | intro _)
    all_goals try omega
    all_goals first | omega | exact q'
  · show CC G w w k (0, 0) 41 [vi 160, vl a, vl b] σ Q
    rw [bo_4] at q
    rcases Int.lt_trichotomy a b with h | h | h
    · rw [if_pos h] at q
      have lc := lx_lt h
      refine CC_vb ok41 (by decide) (sm3_ok G w) 60 [] (Nat.le_of_ble_eq_true rfl) ?_
      simp -implicitDefEqProofs only [↓b41_0, ↓b41_100, ↓b41_104, ↓b41_108, ↓b41_112, ↓b41_118, ↓b41_122, ↓b41_125, ↓b41_126, ↓b41_132, ↓b41_136, ↓b41_137, ↓b41_138, ↓b41_144, ↓b41_148, ↓b41_149, ↓b41_150, ↓b41_156, ↓b41_160, ↓b41_161, ↓b41_162, ↓b41_168, ↓b41_172, ↓b41_173, ↓b41_174, ↓b41_180, ↓b41_184, ↓b41_185, ↓b41_186, ↓b41_190, ↓b41_194, b41_0, b41_100, b41_104, b41_108, b41_112, b41_118, b41_122, b41_125, b41_126, b41_132, b41_136, b41_137, b41_138, b41_144, b41_148, b41_149, b41_150, b41_156, b41_160, b41_161, b41_162, b41_168, b41_172, b41_173, b41_174, b41_180, b41_184, b41_185, b41_186, b41_190, b41_194, nLE0, layE3, lc, I32, ↓xb, xb, ps, lpad, lat, aok2, rd2, aaok, aav, alok, alen, aok, akk, csum, isLg, cmpI, clsE, Option.elim, eq_self, List.mem_cons, List.not_mem_nil, or_false, false_or, List.append_nil, List.nil_append, List.cons_append, List.append_eq, List.replicate, List.length_cons, List.length_nil, List.map_cons, List.map_nil, ↓reduceIte, reduceCtorEq, if_true, if_false, true_and, and_true, false_and, and_false, and_self, not_true_eq_false, not_false_eq_true, forall_const, true_implies, false_implies, implies_true, Nat.reduceAdd, Nat.reduceSub, Nat.reduceLT, Nat.reduceLeDiff, Nat.reduceEqDiff, Nat.reduceMul, Nat.reducePow, Nat.add_one_ne_zero, Nat.add_one_sub_one, Nat.add_zero, Nat.zero_add, Int.reduceLT, Int.reduceLE, Int.reduceNeg, Int.reduceAdd, Int.reduceSub, Int.reduceToNat, Int.reduceEq, Int.reduceMul, Int.reducePow, Int.cast_ofNat_Int, Int.toNat_natCast, ne_eq, Bool.false_eq_true, true_or, or_true, or_self, Nat.not_lt_zero, ite_e0, ite_e1, lc_lt, lc_ge, lc_gt, lc_le, lc_eq, Classical.not_not]
      with_reducible repeat' (first | (refine And.intro ?_ ?_) | intro _)
      all_goals try omega
      all_goals first | omega | exact q
    · rw [if_neg (by omega)] at q
      have lc := lx_eq h
      refine CC_vb ok41 (by decide) (sm3_ok G w) 60 [] (Nat.le_of_ble_eq_true rfl) ?_
      simp -implicitDefEqProofs only [↓b41_0, ↓b41_100, ↓b41_104, ↓b41_108, ↓b41_112, ↓b41_118, ↓b41_122, ↓b41_125, ↓b41_126, ↓b41_132, ↓b41_136, ↓b41_137, ↓b41_138, ↓b41_144, ↓b41_148, ↓b41_149, ↓b41_150, ↓b41_156, ↓b41_160, ↓b41_161, ↓b41_162, ↓b41_168, ↓b41_172, ↓b41_173, ↓b41_174, ↓b41_180, ↓b41_184, ↓b41_185, ↓b41_186, ↓b41_190, ↓b41_194, b41_0, b41_100, b41_104, b41_108, b41_112, b41_118, b41_122, b41_125, b41_126, b41_132, b41_136, b41_137, b41_138, b41_144, b41_148, b41_149, b41_150, b41_156, b41_160, b41_161, b41_162, b41_168, b41_172, b41_173, b41_174, b41_180, b41_184, b41_185, b41_186, b41_190, b41_194, nLE0, layE3, lc, I32, ↓xb, xb, ps, lpad, lat, aok2, rd2, aaok, aav, alok, alen, aok, akk, csum, isLg, cmpI, clsE, Option.elim, eq_self, List.mem_cons, List.not_mem_nil, or_false, false_or, List.append_nil, List.nil_append, List.cons_append, List.append_eq, List.replicate, List.length_cons, List.length_nil, List.map_cons, List.map_nil, ↓reduceIte, reduceCtorEq, if_true, if_false, true_and, and_true, false_and, and_false, and_self, not_true_eq_false, not_false_eq_true, forall_const, true_implies, false_implies, implies_true, Nat.reduceAdd, Nat.reduceSub, Nat.reduceLT, Nat.reduceLeDiff, Nat.reduceEqDiff, Nat.reduceMul, Nat.reducePow, Nat.add_one_ne_zero, Nat.add_one_sub_one, Nat.add_zero, Nat.zero_add, Int.reduceLT, Int.reduceLE, Int.reduceNeg, Int.reduceAdd, Int.reduceSub, Int.reduceToNat, Int.reduceEq, Int.reduceMul, Int.reducePow, Int.cast_ofNat_Int, Int.toNat_natCast, ne_eq, Bool.false_eq_true, true_or, or_true, or_self, Nat.not_lt_zero, ite_e0, ite_e1, lc_lt, lc_ge, lc_gt, lc_le, lc_eq, Classical.not_not]
      with_reducible repeat' (first | (refine And.intro ?_ ?_) | intro _)
      all_goals try omega
      all_goals first | omega | exact q
    · rw [if_neg (by omega)] at q
      have lc := lx_gt h
      refine CC_vb ok41 (by decide) (sm3_ok G w) 60 [] (Nat.le_of_ble_eq_true rfl) ?_
      simp -implicitDefEqProofs only [↓b41_0, ↓b41_100, ↓b41_104, ↓b41_108, ↓b41_112, ↓b41_118, ↓b41_122, ↓b41_125, ↓b41_126, ↓b41_132, ↓b41_136, ↓b41_137, ↓b41_138, ↓b41_144, ↓b41_148, ↓b41_149, ↓b41_150, ↓b41_156, ↓b41_160, ↓b41_161, ↓b41_162, ↓b41_168, ↓b41_172, ↓b41_173, ↓b41_174, ↓b41_180, ↓b41_184, ↓b41_185, ↓b41_186, ↓b41_190, ↓b41_194, b41_0, b41_100, b41_104, b41_108, b41_112, b41_118, b41_122, b41_125, b41_126, b41_132, b41_136, b41_137, b41_138, b41_144, b41_148, b41_149, b41_150, b41_156, b41_160, b41_161, b41_162, b41_168, b41_172, b41_173, b41_174, b41_180, b41_184, b41_185, b41_186, b41_190, b41_194, nLE0, layE3, lc, I32, ↓xb, xb, ps, lpad, lat, aok2, rd2, aaok, aav, alok, alen, aok, akk, csum, isLg, cmpI, clsE, Option.elim, eq_self, List.mem_cons, List.not_mem_nil, or_false, false_or, List.append_nil, List.nil_append, List.cons_append, List.append_eq, List.replicate, List.length_cons, List.length_nil, List.map_cons, List.map_nil, ↓reduceIte, reduceCtorEq, if_true, if_false, true_and, and_true, false_and, and_false, and_self, not_true_eq_false, not_false_eq_true, forall_const, true_implies, false_implies, implies_true, Nat.reduceAdd, Nat.reduceSub, Nat.reduceLT, Nat.reduceLeDiff, Nat.reduceEqDiff, Nat.reduceMul, Nat.reducePow, Nat.add_one_ne_zero, Nat.add_one_sub_one, Nat.add_zero, Nat.zero_add, Int.reduceLT, Int.reduceLE, Int.reduceNeg, Int.reduceAdd, Int.reduceSub, Int.reduceToNat, Int.reduceEq, Int.reduceMul, Int.reducePow, Int.cast_ofNat_Int, Int.toNat_natCast, ne_eq, Bool.false_eq_true, true_or, or_true, or_self, Nat.not_lt_zero, ite_e0, ite_e1, lc_lt, lc_ge, lc_gt, lc_le, lc_eq, Classical.not_not]
      with_reducible repeat' (first | (refine And.intro ?_ ?_) | intro _)
      all_goals try omega
      all_goals first | omega | exact q
  · show CC G w w k (0, 0) 41 [vi 23, vl a, vl b] σ Q
    rw [bo_5] at q
    rcases Int.lt_trichotomy a b with h | h | h
    · rw [if_pos (by omega)] at q
      have lc := lx_lt h
      refine CC_vb ok41 (by decide) (sm3_ok G w) 60 [] (Nat.le_of_ble_eq_true rfl) ?_
      simp -implicitDefEqProofs only [↓b41_0, ↓b41_100, ↓b41_104, ↓b41_108, ↓b41_112, ↓b41_118, ↓b41_122, ↓b41_125, ↓b41_126, ↓b41_132, ↓b41_136, ↓b41_137, ↓b41_138, ↓b41_144, ↓b41_148, ↓b41_149, ↓b41_150, ↓b41_156, ↓b41_160, ↓b41_161, ↓b41_162, ↓b41_168, ↓b41_172, ↓b41_173, ↓b41_174, ↓b41_180, ↓b41_184, ↓b41_185, ↓b41_186, ↓b41_190, ↓b41_194, b41_0, b41_100, b41_104, b41_108, b41_112, b41_118, b41_122, b41_125, b41_126, b41_132, b41_136, b41_137, b41_138, b41_144, b41_148, b41_149, b41_150, b41_156, b41_160, b41_161, b41_162, b41_168, b41_172, b41_173, b41_174, b41_180, b41_184, b41_185, b41_186, b41_190, b41_194, nLE0, layE3, lc, I32, ↓xb, xb, ps, lpad, lat, aok2, rd2, aaok, aav, alok, alen, aok, akk, csum, isLg, cmpI, clsE, Option.elim, eq_self, List.mem_cons, List.not_mem_nil, or_false, false_or, List.append_nil, List.nil_append, List.cons_append, List.append_eq, List.replicate, List.length_cons, List.length_nil, List.map_cons, List.map_nil, ↓reduceIte, reduceCtorEq, if_true, if_false, true_and, and_true, false_and, and_false, and_self, not_true_eq_false, not_false_eq_true, forall_const, true_implies, false_implies, implies_true, Nat.reduceAdd, Nat.reduceSub, Nat.reduceLT, Nat.reduceLeDiff, Nat.reduceEqDiff, Nat.reduceMul, Nat.reducePow, Nat.add_one_ne_zero, Nat.add_one_sub_one, Nat.add_zero, Nat.zero_add, Int.reduceLT, Int.reduceLE, Int.reduceNeg, Int.reduceAdd, Int.reduceSub, Int.reduceToNat, Int.reduceEq, Int.reduceMul, Int.reducePow, Int.cast_ofNat_Int, Int.toNat_natCast, ne_eq, Bool.false_eq_true, true_or, or_true, or_self, Nat.not_lt_zero, ite_e0, ite_e1, lc_lt, lc_ge, lc_gt, lc_le, lc_eq, Classical.not_not]
      with_reducible repeat' (first | (refine And.intro ?_ ?_) | intro _)
      all_goals try omega
      all_goals first | omega | exact q
    · rw [if_pos (by omega)] at q
      have lc := lx_eq h
      refine CC_vb ok41 (by decide) (sm3_ok G w) 60 [] (Nat.le_of_ble_eq_true rfl) ?_
      simp -implicitDefEqProofs only [↓b41_0, ↓b41_100, ↓b41_104, ↓b41_108, ↓b41_112, ↓b41_118, ↓b41_122, ↓b41_125, ↓b41_126, ↓b41_132, ↓b41_136, ↓b41_137, ↓b41_138, ↓b41_144, ↓b41_148, ↓b41_149, ↓b41_150, ↓b41_156, ↓b41_160, ↓b41_161, ↓b41_162, ↓b41_168, ↓b41_172, ↓b41_173, ↓b41_174, ↓b41_180, ↓b41_184, ↓b41_185, ↓b41_186, ↓b41_190, ↓b41_194, b41_0, b41_100, b41_104, b41_108, b41_112, b41_118, b41_122, b41_125, b41_126, b41_132, b41_136, b41_137, b41_138, b41_144, b41_148, b41_149, b41_150, b41_156, b41_160, b41_161, b41_162, b41_168, b41_172, b41_173, b41_174, b41_180, b41_184, b41_185, b41_186, b41_190, b41_194, nLE0, layE3, lc, I32, ↓xb, xb, ps, lpad, lat, aok2, rd2, aaok, aav, alok, alen, aok, akk, csum, isLg, cmpI, clsE, Option.elim, eq_self, List.mem_cons, List.not_mem_nil, or_false, false_or, List.append_nil, List.nil_append, List.cons_append, List.append_eq, List.replicate, List.length_cons, List.length_nil, List.map_cons, List.map_nil, ↓reduceIte, reduceCtorEq, if_true, if_false, true_and, and_true, false_and, and_false, and_self, not_true_eq_false, not_false_eq_true, forall_const, true_implies, false_implies, implies_true, Nat.reduceAdd, Nat.reduceSub, Nat.reduceLT, Nat.reduceLeDiff, Nat.reduceEqDiff, Nat.reduceMul, Nat.reducePow, Nat.add_one_ne_zero, Nat.add_one_sub_one, Nat.add_zero, Nat.zero_add, Int.reduceLT, Int.reduceLE, Int.reduceNeg, Int.reduceAdd, Int.reduceSub, Int.reduceToNat, Int.reduceEq, Int.reduceMul, Int.reducePow, Int.cast_ofNat_Int, Int.toNat_natCast, ne_eq, Bool.false_eq_true, true_or, or_true, or_self, Nat.not_lt_zero, ite_e0, ite_e1, lc_lt, lc_ge, lc_gt, lc_le, lc_eq, Classical.not_not]
      with_reducible repeat' (first | (refine And.intro ?_ ?_) | intro _)
      all_goals try omega
      all_goals first | omega | exact q
    · rw [if_neg (by omega)] at q
      have lc := lx_gt h
      refine CC_vb ok41 (by decide) (sm3_ok G w) 60 [] (Nat.le_of_ble_eq_true rfl) ?_
      simp -implicitDefEqProofs only [↓b41_0, ↓b41_100, ↓b41_104, ↓b41_108, ↓b41_112, ↓b41_118, ↓b41_122, ↓b41_125, ↓b41_126, ↓b41_132, ↓b41_136, ↓b41_137, ↓b41_138, ↓b41_144, ↓b41_148, ↓b41_149, ↓b41_150, ↓b41_156, ↓b41_160, ↓b41_161, ↓b41_162, ↓b41_168, ↓b41_172, ↓b41_173, ↓b41_174, ↓b41_180, ↓b41_184, ↓b41_185, ↓b41_186, ↓b41_190, ↓b41_194, b41_0, b41_100, b41_104, b41_108, b41_112, b41_118, b41_122, b41_125, b41_126, b41_132, b41_136, b41_137, b41_138, b41_144, b41_148, b41_149, b41_150, b41_156, b41_160, b41_161, b41_162, b41_168, b41_172, b41_173, b41_174, b41_180, b41_184, b41_185, b41_186, b41_190, b41_194, nLE0, layE3, lc, I32, ↓xb, xb, ps, lpad, lat, aok2, rd2, aaok, aav, alok, alen, aok, akk, csum, isLg, cmpI, clsE, Option.elim, eq_self, List.mem_cons, List.not_mem_nil, or_false, false_or, List.append_nil, List.nil_append, List.cons_append, List.append_eq, List.replicate, List.length_cons, List.length_nil, List.map_cons, List.map_nil, ↓reduceIte, reduceCtorEq, if_true, if_false, true_and, and_true, false_and, and_false, and_self, not_true_eq_false, not_false_eq_true, forall_const, true_implies, false_implies, implies_true, Nat.reduceAdd, Nat.reduceSub, Nat.reduceLT, Nat.reduceLeDiff, Nat.reduceEqDiff, Nat.reduceMul, Nat.reducePow, Nat.add_one_ne_zero, Nat.add_one_sub_one, Nat.add_zero, Nat.zero_add, Int.reduceLT, Int.reduceLE, Int.reduceNeg, Int.reduceAdd, Int.reduceSub, Int.reduceToNat, Int.reduceEq, Int.reduceMul, Int.reducePow, Int.cast_ofNat_Int, Int.toNat_natCast, ne_eq, Bool.false_eq_true, true_or, or_true, or_self, Nat.not_lt_zero, ite_e0, ite_e1, lc_lt, lc_ge, lc_gt, lc_le, lc_eq, Classical.not_not]
      with_reducible repeat' (first | (refine And.intro ?_ ?_) | intro _)
      all_goals try omega
      all_goals first | omega | exact q
  · show CC G w w k (0, 0) 41 [vi 161, vl a, vl b] σ Q
    rw [bo_6] at q
    rcases Int.lt_trichotomy a b with h | h | h
    · rw [if_neg (by omega)] at q
      have lc := lx_lt h
      refine CC_vb ok41 (by decide) (sm3_ok G w) 60 [] (Nat.le_of_ble_eq_true rfl) ?_
      simp -implicitDefEqProofs only [↓b41_0, ↓b41_100, ↓b41_104, ↓b41_108, ↓b41_112, ↓b41_118, ↓b41_122, ↓b41_125, ↓b41_126, ↓b41_132, ↓b41_136, ↓b41_137, ↓b41_138, ↓b41_144, ↓b41_148, ↓b41_149, ↓b41_150, ↓b41_156, ↓b41_160, ↓b41_161, ↓b41_162, ↓b41_168, ↓b41_172, ↓b41_173, ↓b41_174, ↓b41_180, ↓b41_184, ↓b41_185, ↓b41_186, ↓b41_190, ↓b41_194, b41_0, b41_100, b41_104, b41_108, b41_112, b41_118, b41_122, b41_125, b41_126, b41_132, b41_136, b41_137, b41_138, b41_144, b41_148, b41_149, b41_150, b41_156, b41_160, b41_161, b41_162, b41_168, b41_172, b41_173, b41_174, b41_180, b41_184, b41_185, b41_186, b41_190, b41_194, nLE0, layE3, lc, I32, ↓xb, xb, ps, lpad, lat, aok2, rd2, aaok, aav, alok, alen, aok, akk, csum, isLg, cmpI, clsE, Option.elim, eq_self, List.mem_cons, List.not_mem_nil, or_false, false_or, List.append_nil, List.nil_append, List.cons_append, List.append_eq, List.replicate, List.length_cons, List.length_nil, List.map_cons, List.map_nil, ↓reduceIte, reduceCtorEq, if_true, if_false, true_and, and_true, false_and, and_false, and_self, not_true_eq_false, not_false_eq_true, forall_const, true_implies, false_implies, implies_true, Nat.reduceAdd, Nat.reduceSub, Nat.reduceLT, Nat.reduceLeDiff, Nat.reduceEqDiff, Nat.reduceMul, Nat.reducePow, Nat.add_one_ne_zero, Nat.add_one_sub_one, Nat.add_zero, Nat.zero_add, Int.reduceLT, Int.reduceLE, Int.reduceNeg, Int.reduceAdd, Int.reduceSub, Int.reduceToNat, Int.reduceEq, Int.reduceMul, Int.reducePow, Int.cast_ofNat_Int, Int.toNat_natCast, ne_eq, Bool.false_eq_true, true_or, or_true, or_self, Nat.not_lt_zero, ite_e0, ite_e1, lc_lt, lc_ge, lc_gt, lc_le, lc_eq, Classical.not_not]
      with_reducible repeat' (first | (refine And.intro ?_ ?_) | intro _)
      all_goals try omega
      all_goals first | omega | exact q
    · rw [if_pos h] at q
      have lc := lx_eq h
      refine CC_vb ok41 (by decide) (sm3_ok G w) 60 [] (Nat.le_of_ble_eq_true rfl) ?_
      simp -implicitDefEqProofs only [↓b41_0, ↓b41_100, ↓b41_104, ↓b41_108, ↓b41_112, ↓b41_118, ↓b41_122, ↓b41_125, ↓b41_126, ↓b41_132, ↓b41_136, ↓b41_137, ↓b41_138, ↓b41_144, ↓b41_148, ↓b41_149, ↓b41_150, ↓b41_156, ↓b41_160, ↓b41_161, ↓b41_162, ↓b41_168, ↓b41_172, ↓b41_173, ↓b41_174, ↓b41_180, ↓b41_184, ↓b41_185, ↓b41_186, ↓b41_190, ↓b41_194, b41_0, b41_100, b41_104, b41_108, b41_112, b41_118, b41_122, b41_125, b41_126, b41_132, b41_136, b41_137, b41_138, b41_144, b41_148, b41_149, b41_150, b41_156, b41_160, b41_161, b41_162, b41_168, b41_172, b41_173, b41_174, b41_180, b41_184, b41_185, b41_186, b41_190, b41_194, nLE0, layE3, lc, I32, ↓xb, xb, ps, lpad, lat, aok2, rd2, aaok, aav, alok, alen, aok, akk, csum, isLg, cmpI, clsE, Option.elim, eq_self, List.mem_cons, List.not_mem_nil, or_false, false_or, List.append_nil, List.nil_append, List.cons_append, List.append_eq, List.replicate, List.length_cons, List.length_nil, List.map_cons, List.map_nil, ↓reduceIte, reduceCtorEq, if_true, if_false, true_and, and_true, false_and, and_false, and_self, not_true_eq_false, not_false_eq_true, forall_const, true_implies, false_implies, implies_true, Nat.reduceAdd, Nat.reduceSub, Nat.reduceLT, Nat.reduceLeDiff, Nat.reduceEqDiff, Nat.reduceMul, Nat.reducePow, Nat.add_one_ne_zero, Nat.add_one_sub_one, Nat.add_zero, Nat.zero_add, Int.reduceLT, Int.reduceLE, Int.reduceNeg, Int.reduceAdd, Int.reduceSub, Int.reduceToNat, Int.reduceEq, Int.reduceMul, Int.reducePow, Int.cast_ofNat_Int, Int.toNat_natCast, ne_eq, Bool.false_eq_true, true_or, or_true, or_self, Nat.not_lt_zero, ite_e0, ite_e1, lc_lt, lc_ge, lc_gt, lc_le, lc_eq, Classical.not_not]
      with_reducible repeat' (first | (refine And.intro ?_ ?_) | intro _)
      all_goals try omega
      all_goals first | omega | exact q
    · rw [if_neg (by omega)] at q
      have lc := lx_gt h
      refine CC_vb ok41 (by decide) (sm3_ok G w) 60 [] (Nat.le_of_ble_eq_true rfl) ?_
      simp -implicitDefEqProofs only [↓b41_0, ↓b41_100, ↓b41_104, ↓b41_108, ↓b41_112, ↓b41_118, ↓b41_122, ↓b41_125, ↓b41_126, ↓b41_132, ↓b41_136, ↓b41_137, ↓b41_138, ↓b41_144, ↓b41_148, ↓b41_149, ↓b41_150, ↓b41_156, ↓b41_160, ↓b41_161, ↓b41_162, ↓b41_168, ↓b41_172, ↓b41_173, ↓b41_174, ↓b41_180, ↓b41_184, ↓b41_185, ↓b41_186, ↓b41_190, ↓b41_194, b41_0, b41_100, b41_104, b41_108, b41_112, b41_118, b41_122, b41_125, b41_126, b41_132, b41_136, b41_137, b41_138, b41_144, b41_148, b41_149, b41_150, b41_156, b41_160, b41_161, b41_162, b41_168, b41_172, b41_173, b41_174, b41_180, b41_184, b41_185, b41_186, b41_190, b41_194, nLE0, layE3, lc, I32, ↓xb, xb, ps, lpad, lat, aok2, rd2, aaok, aav, alok, alen, aok, akk, csum, isLg, cmpI, clsE, Option.elim, eq_self, List.mem_cons, List.not_mem_nil, or_false, false_or, List.append_nil, List.nil_append, List.cons_append, List.append_eq, List.replicate, List.length_cons, List.length_nil, List.map_cons, List.map_nil, ↓reduceIte, reduceCtorEq, if_true, if_false, true_and, and_true, false_and, and_false, and_self, not_true_eq_false, not_false_eq_true, forall_const, true_implies, false_implies, implies_true, Nat.reduceAdd, Nat.reduceSub, Nat.reduceLT, Nat.reduceLeDiff, Nat.reduceEqDiff, Nat.reduceMul, Nat.reducePow, Nat.add_one_ne_zero, Nat.add_one_sub_one, Nat.add_zero, Nat.zero_add, Int.reduceLT, Int.reduceLE, Int.reduceNeg, Int.reduceAdd, Int.reduceSub, Int.reduceToNat, Int.reduceEq, Int.reduceMul, Int.reducePow, Int.cast_ofNat_Int, Int.toNat_natCast, ne_eq, Bool.false_eq_true, true_or, or_true, or_self, Nat.not_lt_zero, ite_e0, ite_e1, lc_lt, lc_ge, lc_gt, lc_le, lc_eq, Classical.not_not]
      with_reducible repeat' (first | (refine And.intro ?_ ?_) | intro _)
      all_goals try omega
      all_goals first | omega | exact q
  · show CC G w w k (0, 0) 41 [vi 24, vl a, vl b] σ Q
    rw [bo_7] at q
    rcases Int.lt_trichotomy a b with h | h | h
    · rw [if_neg (by omega)] at q
      have lc := lx_lt h
      refine CC_vb ok41 (by decide) (sm3_ok G w) 60 [] (Nat.le_of_ble_eq_true rfl) ?_
      simp -implicitDefEqProofs only [↓b41_0, ↓b41_100, ↓b41_104, ↓b41_108, ↓b41_112, ↓b41_118, ↓b41_122, ↓b41_125, ↓b41_126, ↓b41_132, ↓b41_136, ↓b41_137, ↓b41_138, ↓b41_144, ↓b41_148, ↓b41_149, ↓b41_150, ↓b41_156, ↓b41_160, ↓b41_161, ↓b41_162, ↓b41_168, ↓b41_172, ↓b41_173, ↓b41_174, ↓b41_180, ↓b41_184, ↓b41_185, ↓b41_186, ↓b41_190, ↓b41_194, b41_0, b41_100, b41_104, b41_108, b41_112, b41_118, b41_122, b41_125, b41_126, b41_132, b41_136, b41_137, b41_138, b41_144, b41_148, b41_149, b41_150, b41_156, b41_160, b41_161, b41_162, b41_168, b41_172, b41_173, b41_174, b41_180, b41_184, b41_185, b41_186, b41_190, b41_194, nLE0, layE3, lc, I32, ↓xb, xb, ps, lpad, lat, aok2, rd2, aaok, aav, alok, alen, aok, akk, csum, isLg, cmpI, clsE, Option.elim, eq_self, List.mem_cons, List.not_mem_nil, or_false, false_or, List.append_nil, List.nil_append, List.cons_append, List.append_eq, List.replicate, List.length_cons, List.length_nil, List.map_cons, List.map_nil, ↓reduceIte, reduceCtorEq, if_true, if_false, true_and, and_true, false_and, and_false, and_self, not_true_eq_false, not_false_eq_true, forall_const, true_implies, false_implies, implies_true, Nat.reduceAdd, Nat.reduceSub, Nat.reduceLT, Nat.reduceLeDiff, Nat.reduceEqDiff, Nat.reduceMul, Nat.reducePow, Nat.add_one_ne_zero, Nat.add_one_sub_one, Nat.add_zero, Nat.zero_add, Int.reduceLT, Int.reduceLE, Int.reduceNeg, Int.reduceAdd, Int.reduceSub, Int.reduceToNat, Int.reduceEq, Int.reduceMul, Int.reducePow, Int.cast_ofNat_Int, Int.toNat_natCast, ne_eq, Bool.false_eq_true, true_or, or_true, or_self, Nat.not_lt_zero, ite_e0, ite_e1, lc_lt, lc_ge, lc_gt, lc_le, lc_eq, Classical.not_not]
      with_reducible repeat' (first | (refine And.intro ?_ ?_) | intro _)
      all_goals try omega
      all_goals first | omega | exact q
    · rw [if_pos (by omega)] at q
      have lc := lx_eq h
      refine CC_vb ok41 (by decide) (sm3_ok G w) 60 [] (Nat.le_of_ble_eq_true rfl) ?_
      simp -implicitDefEqProofs only [↓b41_0, ↓b41_100, ↓b41_104, ↓b41_108, ↓b41_112, ↓b41_118, ↓b41_122, ↓b41_125, ↓b41_126, ↓b41_132, ↓b41_136, ↓b41_137, ↓b41_138, ↓b41_144, ↓b41_148, ↓b41_149, ↓b41_150, ↓b41_156, ↓b41_160, ↓b41_161, ↓b41_162, ↓b41_168, ↓b41_172, ↓b41_173, ↓b41_174, ↓b41_180, ↓b41_184, ↓b41_185, ↓b41_186, ↓b41_190, ↓b41_194, b41_0, b41_100, b41_104, b41_108, b41_112, b41_118, b41_122, b41_125, b41_126, b41_132, b41_136, b41_137, b41_138, b41_144, b41_148, b41_149, b41_150, b41_156, b41_160, b41_161, b41_162, b41_168, b41_172, b41_173, b41_174, b41_180, b41_184, b41_185, b41_186, b41_190, b41_194, nLE0, layE3, lc, I32, ↓xb, xb, ps, lpad, lat, aok2, rd2, aaok, aav, alok, alen, aok, akk, csum, isLg, cmpI, clsE, Option.elim, eq_self, List.mem_cons, List.not_mem_nil, or_false, false_or, List.append_nil, List.nil_append, List.cons_append, List.append_eq, List.replicate, List.length_cons, List.length_nil, List.map_cons, List.map_nil, ↓reduceIte, reduceCtorEq, if_true, if_false, true_and, and_true, false_and, and_false, and_self, not_true_eq_false, not_false_eq_true, forall_const, true_implies, false_implies, implies_true, Nat.reduceAdd, Nat.reduceSub, Nat.reduceLT, Nat.reduceLeDiff, Nat.reduceEqDiff, Nat.reduceMul, Nat.reducePow, Nat.add_one_ne_zero, Nat.add_one_sub_one, Nat.add_zero, Nat.zero_add, Int.reduceLT, Int.reduceLE, Int.reduceNeg, Int.reduceAdd, Int.reduceSub, Int.reduceToNat, Int.reduceEq, Int.reduceMul, Int.reducePow, Int.cast_ofNat_Int, Int.toNat_natCast, ne_eq, Bool.false_eq_true, true_or, or_true, or_self, Nat.not_lt_zero, ite_e0, ite_e1, lc_lt, lc_ge, lc_gt, lc_le, lc_eq, Classical.not_not]
      with_reducible repeat' (first | (refine And.intro ?_ ?_) | intro _)
      all_goals try omega
      all_goals first | omega | exact q
    · rw [if_pos (by omega)] at q
      have lc := lx_gt h
      refine CC_vb ok41 (by decide) (sm3_ok G w) 60 [] (Nat.le_of_ble_eq_true rfl) ?_
      simp -implicitDefEqProofs only [↓b41_0, ↓b41_100, ↓b41_104, ↓b41_108, ↓b41_112, ↓b41_118, ↓b41_122, ↓b41_125, ↓b41_126, ↓b41_132, ↓b41_136, ↓b41_137, ↓b41_138, ↓b41_144, ↓b41_148, ↓b41_149, ↓b41_150, ↓b41_156, ↓b41_160, ↓b41_161, ↓b41_162, ↓b41_168, ↓b41_172, ↓b41_173, ↓b41_174, ↓b41_180, ↓b41_184, ↓b41_185, ↓b41_186, ↓b41_190, ↓b41_194, b41_0, b41_100, b41_104, b41_108, b41_112, b41_118, b41_122, b41_125, b41_126, b41_132, b41_136, b41_137, b41_138, b41_144, b41_148, b41_149, b41_150, b41_156, b41_160, b41_161, b41_162, b41_168, b41_172, b41_173, b41_174, b41_180, b41_184, b41_185, b41_186, b41_190, b41_194, nLE0, layE3, lc, I32, ↓xb, xb, ps, lpad, lat, aok2, rd2, aaok, aav, alok, alen, aok, akk, csum, isLg, cmpI, clsE, Option.elim, eq_self, List.mem_cons, List.not_mem_nil, or_false, false_or, List.append_nil, List.nil_append, List.cons_append, List.append_eq, List.replicate, List.length_cons, List.length_nil, List.map_cons, List.map_nil, ↓reduceIte, reduceCtorEq, if_true, if_false, true_and, and_true, false_and, and_false, and_self, not_true_eq_false, not_false_eq_true, forall_const, true_implies, false_implies, implies_true, Nat.reduceAdd, Nat.reduceSub, Nat.reduceLT, Nat.reduceLeDiff, Nat.reduceEqDiff, Nat.reduceMul, Nat.reducePow, Nat.add_one_ne_zero, Nat.add_one_sub_one, Nat.add_zero, Nat.zero_add, Int.reduceLT, Int.reduceLE, Int.reduceNeg, Int.reduceAdd, Int.reduceSub, Int.reduceToNat, Int.reduceEq, Int.reduceMul, Int.reducePow, Int.cast_ofNat_Int, Int.toNat_natCast, ne_eq, Bool.false_eq_true, true_or, or_true, or_self, Nat.not_lt_zero, ite_e0, ite_e1, lc_lt, lc_ge, lc_gt, lc_le, lc_eq, Classical.not_not]
      with_reducible repeat' (first | (refine And.intro ?_ ?_) | intro _)
      all_goals try omega
      all_goals first | omega | exact q
  · show CC G w w k (0, 0) 41 [vi 162, vl a, vl b] σ Q
    rw [bo_8] at q
    rcases Int.lt_trichotomy a b with h | h | h
    · rw [if_neg (by omega)] at q
      have lc := lx_lt h
      refine CC_vb ok41 (by decide) (sm3_ok G w) 60 [] (Nat.le_of_ble_eq_true rfl) ?_
      simp -implicitDefEqProofs only [↓b41_0, ↓b41_100, ↓b41_104, ↓b41_108, ↓b41_112, ↓b41_118, ↓b41_122, ↓b41_125, ↓b41_126, ↓b41_132, ↓b41_136, ↓b41_137, ↓b41_138, ↓b41_144, ↓b41_148, ↓b41_149, ↓b41_150, ↓b41_156, ↓b41_160, ↓b41_161, ↓b41_162, ↓b41_168, ↓b41_172, ↓b41_173, ↓b41_174, ↓b41_180, ↓b41_184, ↓b41_185, ↓b41_186, ↓b41_190, ↓b41_194, b41_0, b41_100, b41_104, b41_108, b41_112, b41_118, b41_122, b41_125, b41_126, b41_132, b41_136, b41_137, b41_138, b41_144, b41_148, b41_149, b41_150, b41_156, b41_160, b41_161, b41_162, b41_168, b41_172, b41_173, b41_174, b41_180, b41_184, b41_185, b41_186, b41_190, b41_194, nLE0, layE3, lc, I32, ↓xb, xb, ps, lpad, lat, aok2, rd2, aaok, aav, alok, alen, aok, akk, csum, isLg, cmpI, clsE, Option.elim, eq_self, List.mem_cons, List.not_mem_nil, or_false, false_or, List.append_nil, List.nil_append, List.cons_append, List.append_eq, List.replicate, List.length_cons, List.length_nil, List.map_cons, List.map_nil, ↓reduceIte, reduceCtorEq, if_true, if_false, true_and, and_true, false_and, and_false, and_self, not_true_eq_false, not_false_eq_true, forall_const, true_implies, false_implies, implies_true, Nat.reduceAdd, Nat.reduceSub, Nat.reduceLT, Nat.reduceLeDiff, Nat.reduceEqDiff, Nat.reduceMul, Nat.reducePow, Nat.add_one_ne_zero, Nat.add_one_sub_one, Nat.add_zero, Nat.zero_add, Int.reduceLT, Int.reduceLE, Int.reduceNeg, Int.reduceAdd, Int.reduceSub, Int.reduceToNat, Int.reduceEq, Int.reduceMul, Int.reducePow, Int.cast_ofNat_Int, Int.toNat_natCast, ne_eq, Bool.false_eq_true, true_or, or_true, or_self, Nat.not_lt_zero, ite_e0, ite_e1, lc_lt, lc_ge, lc_gt, lc_le, lc_eq, Classical.not_not]
      with_reducible repeat' (first | (refine And.intro ?_ ?_) | intro _)
      all_goals try omega
      all_goals first | omega | exact q
    · rw [if_neg (by omega)] at q
      have lc := lx_eq h
      refine CC_vb ok41 (by decide) (sm3_ok G w) 60 [] (Nat.le_of_ble_eq_true rfl) ?_
      simp -implicitDefEqProofs only [↓b41_0, ↓b41_100, ↓b41_104, ↓b41_108, ↓b41_112, ↓b41_118, ↓b41_122, ↓b41_125, ↓b41_126, ↓b41_132, ↓b41_136, ↓b41_137, ↓b41_138, ↓b41_144, ↓b41_148, ↓b41_149, ↓b41_150, ↓b41_156, ↓b41_160, ↓b41_161, ↓b41_162, ↓b41_168, ↓b41_172, ↓b41_173, ↓b41_174, ↓b41_180, ↓b41_184, ↓b41_185, ↓b41_186, ↓b41_190, ↓b41_194, b41_0, b41_100, b41_104, b41_108, b41_112, b41_118, b41_122, b41_125, b41_126, b41_132, b41_136, b41_137, b41_138, b41_144, b41_148, b41_149, b41_150, b41_156, b41_160, b41_161, b41_162, b41_168, b41_172, b41_173, b41_174, b41_180, b41_184, b41_185, b41_186, b41_190, b41_194, nLE0, layE3, lc, I32, ↓xb, xb, ps, lpad, lat, aok2, rd2, aaok, aav, alok, alen, aok, akk, csum, isLg, cmpI, clsE, Option.elim, eq_self, List.mem_cons, List.not_mem_nil, or_false, false_or, List.append_nil, List.nil_append, List.cons_append, List.append_eq, List.replicate, List.length_cons, List.length_nil, List.map_cons, List.map_nil, ↓reduceIte, reduceCtorEq, if_true, if_false, true_and, and_true, false_and, and_false, and_self, not_true_eq_false, not_false_eq_true, forall_const, true_implies, false_implies, implies_true, Nat.reduceAdd, Nat.reduceSub, Nat.reduceLT, Nat.reduceLeDiff, Nat.reduceEqDiff, Nat.reduceMul, Nat.reducePow, Nat.add_one_ne_zero, Nat.add_one_sub_one, Nat.add_zero, Nat.zero_add, Int.reduceLT, Int.reduceLE, Int.reduceNeg, Int.reduceAdd, Int.reduceSub, Int.reduceToNat, Int.reduceEq, Int.reduceMul, Int.reducePow, Int.cast_ofNat_Int, Int.toNat_natCast, ne_eq, Bool.false_eq_true, true_or, or_true, or_self, Nat.not_lt_zero, ite_e0, ite_e1, lc_lt, lc_ge, lc_gt, lc_le, lc_eq, Classical.not_not]
      with_reducible repeat' (first | (refine And.intro ?_ ?_) | intro _)
      all_goals try omega
      all_goals first | omega | exact q
    · rw [if_pos h] at q
      have lc := lx_gt h
      refine CC_vb ok41 (by decide) (sm3_ok G w) 60 [] (Nat.le_of_ble_eq_true rfl) ?_
      simp -implicitDefEqProofs only [↓b41_0, ↓b41_100, ↓b41_104, ↓b41_108, ↓b41_112, ↓b41_118, ↓b41_122, ↓b41_125, ↓b41_126, ↓b41_132, ↓b41_136, ↓b41_137, ↓b41_138, ↓b41_144, ↓b41_148, ↓b41_149, ↓b41_150, ↓b41_156, ↓b41_160, ↓b41_161, ↓b41_162, ↓b41_168, ↓b41_172, ↓b41_173, ↓b41_174, ↓b41_180, ↓b41_184, ↓b41_185, ↓b41_186, ↓b41_190, ↓b41_194, b41_0, b41_100, b41_104, b41_108, b41_112, b41_118, b41_122, b41_125, b41_126, b41_132, b41_136, b41_137, b41_138, b41_144, b41_148, b41_149, b41_150, b41_156, b41_160, b41_161, b41_162, b41_168, b41_172, b41_173, b41_174, b41_180, b41_184, b41_185, b41_186, b41_190, b41_194, nLE0, layE3, lc, I32, ↓xb, xb, ps, lpad, lat, aok2, rd2, aaok, aav, alok, alen, aok, akk, csum, isLg, cmpI, clsE, Option.elim, eq_self, List.mem_cons, List.not_mem_nil, or_false, false_or, List.append_nil, List.nil_append, List.cons_append, List.append_eq, List.replicate, List.length_cons, List.length_nil, List.map_cons, List.map_nil, ↓reduceIte, reduceCtorEq, if_true, if_false, true_and, and_true, false_and, and_false, and_self, not_true_eq_false, not_false_eq_true, forall_const, true_implies, false_implies, implies_true, Nat.reduceAdd, Nat.reduceSub, Nat.reduceLT, Nat.reduceLeDiff, Nat.reduceEqDiff, Nat.reduceMul, Nat.reducePow, Nat.add_one_ne_zero, Nat.add_one_sub_one, Nat.add_zero, Nat.zero_add, Int.reduceLT, Int.reduceLE, Int.reduceNeg, Int.reduceAdd, Int.reduceSub, Int.reduceToNat, Int.reduceEq, Int.reduceMul, Int.reducePow, Int.cast_ofNat_Int, Int.toNat_natCast, ne_eq, Bool.false_eq_true, true_or, or_true, or_self, Nat.not_lt_zero, ite_e0, ite_e1, lc_lt, lc_ge, lc_gt, lc_le, lc_eq, Classical.not_not]
      with_reducible repeat' (first | (refine And.intro ?_ ?_) | intro _)
      all_goals try omega
      all_goals first | omega | exact q
  · have q' : Q (some (vl (land64 a b))) σ := q
    show CC G w w k (0, 0) 41 [vi 20, vl a, vl b] σ Q
    refine CC_vb ok41 (by decide) (sm3_ok G w) 60 [] (Nat.le_of_ble_eq_true rfl) ?_
    simp -implicitDefEqProofs only [↓b41_0, ↓b41_100, ↓b41_104, ↓b41_108, ↓b41_112, ↓b41_118, ↓b41_122, ↓b41_125, ↓b41_126, ↓b41_132, ↓b41_136, ↓b41_137, ↓b41_138, ↓b41_144, ↓b41_148, ↓b41_149, ↓b41_150, ↓b41_156, ↓b41_160, ↓b41_161, ↓b41_162, ↓b41_168, ↓b41_172, ↓b41_173, ↓b41_174, ↓b41_180, ↓b41_184, ↓b41_185, ↓b41_186, ↓b41_190, ↓b41_194, b41_0, b41_100, b41_104, b41_108, b41_112, b41_118, b41_122, b41_125, b41_126, b41_132, b41_136, b41_137, b41_138, b41_144, b41_148, b41_149, b41_150, b41_156, b41_160, b41_161, b41_162, b41_168, b41_172, b41_173, b41_174, b41_180, b41_184, b41_185, b41_186, b41_190, b41_194, nLE0, layE3, hk, I32, ↓xb, xb, ps, lpad, lat, aok2, rd2, aaok, aav, alok, alen, aok, akk, csum, isLg, cmpI, clsE, Option.elim, eq_self, List.mem_cons, List.not_mem_nil, or_false, false_or, List.append_nil, List.nil_append, List.cons_append, List.append_eq, List.replicate, List.length_cons, List.length_nil, List.map_cons, List.map_nil, ↓reduceIte, reduceCtorEq, if_true, if_false, true_and, and_true, false_and, and_false, and_self, not_true_eq_false, not_false_eq_true, forall_const, true_implies, false_implies, implies_true, Nat.reduceAdd, Nat.reduceSub, Nat.reduceLT, Nat.reduceLeDiff, Nat.reduceEqDiff, Nat.reduceMul, Nat.reducePow, Nat.add_one_ne_zero, Nat.add_one_sub_one, Nat.add_zero, Nat.zero_add, Int.reduceLT, Int.reduceLE, Int.reduceNeg, Int.reduceAdd, Int.reduceSub, Int.reduceToNat, Int.reduceEq, Int.reduceMul, Int.reducePow, Int.cast_ofNat_Int, Int.toNat_natCast, ne_eq, Bool.false_eq_true, true_or, or_true, or_self, Nat.not_lt_zero, ite_e0, ite_e1, lc_lt, lc_ge, lc_gt, lc_le, lc_eq, Classical.not_not]
    with_reducible repeat' (first | (refine And.intro ?_ ?_) | intro _)
    all_goals try omega
    all_goals first | omega | exact q'
  · have q' : Q (some (vl (lor64 a b))) σ := q
    show CC G w w k (0, 0) 41 [vi 21, vl a, vl b] σ Q
    refine CC_vb ok41 (by decide) (sm3_ok G w) 60 [] (Nat.le_of_ble_eq_true rfl) ?_
    simp -implicitDefEqProofs only [↓b41_0, ↓b41_100, ↓b41_104, ↓b41_108, ↓b41_112, ↓b41_118, ↓b41_122, ↓b41_125, ↓b41_126, ↓b41_132, ↓b41_136, ↓b41_137, ↓b41_138, ↓b41_144, ↓b41_148, ↓b41_149, ↓b41_150, ↓b41_156, ↓b41_160, ↓b41_161, ↓b41_162, ↓b41_168, ↓b41_172, ↓b41_173, ↓b41_174, ↓b41_180, ↓b41_184, ↓b41_185, ↓b41_186, ↓b41_190, ↓b41_194, b41_0, b41_100, b41_104, b41_108, b41_112, b41_118, b41_122, b41_125, b41_126, b41_132, b41_136, b41_137, b41_138, b41_144, b41_148, b41_149, b41_150, b41_156, b41_160, b41_161, b41_162, b41_168, b41_172, b41_173, b41_174, b41_180, b41_184, b41_185, b41_186, b41_190, b41_194, nLE0, layE3, hk, I32, ↓xb, xb, ps, lpad, lat, aok2, rd2, aaok, aav, alok, alen, aok, akk, csum, isLg, cmpI, clsE, Option.elim, eq_self, List.mem_cons, List.not_mem_nil, or_false, false_or, List.append_nil, List.nil_append, List.cons_append, List.append_eq, List.replicate, List.length_cons, List.length_nil, List.map_cons, List.map_nil, ↓reduceIte, reduceCtorEq, if_true, if_false, true_and, and_true, false_and, and_false, and_self, not_true_eq_false, not_false_eq_true, forall_const, true_implies, false_implies, implies_true, Nat.reduceAdd, Nat.reduceSub, Nat.reduceLT, Nat.reduceLeDiff, Nat.reduceEqDiff, Nat.reduceMul, Nat.reducePow, Nat.add_one_ne_zero, Nat.add_one_sub_one, Nat.add_zero, Nat.zero_add, Int.reduceLT, Int.reduceLE, Int.reduceNeg, Int.reduceAdd, Int.reduceSub, Int.reduceToNat, Int.reduceEq, Int.reduceMul, Int.reducePow, Int.cast_ofNat_Int, Int.toNat_natCast, ne_eq, Bool.false_eq_true, true_or, or_true, or_self, Nat.not_lt_zero, ite_e0, ite_e1, lc_lt, lc_ge, lc_gt, lc_le, lc_eq, Classical.not_not]
    with_reducible repeat' (first | (refine And.intro ?_ ?_) | intro _)
    all_goals try omega
    all_goals first | omega | exact q'
  · have q' : Q (some (vl (w64 (a * b)))) σ := q
    show CC G w w k (0, 0) 41 [vi 142, vl a, vl b] σ Q
    refine CC_vb ok41 (by decide) (sm3_ok G w) 60 [] (Nat.le_of_ble_eq_true rfl) ?_
    simp -implicitDefEqProofs only [↓b41_0, ↓b41_100, ↓b41_104, ↓b41_108, ↓b41_112, ↓b41_118, ↓b41_122, ↓b41_125, ↓b41_126, ↓b41_132, ↓b41_136, ↓b41_137, ↓b41_138, ↓b41_144, ↓b41_148, ↓b41_149, ↓b41_150, ↓b41_156, ↓b41_160, ↓b41_161, ↓b41_162, ↓b41_168, ↓b41_172, ↓b41_173, ↓b41_174, ↓b41_180, ↓b41_184, ↓b41_185, ↓b41_186, ↓b41_190, ↓b41_194, b41_0, b41_100, b41_104, b41_108, b41_112, b41_118, b41_122, b41_125, b41_126, b41_132, b41_136, b41_137, b41_138, b41_144, b41_148, b41_149, b41_150, b41_156, b41_160, b41_161, b41_162, b41_168, b41_172, b41_173, b41_174, b41_180, b41_184, b41_185, b41_186, b41_190, b41_194, nLE0, layE3, hk, I32, ↓xb, xb, ps, lpad, lat, aok2, rd2, aaok, aav, alok, alen, aok, akk, csum, isLg, cmpI, clsE, Option.elim, eq_self, List.mem_cons, List.not_mem_nil, or_false, false_or, List.append_nil, List.nil_append, List.cons_append, List.append_eq, List.replicate, List.length_cons, List.length_nil, List.map_cons, List.map_nil, ↓reduceIte, reduceCtorEq, if_true, if_false, true_and, and_true, false_and, and_false, and_self, not_true_eq_false, not_false_eq_true, forall_const, true_implies, false_implies, implies_true, Nat.reduceAdd, Nat.reduceSub, Nat.reduceLT, Nat.reduceLeDiff, Nat.reduceEqDiff, Nat.reduceMul, Nat.reducePow, Nat.add_one_ne_zero, Nat.add_one_sub_one, Nat.add_zero, Nat.zero_add, Int.reduceLT, Int.reduceLE, Int.reduceNeg, Int.reduceAdd, Int.reduceSub, Int.reduceToNat, Int.reduceEq, Int.reduceMul, Int.reducePow, Int.cast_ofNat_Int, Int.toNat_natCast, ne_eq, Bool.false_eq_true, true_or, or_true, or_self, Nat.not_lt_zero, ite_e0, ite_e1, lc_lt, lc_ge, lc_gt, lc_le, lc_eq, Classical.not_not]
    with_reducible repeat' (first | (refine And.intro ?_ ?_) | intro _)
    all_goals try omega
    all_goals first | omega | exact q'
  · have q' : Q (some (vl (if b = 0 then 0 else w64 (Int.tdiv a b)))) σ := q
    show CC G w w k (0, 0) 41 [vi 147, vl a, vl b] σ Q
    by_cases b0 : b = 0
    · rw [if_pos b0] at q'
      have lc := lx_eq b0
      refine CC_vb ok41 (by decide) (sm3_ok G w) 60 [] (Nat.le_of_ble_eq_true rfl) ?_
      simp -implicitDefEqProofs only [↓b41_0, ↓b41_100, ↓b41_104, ↓b41_108, ↓b41_112, ↓b41_118, ↓b41_122, ↓b41_125, ↓b41_126, ↓b41_132, ↓b41_136, ↓b41_137, ↓b41_138, ↓b41_144, ↓b41_148, ↓b41_149, ↓b41_150, ↓b41_156, ↓b41_160, ↓b41_161, ↓b41_162, ↓b41_168, ↓b41_172, ↓b41_173, ↓b41_174, ↓b41_180, ↓b41_184, ↓b41_185, ↓b41_186, ↓b41_190, ↓b41_194, b41_0, b41_100, b41_104, b41_108, b41_112, b41_118, b41_122, b41_125, b41_126, b41_132, b41_136, b41_137, b41_138, b41_144, b41_148, b41_149, b41_150, b41_156, b41_160, b41_161, b41_162, b41_168, b41_172, b41_173, b41_174, b41_180, b41_184, b41_185, b41_186, b41_190, b41_194, nLE0, layE3, lc, I32, ↓xb, xb, ps, lpad, lat, aok2, rd2, aaok, aav, alok, alen, aok, akk, csum, isLg, cmpI, clsE, Option.elim, eq_self, List.mem_cons, List.not_mem_nil, or_false, false_or, List.append_nil, List.nil_append, List.cons_append, List.append_eq, List.replicate, List.length_cons, List.length_nil, List.map_cons, List.map_nil, ↓reduceIte, reduceCtorEq, if_true, if_false, true_and, and_true, false_and, and_false, and_self, not_true_eq_false, not_false_eq_true, forall_const, true_implies, false_implies, implies_true, Nat.reduceAdd, Nat.reduceSub, Nat.reduceLT, Nat.reduceLeDiff, Nat.reduceEqDiff, Nat.reduceMul, Nat.reducePow, Nat.add_one_ne_zero, Nat.add_one_sub_one, Nat.add_zero, Nat.zero_add, Int.reduceLT, Int.reduceLE, Int.reduceNeg, Int.reduceAdd, Int.reduceSub, Int.reduceToNat, Int.reduceEq, Int.reduceMul, Int.reducePow, Int.cast_ofNat_Int, Int.toNat_natCast, ne_eq, Bool.false_eq_true, true_or, or_true, or_self, Nat.not_lt_zero, ite_e0, ite_e1, lc_lt, lc_ge, lc_gt, lc_le, lc_eq, Classical.not_not]
      with_reducible repeat' (first | (refine And.intro ?_ ?_) | intro _)
      all_goals try omega
      all_goals first | omega | exact q'
    · rw [if_neg b0] at q'
      have lc : ¬ lcmpI b 0 = 0 := fun z => by
        rcases Int.lt_trichotomy b 0 with h | h | h
        · rw [lx_lt h] at z; omega
        · exact b0 h
        · rw [lx_gt h] at z; omega
      refine CC_vb ok41 (by decide) (sm3_ok G w) 60 [] (Nat.le_of_ble_eq_true rfl) ?_
      simp -implicitDefEqProofs only [↓b41_0, ↓b41_100, ↓b41_104, ↓b41_108, ↓b41_112, ↓b41_118, ↓b41_122, ↓b41_125, ↓b41_126, ↓b41_132, ↓b41_136, ↓b41_137, ↓b41_138, ↓b41_144, ↓b41_148, ↓b41_149, ↓b41_150, ↓b41_156, ↓b41_160, ↓b41_161, ↓b41_162, ↓b41_168, ↓b41_172, ↓b41_173, ↓b41_174, ↓b41_180, ↓b41_184, ↓b41_185, ↓b41_186, ↓b41_190, ↓b41_194, b41_0, b41_100, b41_104, b41_108, b41_112, b41_118, b41_122, b41_125, b41_126, b41_132, b41_136, b41_137, b41_138, b41_144, b41_148, b41_149, b41_150, b41_156, b41_160, b41_161, b41_162, b41_168, b41_172, b41_173, b41_174, b41_180, b41_184, b41_185, b41_186, b41_190, b41_194, nLE0, layE3, lc, b0, I32, ↓xb, xb, ps, lpad, lat, aok2, rd2, aaok, aav, alok, alen, aok, akk, csum, isLg, cmpI, clsE, Option.elim, eq_self, List.mem_cons, List.not_mem_nil, or_false, false_or, List.append_nil, List.nil_append, List.cons_append, List.append_eq, List.replicate, List.length_cons, List.length_nil, List.map_cons, List.map_nil, ↓reduceIte, reduceCtorEq, if_true, if_false, true_and, and_true, false_and, and_false, and_self, not_true_eq_false, not_false_eq_true, forall_const, true_implies, false_implies, implies_true, Nat.reduceAdd, Nat.reduceSub, Nat.reduceLT, Nat.reduceLeDiff, Nat.reduceEqDiff, Nat.reduceMul, Nat.reducePow, Nat.add_one_ne_zero, Nat.add_one_sub_one, Nat.add_zero, Nat.zero_add, Int.reduceLT, Int.reduceLE, Int.reduceNeg, Int.reduceAdd, Int.reduceSub, Int.reduceToNat, Int.reduceEq, Int.reduceMul, Int.reducePow, Int.cast_ofNat_Int, Int.toNat_natCast, ne_eq, Bool.false_eq_true, true_or, or_true, or_self, Nat.not_lt_zero, ite_e0, ite_e1, lc_lt, lc_ge, lc_gt, lc_le, lc_eq, Classical.not_not]
      with_reducible repeat' (first | (refine And.intro ?_ ?_) | intro _)
      all_goals try omega
      all_goals first | omega | exact q'
set_option maxRecDepth 100000 in
set_option maxHeartbeats 1000000 in
theorem kc_w_l (ho : 12 ≤ o ∧ o ≤ 20) (hk : 3 ≤ k) {wf : Nat → Int} {a0 : Int} {e : Nat} (he : e ≤ 400) {S' : List Int}
    (q : ∀ σ', same (fun a f => a == o && f == 9) σ σ' → Q (some (vl (S'.headD 0))) σ') :
    ∀ (L : List (Nat × Int)) (i : Nat) (S : List Int) (σ' : Mem) (l6 : Option AV), (∀ j, j < L.length → σ o 8 0 (i + j) = cP (L.getD j (0, 0))) → AOK L → i + L.length = e → evL wf L S = some S' → STG σ' o 9 S → S.length ≤ 32 → (∀ j, j < 15 → σ 8 1 0 j = wf j) → same (fun a f => a == o && f == 9) σ σ' →
      TT G w w w k (0, 0) 40 6 [some (vr o 0 0), some (vi a0), some (vi e), some (vr 8 1 0), some (vi (S.length : Nat)), some (vi i), l6] [] σ' Q
  | [], i, S, σ', l6, hL, hA, hi, hev, st, hS, hwd, hs => by
    have h22 : o < 22 := by omega
    have hcl := ro_cls ho
    have es : S = S' := by
      have : some S = some S' := hev
      injection this
    subst es
    have ei : i = e := by simpa using hi
    subst ei
    have r := q σ' hs
    cases S with
    | nil =>
      refine TT_vb ok40 (sm3_ok G w) 60 [6] ?_
      simp -implicitDefEqProofs only [↓b40_0, ↓b40_6, ↓b40_12, ↓b40_22, ↓b40_39, ↓b40_46, ↓b40_66, ↓b40_71, ↓b40_78, ↓b40_85, ↓b40_102, ↓b40_109, ↓b40_114, ↓b40_137, ↓b40_143, ↓b40_175, ↓b40_176, ↓b40_182, ↓b40_187, ↓b40_199, ↓b40_200, b40_0, b40_6, b40_12, b40_22, b40_39, b40_46, b40_66, b40_71, b40_78, b40_85, b40_102, b40_109, b40_114, b40_137, b40_143, b40_175, b40_176, b40_182, b40_187, b40_199, b40_200, nLE0, layE3, hcl, h22, n3_41, I32, ↓xb, xb, ps, lpad, lat, aok2, rd2, aaok, aav, alok, alen, aok, akk, csum, isLg, cmpI, clsE, Option.elim, eq_self, List.mem_cons, List.not_mem_nil, or_false, false_or, List.append_nil, List.nil_append, List.cons_append, List.append_eq, List.replicate, List.length_cons, List.length_nil, List.map_cons, List.map_nil, ↓reduceIte, reduceCtorEq, if_true, if_false, true_and, and_true, false_and, and_false, and_self, not_true_eq_false, not_false_eq_true, forall_const, true_implies, false_implies, implies_true, Nat.reduceAdd, Nat.reduceSub, Nat.reduceLT, Nat.reduceLeDiff, Nat.reduceEqDiff, Nat.reduceMul, Nat.reducePow, Nat.add_one_ne_zero, Nat.add_one_sub_one, Nat.add_zero, Nat.zero_add, Int.reduceLT, Int.reduceLE, Int.reduceNeg, Int.reduceAdd, Int.reduceSub, Int.reduceToNat, Int.reduceEq, Int.reduceMul, Int.reducePow, Int.cast_ofNat_Int, Int.toNat_natCast, ne_eq, Bool.false_eq_true, true_or, or_true, or_self, Nat.not_lt_zero, ite_e0, ite_e1, lc_lt, lc_ge, lc_gt, lc_le, lc_eq, Classical.not_not]
      with_reducible repeat' (first | (refine And.intro ?_ ?_) | intro _)
      all_goals try omega
      all_goals first | omega | exact r
    | cons x S1 =>
      have ex : σ' o 9 0 S1.length = x := st.1
      have et : ((S1.length : Int) + 1 - 1).toNat = S1.length := by omega
      have le : ¬ ((S1.length : Int) + 1 ≤ 0) := by omega
      rw [List.length_cons] at hS
      have r' : Q (some (vl x)) σ' := r
      rw [List.length_cons, show (((S1.length + 1 : Nat) : Int)) = (S1.length : Int) + 1 by omega]
      refine TT_vb ok40 (sm3_ok G w) 60 [6] ?_
      simp -implicitDefEqProofs only [↓b40_0, ↓b40_6, ↓b40_12, ↓b40_22, ↓b40_39, ↓b40_46, ↓b40_66, ↓b40_71, ↓b40_78, ↓b40_85, ↓b40_102, ↓b40_109, ↓b40_114, ↓b40_137, ↓b40_143, ↓b40_175, ↓b40_176, ↓b40_182, ↓b40_187, ↓b40_199, ↓b40_200, b40_0, b40_6, b40_12, b40_22, b40_39, b40_46, b40_66, b40_71, b40_78, b40_85, b40_102, b40_109, b40_114, b40_137, b40_143, b40_175, b40_176, b40_182, b40_187, b40_199, b40_200, nLE0, layE3, hcl, h22, et, ex, le, n3_41, I32, ↓xb, xb, ps, lpad, lat, aok2, rd2, aaok, aav, alok, alen, aok, akk, csum, isLg, cmpI, clsE, Option.elim, eq_self, List.mem_cons, List.not_mem_nil, or_false, false_or, List.append_nil, List.nil_append, List.cons_append, List.append_eq, List.replicate, List.length_cons, List.length_nil, List.map_cons, List.map_nil, ↓reduceIte, reduceCtorEq, if_true, if_false, true_and, and_true, false_and, and_false, and_self, not_true_eq_false, not_false_eq_true, forall_const, true_implies, false_implies, implies_true, Nat.reduceAdd, Nat.reduceSub, Nat.reduceLT, Nat.reduceLeDiff, Nat.reduceEqDiff, Nat.reduceMul, Nat.reducePow, Nat.add_one_ne_zero, Nat.add_one_sub_one, Nat.add_zero, Nat.zero_add, Int.reduceLT, Int.reduceLE, Int.reduceNeg, Int.reduceAdd, Int.reduceSub, Int.reduceToNat, Int.reduceEq, Int.reduceMul, Int.reducePow, Int.cast_ofNat_Int, Int.toNat_natCast, ne_eq, Bool.false_eq_true, true_or, or_true, or_self, Nat.not_lt_zero, ite_e0, ite_e1, lc_lt, lc_ge, lc_gt, lc_le, lc_eq, Classical.not_not]
      with_reducible repeat' (first | (refine And.intro ?_ ?_) | intro _)
      all_goals try omega
      all_goals first | omega | exact r'
  | x :: L, i, S, σ', l6, hL, hA, hi, hev, st, hS, hwd, hs => by
    have h22 : o < 22 := by omega
    have hcl := ro_cls ho
    have ih := fun S1 σ2 l6 => kc_w_l ho hk (wf := wf) (a0 := a0) he q L (i + 1) S1 σ2 l6 (fun j hj => by
      have z := hL (j + 1) (by rw [List.length_cons]; omega)
      rw [show i + (j + 1) = i + 1 + j by omega] at z
      exact z) (fun y hy => hA y (List.mem_cons_of_mem _ hy)) (by rw [List.length_cons] at hi; omega)
    rw [List.length_cons] at hi
    have ho9 : ∀ f, f ≠ 9 → ((o == o) && f == 9) = false := fun f h => by rw [show (f == 9) = false by simp; omega]; simp
    have e8 : σ' o 8 0 i = cP x := by
      rw [hs o 8 (ho9 8 (by decide))]
      exact hL 0 (by rw [List.length_cons]; omega)
    have ok := hA x (List.mem_cons_self)
    have hev' : (ev1 wf x S).bind (evL wf L) = some S' := hev
    have lt : ¬ ((e : Int) ≤ (i : Int)) := by omega
    have l400 : ¬ ((400 : Int) ≤ (i : Int)) := by omega
    rcases ok with ⟨h0, v0, v1⟩ | ⟨h1, v0, v1⟩ | ⟨h2, h14, h12, hz⟩
    · have ec : cP x = 1000 + x.2 := by unfold cP; rw [if_pos h0]
      have ev : ev1 wf x S = if S.length < 32 then some (x.2 :: S) else none := by unfold ev1; rw [if_pos h0]
      rw [ev] at hev'
      by_cases c : S.length < 32
      · rw [if_pos c] at hev'
        have r := fun l6 => ih (x.2 :: S) (up σ' o 9 0 S.length x.2) l6 hev' st.put (by rw [List.length_cons]; omega) hwd (hs.put (by simp))
        rw [List.length_cons, show (((S.length + 1 : Nat) : Int)) = (S.length : Int) + 1 by omega, show (((i + 1 : Nat) : Int)) = (i : Int) + 1 by omega] at r
        have n1 : ¬ (1000 + x.2 < 1000) := by omega
        have n2 : ¬ ((32 : Int) ≤ (S.length : Int)) := by omega
        have n3 : 1000 + x.2 - 1000 = x.2 := by omega
        refine TT_vb ok40 (sm3_ok G w) 60 [6, 66] ?_
        simp -implicitDefEqProofs only [↓b40_0, ↓b40_6, ↓b40_12, ↓b40_22, ↓b40_39, ↓b40_46, ↓b40_66, ↓b40_71, ↓b40_78, ↓b40_85, ↓b40_102, ↓b40_109, ↓b40_114, ↓b40_137, ↓b40_143, ↓b40_175, ↓b40_176, ↓b40_182, ↓b40_187, ↓b40_199, ↓b40_200, b40_0, b40_6, b40_12, b40_22, b40_39, b40_46, b40_66, b40_71, b40_78, b40_85, b40_102, b40_109, b40_114, b40_137, b40_143, b40_175, b40_176, b40_182, b40_187, b40_199, b40_200, nLE0, layE3, hcl, h22, layE3, lt, l400, e8, ec, n1, n2, n3, n3_41, I32, ↓xb, xb, ps, lpad, lat, aok2, rd2, aaok, aav, alok, alen, aok, akk, csum, isLg, cmpI, clsE, Option.elim, eq_self, List.mem_cons, List.not_mem_nil, or_false, false_or, List.append_nil, List.nil_append, List.cons_append, List.append_eq, List.replicate, List.length_cons, List.length_nil, List.map_cons, List.map_nil, ↓reduceIte, reduceCtorEq, if_true, if_false, true_and, and_true, false_and, and_false, and_self, not_true_eq_false, not_false_eq_true, forall_const, true_implies, false_implies, implies_true, Nat.reduceAdd, Nat.reduceSub, Nat.reduceLT, Nat.reduceLeDiff, Nat.reduceEqDiff, Nat.reduceMul, Nat.reducePow, Nat.add_one_ne_zero, Nat.add_one_sub_one, Nat.add_zero, Nat.zero_add, Int.reduceLT, Int.reduceLE, Int.reduceNeg, Int.reduceAdd, Int.reduceSub, Int.reduceToNat, Int.reduceEq, Int.reduceMul, Int.reducePow, Int.cast_ofNat_Int, Int.toNat_natCast, ne_eq, Bool.false_eq_true, true_or, or_true, or_self, Nat.not_lt_zero, ite_e0, ite_e1, lc_lt, lc_ge, lc_gt, lc_le, lc_eq, Classical.not_not]
        with_reducible repeat' (first | (refine And.intro ?_ ?_) | intro _)
        all_goals try omega
        all_goals first | omega | exact r _
      · rw [if_neg c] at hev'
        cases hev'
    · have ec : cP x = x.2 := by unfold cP; rw [if_neg (by omega), if_pos h1]
      have ev : ev1 wf x S = if S.length < 32 then some (wf x.2.toNat :: S) else none := by unfold ev1; rw [if_neg (by omega), if_pos h1]
      rw [ev] at hev'
      by_cases c : S.length < 32
      · rw [if_pos c] at hev'
        have r := fun l6 => ih (wf x.2.toNat :: S) (up σ' o 9 0 S.length (wf x.2.toNat)) l6 hev' st.put (by rw [List.length_cons]; omega) hwd (hs.put (by simp))
        rw [List.length_cons, show (((S.length + 1 : Nat) : Int)) = (S.length : Int) + 1 by omega, show (((i + 1 : Nat) : Int)) = (i : Int) + 1 by omega] at r
        have ew : σ' 8 1 0 x.2.toNat = wf x.2.toNat := by
          rw [hs 8 1 (by show ((8 == o) && 1 == 9) = false; simp)]
          exact hwd _ (by omega)
        have n1 : x.2 < 1000 := by omega
        have n2 : ¬ ((32 : Int) ≤ (S.length : Int)) := by omega
        have n3 : ¬ (x.2 < 0) := by omega
        have n4 : ¬ (15 ≤ x.2) := by omega
        refine TT_vb ok40 (sm3_ok G w) 60 [6, 102, 39] ?_
        simp -implicitDefEqProofs only [↓b40_0, ↓b40_6, ↓b40_12, ↓b40_22, ↓b40_39, ↓b40_46, ↓b40_66, ↓b40_71, ↓b40_78, ↓b40_85, ↓b40_102, ↓b40_109, ↓b40_114, ↓b40_137, ↓b40_143, ↓b40_175, ↓b40_176, ↓b40_182, ↓b40_187, ↓b40_199, ↓b40_200, b40_0, b40_6, b40_12, b40_22, b40_39, b40_46, b40_66, b40_71, b40_78, b40_85, b40_102, b40_109, b40_114, b40_137, b40_143, b40_175, b40_176, b40_182, b40_187, b40_199, b40_200, nLE0, layE3, hcl, h22, layE3, layE1, lt, l400, e8, ec, n1, n2, n3, n4, ew, n3_41, I32, ↓xb, xb, ps, lpad, lat, aok2, rd2, aaok, aav, alok, alen, aok, akk, csum, isLg, cmpI, clsE, Option.elim, eq_self, List.mem_cons, List.not_mem_nil, or_false, false_or, List.append_nil, List.nil_append, List.cons_append, List.append_eq, List.replicate, List.length_cons, List.length_nil, List.map_cons, List.map_nil, ↓reduceIte, reduceCtorEq, if_true, if_false, true_and, and_true, false_and, and_false, and_self, not_true_eq_false, not_false_eq_true, forall_const, true_implies, false_implies, implies_true, Nat.reduceAdd, Nat.reduceSub, Nat.reduceLT, Nat.reduceLeDiff, Nat.reduceEqDiff, Nat.reduceMul, Nat.reducePow, Nat.add_one_ne_zero, Nat.add_one_sub_one, Nat.add_zero, Nat.zero_add, Int.reduceLT, Int.reduceLE, Int.reduceNeg, Int.reduceAdd, Int.reduceSub, Int.reduceToNat, Int.reduceEq, Int.reduceMul, Int.reducePow, Int.cast_ofNat_Int, Int.toNat_natCast, ne_eq, Bool.false_eq_true, true_or, or_true, or_self, Nat.not_lt_zero, ite_e0, ite_e1, lc_lt, lc_ge, lc_gt, lc_le, lc_eq, Classical.not_not]
        with_reducible repeat' (first | (refine And.intro ?_ ?_) | intro _)
        all_goals try omega
        all_goals first | omega | exact r _
      · rw [if_neg c] at hev'
        cases hev'
    · by_cases h9 : x.1 = 9
      · have ec : cP x = 22 := by unfold cP; simp [h9]
        have ev : ev1 wf x S = evN S := by unfold ev1; rw [if_neg (by omega), if_neg (by omega), if_pos h9]
        rw [ev] at hev'
        cases S with
        | nil => cases hev'
        | cons y S1 =>
          have hev2 : evL wf L (w64 (1 - y) :: S1) = some S' := hev'
          have ey : σ' o 9 0 S1.length = y := st.1
          rw [List.length_cons] at hS
          have et : ((S1.length : Int) + 1 - 1).toNat = S1.length := by omega
          have r := fun l6 => ih (w64 (1 - y) :: S1) (up σ' o 9 0 S1.length (w64 (1 - y))) l6 hev2 st.2.put (by rw [List.length_cons]; omega) hwd (hs.put (by simp))
          rw [List.length_cons, show (((S1.length + 1 : Nat) : Int)) = (S1.length : Int) + 1 by omega, show (((i + 1 : Nat) : Int)) = (i : Int) + 1 by omega] at r
          rw [List.length_cons, show (((S1.length + 1 : Nat) : Int)) = (S1.length : Int) + 1 by omega]
          have le : ¬ ((S1.length : Int) + 1 ≤ 0) := by omega
          refine TT_vb ok40 (sm3_ok G w) 60 [6, 39, 137] ?_
          simp -implicitDefEqProofs only [↓b40_0, ↓b40_6, ↓b40_12, ↓b40_22, ↓b40_39, ↓b40_46, ↓b40_66, ↓b40_71, ↓b40_78, ↓b40_85, ↓b40_102, ↓b40_109, ↓b40_114, ↓b40_137, ↓b40_143, ↓b40_175, ↓b40_176, ↓b40_182, ↓b40_187, ↓b40_199, ↓b40_200, b40_0, b40_6, b40_12, b40_22, b40_39, b40_46, b40_66, b40_71, b40_78, b40_85, b40_102, b40_109, b40_114, b40_137, b40_143, b40_175, b40_176, b40_182, b40_187, b40_199, b40_200, nLE0, layE3, hcl, h22, layE3, layE1, lt, l400, e8, ec, et, ey, le, n3_41, I32, ↓xb, xb, ps, lpad, lat, aok2, rd2, aaok, aav, alok, alen, aok, akk, csum, isLg, cmpI, clsE, Option.elim, eq_self, List.mem_cons, List.not_mem_nil, or_false, false_or, List.append_nil, List.nil_append, List.cons_append, List.append_eq, List.replicate, List.length_cons, List.length_nil, List.map_cons, List.map_nil, ↓reduceIte, reduceCtorEq, if_true, if_false, true_and, and_true, false_and, and_false, and_self, not_true_eq_false, not_false_eq_true, forall_const, true_implies, false_implies, implies_true, Nat.reduceAdd, Nat.reduceSub, Nat.reduceLT, Nat.reduceLeDiff, Nat.reduceEqDiff, Nat.reduceMul, Nat.reducePow, Nat.add_one_ne_zero, Nat.add_one_sub_one, Nat.add_zero, Nat.zero_add, Int.reduceLT, Int.reduceLE, Int.reduceNeg, Int.reduceAdd, Int.reduceSub, Int.reduceToNat, Int.reduceEq, Int.reduceMul, Int.reducePow, Int.cast_ofNat_Int, Int.toNat_natCast, ne_eq, Bool.false_eq_true, true_or, or_true, or_self, Nat.not_lt_zero, ite_e0, ite_e1, lc_lt, lc_ge, lc_gt, lc_le, lc_eq, Classical.not_not]
          with_reducible repeat' (first | (refine And.intro ?_ ?_) | intro _)
          all_goals try omega
          all_goals first | omega | exact r _
      · have hb : isBin x.1 := by unfold isBin; omega
        have ev : ev1 wf x S = evB x.1 S := by unfold ev1; rw [if_neg (by omega), if_neg (by omega), if_neg h9]
        rw [ev] at hev'
        have xe : x = (x.1, 0) := by rw [← hz]
        have ecr : cP x = 143 ∨ cP x = 145 ∨ cP x = 160 ∨ cP x = 23 ∨ cP x = 161 ∨ cP x = 24 ∨ cP x = 162 ∨ cP x = 20 ∨ cP x = 21 ∨ cP x = 142 ∨ cP x = 147 := by
          rcases hb with z | z | z | z | z | z | z | z | z | z | z <;> rw [xe, z] <;> simp [cP]
        cases S with
        | nil => cases hev'
        | cons y S0 =>
          cases S0 with
          | nil => cases hev'
          | cons z S1 =>
            have hev2 : evL wf L (bo x.1 z y :: S1) = some S' := hev'
            have ey : σ' o 9 0 (S1.length + 1) = y := by have := st.1; rw [List.length_cons] at this; exact this
            have ez : σ' o 9 0 S1.length = z := st.2.1
            rw [List.length_cons, List.length_cons] at hS
            have et : ((S1.length : Int) + 1 + 1 + -1).toNat = S1.length + 1 := by omega
            have et2 : ((S1.length : Int) + 1 + 1 + -1 - 1).toNat = S1.length := by omega
            have en : (S1.length : Int) + 1 + 1 + -1 = (S1.length : Int) + 1 := by omega
            have en2 : (S1.length : Int) + 1 - 1 = (S1.length : Int) := by omega
            have en3 : ((S1.length : Int) + 1).toNat = S1.length + 1 := by omega
            have r := fun l6 => ih (bo x.1 z y :: S1) (up σ' o 9 0 S1.length (bo x.1 z y)) l6 hev2 st.2.2.put (by rw [List.length_cons]; omega) hwd (hs.put (by simp))
            rw [List.length_cons, show (((S1.length + 1 : Nat) : Int)) = (S1.length : Int) + 1 by omega, show (((i + 1 : Nat) : Int)) = (i : Int) + 1 by omega] at r
            rw [List.length_cons, List.length_cons, show (((S1.length + 1 + 1 : Nat) : Int)) = (S1.length : Int) + 1 + 1 by omega]
            have c1 : cP x < 1000 := by omega
            have c0 : ¬ (cP x < 0) := by omega
            have c22 : ¬ (cP x = 22) := by omega
            have c15 : 15 ≤ cP x := by omega
            have le : ¬ ((S1.length : Int) + 1 + 1 ≤ 1) := by omega
            refine TT_vb ok40 (sm3_ok G w) 60 [6, 39] ?_
            simp -implicitDefEqProofs only [↓b40_0, ↓b40_6, ↓b40_12, ↓b40_22, ↓b40_39, ↓b40_46, ↓b40_66, ↓b40_71, ↓b40_78, ↓b40_85, ↓b40_102, ↓b40_109, ↓b40_114, ↓b40_137, ↓b40_143, ↓b40_175, ↓b40_176, ↓b40_182, ↓b40_187, ↓b40_199, ↓b40_200, b40_0, b40_6, b40_12, b40_22, b40_39, b40_46, b40_66, b40_71, b40_78, b40_85, b40_102, b40_109, b40_114, b40_137, b40_143, b40_175, b40_176, b40_182, b40_187, b40_199, b40_200, nLE0, layE3, hcl, h22, layE3, layE1, lt, l400, e8, c1, c0, c22, c15, le, en, en2, en3, ey, ez, n3_41, I32, ↓xb, xb, ps, lpad, lat, aok2, rd2, aaok, aav, alok, alen, aok, akk, csum, isLg, cmpI, clsE, Option.elim, eq_self, List.mem_cons, List.not_mem_nil, or_false, false_or, List.append_nil, List.nil_append, List.cons_append, List.append_eq, List.replicate, List.length_cons, List.length_nil, List.map_cons, List.map_nil, ↓reduceIte, reduceCtorEq, if_true, if_false, true_and, and_true, false_and, and_false, and_self, not_true_eq_false, not_false_eq_true, forall_const, true_implies, false_implies, implies_true, Nat.reduceAdd, Nat.reduceSub, Nat.reduceLT, Nat.reduceLeDiff, Nat.reduceEqDiff, Nat.reduceMul, Nat.reducePow, Nat.add_one_ne_zero, Nat.add_one_sub_one, Nat.add_zero, Nat.zero_add, Int.reduceLT, Int.reduceLE, Int.reduceNeg, Int.reduceAdd, Int.reduceSub, Int.reduceToNat, Int.reduceEq, Int.reduceMul, Int.reducePow, Int.cast_ofNat_Int, Int.toNat_natCast, ne_eq, Bool.false_eq_true, true_or, or_true, or_self, Nat.not_lt_zero, ite_e0, ite_e1, lc_lt, lc_ge, lc_gt, lc_le, lc_eq, Classical.not_not]
            with_reducible repeat' (first | (refine And.intro ?_ ?_) | intro _)
            all_goals try omega
            all_goals first | omega | skip
            rw [xe]
            refine kc_join (by omega) hb ?_
            simp -implicitDefEqProofs only [↓b40_0, ↓b40_6, ↓b40_12, ↓b40_22, ↓b40_39, ↓b40_46, ↓b40_66, ↓b40_71, ↓b40_78, ↓b40_85, ↓b40_102, ↓b40_109, ↓b40_114, ↓b40_137, ↓b40_143, ↓b40_175, ↓b40_176, ↓b40_182, ↓b40_187, ↓b40_199, ↓b40_200, b40_0, b40_6, b40_12, b40_22, b40_39, b40_46, b40_66, b40_71, b40_78, b40_85, b40_102, b40_109, b40_114, b40_137, b40_143, b40_175, b40_176, b40_182, b40_187, b40_199, b40_200, nLE0, layE3, hcl, h22, layE3, n3_41, I32, ↓xb, xb, ps, lpad, lat, aok2, rd2, aaok, aav, alok, alen, aok, akk, csum, isLg, cmpI, clsE, Option.elim, eq_self, List.mem_cons, List.not_mem_nil, or_false, false_or, List.append_nil, List.nil_append, List.cons_append, List.append_eq, List.replicate, List.length_cons, List.length_nil, List.map_cons, List.map_nil, ↓reduceIte, reduceCtorEq, if_true, if_false, true_and, and_true, false_and, and_false, and_self, not_true_eq_false, not_false_eq_true, forall_const, true_implies, false_implies, implies_true, Nat.reduceAdd, Nat.reduceSub, Nat.reduceLT, Nat.reduceLeDiff, Nat.reduceEqDiff, Nat.reduceMul, Nat.reducePow, Nat.add_one_ne_zero, Nat.add_one_sub_one, Nat.add_zero, Nat.zero_add, Int.reduceLT, Int.reduceLE, Int.reduceNeg, Int.reduceAdd, Int.reduceSub, Int.reduceToNat, Int.reduceEq, Int.reduceMul, Int.reducePow, Int.cast_ofNat_Int, Int.toNat_natCast, ne_eq, Bool.false_eq_true, true_or, or_true, or_self, Nat.not_lt_zero, ite_e0, ite_e1, lc_lt, lc_ge, lc_gt, lc_le, lc_eq, Classical.not_not]
            with_reducible repeat' (first | (refine And.intro ?_ ?_) | intro _)
            all_goals try omega
            all_goals first | omega | exact r _
set_option maxRecDepth 100000 in
set_option maxHeartbeats 1000000 in
theorem kc_worth (ho : 12 ≤ o ∧ o ≤ 20) (hk : 3 ≤ k) {wf : Nat → Int} {a e : Nat} (he : e ≤ 400) {L : List (Nat × Int)} {S' : List Int} (hL : ∀ j, j < L.length → σ o 8 0 (a + j) = cP (L.getD j (0, 0))) (hA : AOK L) (hi : a + L.length = e) (hev : evL wf L [] = some S') (hwd : ∀ j, j < 15 → σ 8 1 0 j = wf j)
    (q : ∀ σ', same (fun a f => a == o && f == 9) σ σ' → Q (some (vl (S'.headD 0))) σ') : CC G w w k (0, 0) 40 [vr o 0 0, vi a, vi e, vr 8 1 0] σ Q := by
  have g := fun l6 => kc_w_l (G := G) (w := w) (k := k) (σ := σ) (Q := Q) ho hk (wf := wf) (a0 := a) he q L a [] σ l6 hL hA hi hev trivial (Nat.zero_le _) hwd same.refl
  refine CC_vb ok40 (by decide) (sm3_ok G w) 60 [6] (Nat.le_of_ble_eq_true rfl) ?_
  simp -implicitDefEqProofs only [↓b40_0, ↓b40_6, ↓b40_12, ↓b40_22, ↓b40_39, ↓b40_46, ↓b40_66, ↓b40_71, ↓b40_78, ↓b40_85, ↓b40_102, ↓b40_109, ↓b40_114, ↓b40_137, ↓b40_143, ↓b40_175, ↓b40_176, ↓b40_182, ↓b40_187, ↓b40_199, ↓b40_200, b40_0, b40_6, b40_12, b40_22, b40_39, b40_46, b40_66, b40_71, b40_78, b40_85, b40_102, b40_109, b40_114, b40_137, b40_143, b40_175, b40_176, b40_182, b40_187, b40_199, b40_200, nLE0, layE3, hk, n3_41, I32, ↓xb, xb, ps, lpad, lat, aok2, rd2, aaok, aav, alok, alen, aok, akk, csum, isLg, cmpI, clsE, Option.elim, eq_self, List.mem_cons, List.not_mem_nil, or_false, false_or, List.append_nil, List.nil_append, List.cons_append, List.append_eq, List.replicate, List.length_cons, List.length_nil, List.map_cons, List.map_nil, ↓reduceIte, reduceCtorEq, if_true, if_false, true_and, and_true, false_and, and_false, and_self, not_true_eq_false, not_false_eq_true, forall_const, true_implies, false_implies, implies_true, Nat.reduceAdd, Nat.reduceSub, Nat.reduceLT, Nat.reduceLeDiff, Nat.reduceEqDiff, Nat.reduceMul, Nat.reducePow, Nat.add_one_ne_zero, Nat.add_one_sub_one, Nat.add_zero, Nat.zero_add, Int.reduceLT, Int.reduceLE, Int.reduceNeg, Int.reduceAdd, Int.reduceSub, Int.reduceToNat, Int.reduceEq, Int.reduceMul, Int.reducePow, Int.cast_ofNat_Int, Int.toNat_natCast, ne_eq, Bool.false_eq_true, true_or, or_true, or_self, Nat.not_lt_zero, ite_e0, ite_e1, lc_lt, lc_ge, lc_gt, lc_le, lc_eq, Classical.not_not]
  with_reducible repeat' (first | (refine And.intro ?_ ?_) | intro _)
  all_goals try omega
  all_goals first | omega | exact g _
end WOC
/-- the sum that clauses of a sort tell -/
def sOf (wf : Nat → Int) : List Cl → Int → Int
  | [], _ => 0
  | x :: Cs, s => if x.1 = s ∧ (x.2.2.2.2 = [] ∨ vOf wf x.2.2.2.2 = 1) then vOf wf x.2.2.1 else sOf wf Cs s
theorem sOf_sm {wf : Nat → Int} {s : Int} (hs : s ≠ 3) : ∀ (Cs : List Cl), sOf wf (smC Cs) s = sOf wf Cs s
  | [] => rfl
  | x :: Cs => by
    have ih := sOf_sm (wf := wf) hs Cs
    by_cases h : x.1 = 3
    · have e : smC (x :: Cs) = smC Cs := by unfold smC; rw [List.filter_cons_of_neg]; simp [h]
      rw [e, ih]
      show sOf wf Cs s = if x.1 = s ∧ _ then _ else sOf wf Cs s
      rw [if_neg (fun z => hs (z.1.symm.trans h))]
    · have e : smC (x :: Cs) = x :: smC Cs := by unfold smC; rw [List.filter_cons_of_pos]; simp [h]
      rw [e]
      show (if x.1 = s ∧ _ then _ else sOf wf (smC Cs) s) = if x.1 = s ∧ _ then _ else sOf wf Cs s
      rw [ih]
theorem gd_rr {α : Type} {l m : List α} {i : Nat} {d : α} (h : l.length ≤ i) : (l ++ m).getD i d = m.getD (i - l.length) d := by
  rw [List.getD_eq_getElem?_getD, List.getD_eq_getElem?_getD, List.getElem?_append_right h]
theorem Seg.get1 {LL s l : List (Nat × Int)} {a b e : Nat} (h : Seg LL a b e s l) {j : Nat} (hj : j < s.length) : LL.getD (a + j) (0, 0) = s.getD j (0, 0) := by
  obtain ⟨pre, post, h1, h2, h3, h4⟩ := h
  rw [h1, List.append_assoc, List.append_assoc, gd_rr (by omega), h2, show a + j - a = j by omega, gd_l hj]
theorem Seg.get2 {LL s l : List (Nat × Int)} {a b e : Nat} (h : Seg LL a b e s l) {j : Nat} (hj : j < l.length) : LL.getD (b + j) (0, 0) = l.getD j (0, 0) := by
  obtain ⟨pre, post, h1, h2, h3, h4⟩ := h
  have hp : (pre ++ s).length = b := by rw [List.length_append]; omega
  rw [h1, List.append_assoc, gd_rr (by omega), hp, show b + j - b = j by omega, gd_l hj]
theorem Seg.le {LL s l : List (Nat × Int)} {a b e : Nat} (h : Seg LL a b e s l) : a + s.length = b ∧ b + l.length = e ∧ e ≤ LL.length := by
  obtain ⟨pre, post, h1, h2, h3, h4⟩ := h
  have : LL.length = pre.length + s.length + l.length + post.length := by rw [h1, List.length_append, List.length_append, List.length_append]
  omega

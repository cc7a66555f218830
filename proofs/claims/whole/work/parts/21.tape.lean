/-! 21.tape: cable; the tape: feed, end; of, needs, count -/
theorem band_255 {a : Int} : band a 255 = a % 256 := by
  have e : (BitVec.ofInt 32 a).toNat = (a % 4294967296).toNat := by rw [BitVec.toNat_ofInt]; rfl
  have f : (BitVec.ofInt 32 255).toNat = 255 := by decide
  have g : (BitVec.ofInt 32 a &&& BitVec.ofInt 32 255).toNat = (a % 4294967296).toNat % 256 := by
    rw [BitVec.toNat_and, e, f]
    exact Nat.and_two_pow_sub_one_eq_mod _ 8
  unfold band
  rw [← Int32.toInt_toBitVec, Int32.toBitVec_and, Int32.toBitVec_ofInt, Int32.toBitVec_ofInt, BitVec.toInt_eq_toNat_of_lt (by rw [g]; omega), g]
  omega
theorem bu_toInt {x : BitVec 32} : x.toInt % 256 = (x.toNat : Int) % 256 := by
  rw [BitVec.toInt_eq_toNat_cond]
  have := x.isLt
  split <;> omega
theorem bu_sh {a : Int} {k : Nat} : (((BitVec.ofInt 32 a) >>> k).toNat : Int) = a % 4294967296 / 2 ^ k := by
  rw [BitVec.toNat_ushiftRight, Nat.shiftRight_eq_div_pow, BitVec.toNat_ofInt]
  have h : 0 ≤ a % 4294967296 := Int.emod_nonneg _ (by omega)
  show (((a % 4294967296).toNat / 2 ^ k : Nat) : Int) = _
  rw [Int.natCast_ediv, Int.toNat_of_nonneg h]
  simp
theorem bu24 {a : Int} : band (ushr a 24) 255 = a / 16777216 % 256 := by
  rw [band_255, show ushr a 24 = ((BitVec.ofInt 32 a) >>> 24).toInt from rfl, bu_toInt, bu_sh, show (2 : Int) ^ 24 = 16777216 by decide]; omega
theorem bu16 {a : Int} : band (ushr a 16) 255 = a / 65536 % 256 := by
  rw [band_255, show ushr a 16 = ((BitVec.ofInt 32 a) >>> 16).toInt from rfl, bu_toInt, bu_sh, show (2 : Int) ^ 16 = 65536 by decide]; omega
theorem bu8 {a : Int} : band (ushr a 8) 255 = a / 256 % 256 := by
  rw [band_255, show ushr a 8 = ((BitVec.ofInt 32 a) >>> 8).toInt from rfl, bu_toInt, bu_sh, show (2 : Int) ^ 8 = 256 by decide]; omega
theorem bu0 {a : Int} : band (ushr a 0) 255 = a % 256 := by
  rw [band_255, show ushr a 0 = ((BitVec.ofInt 32 a) >>> 0).toInt from rfl, bu_toInt, bu_sh, show (2 : Int) ^ 0 = 1 by decide]; omega
theorem w8_r {a : Int} : -128 ≤ w8 a ∧ w8 a ≤ 127 := by unfold w8; omega
/-- four bytes of a number come at place t -/
def tpA (T : Nat → Int) (t : Nat) (x : Int) (c : Nat) : Int := if c = t + 3 then x % 256 else if c = t + 2 then x / 256 % 256 else if c = t + 1 then x / 65536 % 256 else if c = t then x / 16777216 % 256 else T c
def tpM (T : Nat → Int) (t : Nat) (x : Int) (c : Nat) : Int := if c = t + 3 then w8 (x / 1) else if c = t + 2 then w8 (x / 256) else if c = t + 1 then w8 (x / 65536) else if c = t then w8 (x / 16777216) else T c
theorem tp_rel {T M : Nat → Int} {t : Nat} {x : Int} (h : ∀ c, c < t → M c % 256 = T c) : ∀ c, c < t + 4 → tpM M t x c % 256 = tpA T t x c := fun c hc => by
  unfold tpM tpA w8
  (repeat' split) <;> first | omega | exact h c (by omega)
section TPE
variable {G : Gl} {w : Wd} {k : Nat} {σ : Mem} {Q : Option AV → Mem → Prop} {P : Pt}
abbrev ST : Nat → Nat → Bool := fun o f => o == 0 && (f == 6 || f == 7)
abbrev SU : Nat → Nat → Bool := fun o f => o == 21 && (f == 39 || f == 49)
set_option maxRecDepth 100000 in
set_option maxHeartbeats 1000000 in
theorem kc_put (hk : 4 ≤ k) {x t : Int} (ht : 0 ≤ t ∧ t ≤ 396) (e7 : σ 0 7 0 0 = t) (q : ∀ σ', σ' 0 7 0 0 = t + 4 → (∀ c, σ' 0 6 0 c = tpA (fun c => σ 0 6 0 c) t.toNat x c) → same ST σ σ' → Q none σ') : CC G w w k (0, 0) 89 [vr 0 0 0, vi x] σ Q := by
  refine CC_vb ok89 (by decide) (sm3_ok G w) 60 [] (Nat.le_of_ble_eq_true rfl) ?_
  simp -implicitDefEqProofs only [↓b89_0, ↓b89_3, ↓b89_7, ↓b89_17, ↓b89_49, b89_0, b89_3, b89_7, b89_17, b89_49, nLE1, layE7, layE4, layE3, layE2, e7, up_rd, bu24, bu16, bu8, bu0, I32, ↓xb, xb, ps, lpad, lat, aok2, rd2, aaok, aav, alok, alen, aok, akk, csum, isLg, cmpI, clsE, Option.elim, eq_self, List.mem_cons, List.not_mem_nil, or_false, false_or, List.append_nil, List.nil_append, List.cons_append, List.append_eq, List.replicate, List.length_cons, List.length_nil, List.map_cons, List.map_nil, ↓reduceIte, reduceCtorEq, if_true, if_false, true_and, and_true, false_and, and_false, and_self, not_true_eq_false, not_false_eq_true, forall_const, true_implies, false_implies, implies_true, Nat.reduceAdd, Nat.reduceSub, Nat.reduceLT, Nat.reduceLeDiff, Nat.reduceEqDiff, Nat.reduceMul, Nat.reducePow, Nat.add_one_ne_zero, Nat.add_one_sub_one, Nat.add_zero, Nat.zero_add, Int.reduceLT, Int.reduceLE, Int.reduceNeg, Int.reduceAdd, Int.reduceSub, Int.reduceToNat, Int.reduceEq, Int.reduceMul, Int.reducePow, Int.cast_ofNat_Int, Int.toNat_natCast, ne_eq, Bool.false_eq_true, true_or, or_true, or_self, Nat.not_lt_zero, ite_e0, ite_e1, lc_lt, lc_ge, lc_gt, lc_le, lc_eq, Classical.not_not]
  with_reducible repeat' (first | (refine And.intro ?_ ?_) | intro _)
  all_goals try omega
  refine q _ ?_ (fun c => ?_) ((((((((same.refl.put rfl).put rfl).put rfl).put rfl).put rfl).put rfl).put rfl).put rfl)
  · simp only [up_rd, true_and, and_self, if_true]
    omega
  · simp only [up_rd, true_and, Nat.reduceEqDiff, false_and, and_false, if_false]
    unfold tpA
    rw [show (t + 1 + 1 + 1).toNat = t.toNat + 3 by omega, show (t + 1 + 1).toNat = t.toNat + 2 by omega, show (t + 1).toNat = t.toNat + 1 by omega]
set_option maxRecDepth 100000 in
set_option maxHeartbeats 1000000 in
theorem kx_put (hk : 4 ≤ k) {x t : Int} (ht : 0 ≤ t ∧ t ≤ 396) (e7 : σ 21 39 0 0 = t) (q : ∀ σ', σ' 21 39 0 0 = t + 4 → (∀ c, σ' 21 49 0 c = tpM (fun c => σ 21 49 0 c) t.toNat x c) → same SU σ σ' → Q none σ') : CC G w w k (0, 0) 149 [vr 21 0 0, vi x] σ Q := by
  refine CC_vb ok149 (by decide) (sm3_ok G w) 60 [] (Nat.le_of_ble_eq_true rfl) ?_
  have b1 := w8_r (a := x / 16777216); have b2 := w8_r (a := x / 65536); have b3 := w8_r (a := x / 256); have b4 := w8_r (a := x / 1)
  simp -implicitDefEqProofs only [↓b149_0, ↓b149_3, ↓b149_7, ↓b149_36, b149_0, b149_3, b149_7, b149_36, nLE2, layE8, e7, up_rd, I32, ↓xb, xb, ps, lpad, lat, aok2, rd2, aaok, aav, alok, alen, aok, akk, csum, isLg, cmpI, clsE, Option.elim, eq_self, List.mem_cons, List.not_mem_nil, or_false, false_or, List.append_nil, List.nil_append, List.cons_append, List.append_eq, List.replicate, List.length_cons, List.length_nil, List.map_cons, List.map_nil, ↓reduceIte, reduceCtorEq, if_true, if_false, true_and, and_true, false_and, and_false, and_self, not_true_eq_false, not_false_eq_true, forall_const, true_implies, false_implies, implies_true, Nat.reduceAdd, Nat.reduceSub, Nat.reduceLT, Nat.reduceLeDiff, Nat.reduceEqDiff, Nat.reduceMul, Nat.reducePow, Nat.add_one_ne_zero, Nat.add_one_sub_one, Nat.add_zero, Nat.zero_add, Int.reduceLT, Int.reduceLE, Int.reduceNeg, Int.reduceAdd, Int.reduceSub, Int.reduceToNat, Int.reduceEq, Int.reduceMul, Int.reducePow, Int.cast_ofNat_Int, Int.toNat_natCast, ne_eq, Bool.false_eq_true, true_or, or_true, or_self, Nat.not_lt_zero, ite_e0, ite_e1, lc_lt, lc_ge, lc_gt, lc_le, lc_eq, Classical.not_not]
  with_reducible repeat' (first | (refine And.intro ?_ ?_) | intro _)
  all_goals try omega
  refine q _ ?_ (fun c => ?_) ((((((((same.refl.put rfl).put rfl).put rfl).put rfl).put rfl).put rfl).put rfl).put rfl)
  · simp only [up_rd, true_and, and_self, if_true]
    omega
  · simp only [up_rd, true_and, Nat.reduceEqDiff, false_and, and_false, if_false]
    unfold tpM
    rw [show (t + 1 + 1 + 1).toNat = t.toNat + 3 by omega, show (t + 1 + 1).toNat = t.toNat + 2 by omega, show (t + 1).toNat = t.toNat + 1 by omega]
def fdA (T : Nat → Int) (t : Nat) (a b c d e : Int) : Nat → Int := tpA (tpA (tpA (tpA (tpA T t a) (t + 4) b) (t + 8) c) (t + 12) d) (t + 16) e
def fdM (T : Nat → Int) (t : Nat) (a b c d e : Int) : Nat → Int := tpM (tpM (tpM (tpM (tpM T t a) (t + 4) b) (t + 8) c) (t + 12) d) (t + 16) e
theorem fd_rel {T M : Nat → Int} {t : Nat} {a b c d e : Int} (h : ∀ i, i < t → M i % 256 = T i) : ∀ i, i < t + 20 → fdM M t a b c d e i % 256 = fdA T t a b c d e i := by
  unfold fdM fdA
  exact tp_rel (tp_rel (tp_rel (tp_rel (tp_rel h))))
set_option maxRecDepth 100000 in
set_option maxHeartbeats 1000000 in
theorem kc_feed (hk : 8 ≤ k) {a b c d e t : Int} (ht : 0 ≤ t ∧ t ≤ 400) (e7 : σ 0 7 0 0 = t) (q0 : ¬ t ≤ 380 → Q (some (vi (-1))) σ) (q1 : t ≤ 380 → ∀ σ', σ' 0 7 0 0 = t + 20 → (∀ i, σ' 0 6 0 i = fdA (fun i => σ 0 6 0 i) t.toNat a b c d e i) → same ST σ σ' → Q (some (vi (t + 20))) σ') : CC G w w k (0, 0) 88 [vr 0 0 0, vi a, vi b, vi c, vi d, vi e] σ Q := by
  refine CC_vb ok88 (by decide) (sm3_ok G w) 60 [] (Nat.le_of_ble_eq_true rfl) ?_
  simp -implicitDefEqProofs only [↓b88_0, ↓b88_10, ↓b88_12, ↓b88_17, ↓b88_22, ↓b88_27, ↓b88_33, ↓b88_39, b88_0, b88_10, b88_12, b88_17, b88_22, b88_27, b88_33, b88_39, nLE1, layE7, layE4, layE3, layE2, e7, n3_89, I32, ↓xb, xb, ps, lpad, lat, aok2, rd2, aaok, aav, alok, alen, aok, akk, csum, isLg, cmpI, clsE, Option.elim, eq_self, List.mem_cons, List.not_mem_nil, or_false, false_or, List.append_nil, List.nil_append, List.cons_append, List.append_eq, List.replicate, List.length_cons, List.length_nil, List.map_cons, List.map_nil, ↓reduceIte, reduceCtorEq, if_true, if_false, true_and, and_true, false_and, and_false, and_self, not_true_eq_false, not_false_eq_true, forall_const, true_implies, false_implies, implies_true, Nat.reduceAdd, Nat.reduceSub, Nat.reduceLT, Nat.reduceLeDiff, Nat.reduceEqDiff, Nat.reduceMul, Nat.reducePow, Nat.add_one_ne_zero, Nat.add_one_sub_one, Nat.add_zero, Nat.zero_add, Int.reduceLT, Int.reduceLE, Int.reduceNeg, Int.reduceAdd, Int.reduceSub, Int.reduceToNat, Int.reduceEq, Int.reduceMul, Int.reducePow, Int.cast_ofNat_Int, Int.toNat_natCast, ne_eq, Bool.false_eq_true, true_or, or_true, or_self, Nat.not_lt_zero, ite_e0, ite_e1, lc_lt, lc_ge, lc_gt, lc_le, lc_eq, Classical.not_not]
  with_reducible repeat' (first | (refine And.intro ?_ ?_) | intro _)
  all_goals try omega
  all_goals try exact q0 (by omega)
  refine kc_put (by omega) (by omega) e7 (fun σ1 f1 g1 s1 => ?_)
  simp -implicitDefEqProofs only [↓b88_0, ↓b88_10, ↓b88_12, ↓b88_17, ↓b88_22, ↓b88_27, ↓b88_33, ↓b88_39, b88_0, b88_10, b88_12, b88_17, b88_22, b88_27, b88_33, b88_39, nLE1, layE7, layE4, layE3, layE2, f1, n3_89, I32, ↓xb, xb, ps, lpad, lat, aok2, rd2, aaok, aav, alok, alen, aok, akk, csum, isLg, cmpI, clsE, Option.elim, eq_self, List.mem_cons, List.not_mem_nil, or_false, false_or, List.append_nil, List.nil_append, List.cons_append, List.append_eq, List.replicate, List.length_cons, List.length_nil, List.map_cons, List.map_nil, ↓reduceIte, reduceCtorEq, if_true, if_false, true_and, and_true, false_and, and_false, and_self, not_true_eq_false, not_false_eq_true, forall_const, true_implies, false_implies, implies_true, Nat.reduceAdd, Nat.reduceSub, Nat.reduceLT, Nat.reduceLeDiff, Nat.reduceEqDiff, Nat.reduceMul, Nat.reducePow, Nat.add_one_ne_zero, Nat.add_one_sub_one, Nat.add_zero, Nat.zero_add, Int.reduceLT, Int.reduceLE, Int.reduceNeg, Int.reduceAdd, Int.reduceSub, Int.reduceToNat, Int.reduceEq, Int.reduceMul, Int.reducePow, Int.cast_ofNat_Int, Int.toNat_natCast, ne_eq, Bool.false_eq_true, true_or, or_true, or_self, Nat.not_lt_zero, ite_e0, ite_e1, lc_lt, lc_ge, lc_gt, lc_le, lc_eq, Classical.not_not]
  with_reducible repeat' (first | (refine And.intro ?_ ?_) | intro _)
  all_goals try omega
  refine kc_put (by omega) (by omega) f1 (fun σ2 f2 g2 s2 => ?_)
  simp -implicitDefEqProofs only [↓b88_0, ↓b88_10, ↓b88_12, ↓b88_17, ↓b88_22, ↓b88_27, ↓b88_33, ↓b88_39, b88_0, b88_10, b88_12, b88_17, b88_22, b88_27, b88_33, b88_39, nLE1, layE7, layE4, layE3, layE2, f2, n3_89, I32, ↓xb, xb, ps, lpad, lat, aok2, rd2, aaok, aav, alok, alen, aok, akk, csum, isLg, cmpI, clsE, Option.elim, eq_self, List.mem_cons, List.not_mem_nil, or_false, false_or, List.append_nil, List.nil_append, List.cons_append, List.append_eq, List.replicate, List.length_cons, List.length_nil, List.map_cons, List.map_nil, ↓reduceIte, reduceCtorEq, if_true, if_false, true_and, and_true, false_and, and_false, and_self, not_true_eq_false, not_false_eq_true, forall_const, true_implies, false_implies, implies_true, Nat.reduceAdd, Nat.reduceSub, Nat.reduceLT, Nat.reduceLeDiff, Nat.reduceEqDiff, Nat.reduceMul, Nat.reducePow, Nat.add_one_ne_zero, Nat.add_one_sub_one, Nat.add_zero, Nat.zero_add, Int.reduceLT, Int.reduceLE, Int.reduceNeg, Int.reduceAdd, Int.reduceSub, Int.reduceToNat, Int.reduceEq, Int.reduceMul, Int.reducePow, Int.cast_ofNat_Int, Int.toNat_natCast, ne_eq, Bool.false_eq_true, true_or, or_true, or_self, Nat.not_lt_zero, ite_e0, ite_e1, lc_lt, lc_ge, lc_gt, lc_le, lc_eq, Classical.not_not]
  with_reducible repeat' (first | (refine And.intro ?_ ?_) | intro _)
  all_goals try omega
  refine kc_put (by omega) (by omega) f2 (fun σ3 f3 g3 s3 => ?_)
  simp -implicitDefEqProofs only [↓b88_0, ↓b88_10, ↓b88_12, ↓b88_17, ↓b88_22, ↓b88_27, ↓b88_33, ↓b88_39, b88_0, b88_10, b88_12, b88_17, b88_22, b88_27, b88_33, b88_39, nLE1, layE7, layE4, layE3, layE2, f3, n3_89, I32, ↓xb, xb, ps, lpad, lat, aok2, rd2, aaok, aav, alok, alen, aok, akk, csum, isLg, cmpI, clsE, Option.elim, eq_self, List.mem_cons, List.not_mem_nil, or_false, false_or, List.append_nil, List.nil_append, List.cons_append, List.append_eq, List.replicate, List.length_cons, List.length_nil, List.map_cons, List.map_nil, ↓reduceIte, reduceCtorEq, if_true, if_false, true_and, and_true, false_and, and_false, and_self, not_true_eq_false, not_false_eq_true, forall_const, true_implies, false_implies, implies_true, Nat.reduceAdd, Nat.reduceSub, Nat.reduceLT, Nat.reduceLeDiff, Nat.reduceEqDiff, Nat.reduceMul, Nat.reducePow, Nat.add_one_ne_zero, Nat.add_one_sub_one, Nat.add_zero, Nat.zero_add, Int.reduceLT, Int.reduceLE, Int.reduceNeg, Int.reduceAdd, Int.reduceSub, Int.reduceToNat, Int.reduceEq, Int.reduceMul, Int.reducePow, Int.cast_ofNat_Int, Int.toNat_natCast, ne_eq, Bool.false_eq_true, true_or, or_true, or_self, Nat.not_lt_zero, ite_e0, ite_e1, lc_lt, lc_ge, lc_gt, lc_le, lc_eq, Classical.not_not]
  with_reducible repeat' (first | (refine And.intro ?_ ?_) | intro _)
  all_goals try omega
  refine kc_put (by omega) (by omega) f3 (fun σ4 f4 g4 s4 => ?_)
  simp -implicitDefEqProofs only [↓b88_0, ↓b88_10, ↓b88_12, ↓b88_17, ↓b88_22, ↓b88_27, ↓b88_33, ↓b88_39, b88_0, b88_10, b88_12, b88_17, b88_22, b88_27, b88_33, b88_39, nLE1, layE7, layE4, layE3, layE2, f4, n3_89, I32, ↓xb, xb, ps, lpad, lat, aok2, rd2, aaok, aav, alok, alen, aok, akk, csum, isLg, cmpI, clsE, Option.elim, eq_self, List.mem_cons, List.not_mem_nil, or_false, false_or, List.append_nil, List.nil_append, List.cons_append, List.append_eq, List.replicate, List.length_cons, List.length_nil, List.map_cons, List.map_nil, ↓reduceIte, reduceCtorEq, if_true, if_false, true_and, and_true, false_and, and_false, and_self, not_true_eq_false, not_false_eq_true, forall_const, true_implies, false_implies, implies_true, Nat.reduceAdd, Nat.reduceSub, Nat.reduceLT, Nat.reduceLeDiff, Nat.reduceEqDiff, Nat.reduceMul, Nat.reducePow, Nat.add_one_ne_zero, Nat.add_one_sub_one, Nat.add_zero, Nat.zero_add, Int.reduceLT, Int.reduceLE, Int.reduceNeg, Int.reduceAdd, Int.reduceSub, Int.reduceToNat, Int.reduceEq, Int.reduceMul, Int.reducePow, Int.cast_ofNat_Int, Int.toNat_natCast, ne_eq, Bool.false_eq_true, true_or, or_true, or_self, Nat.not_lt_zero, ite_e0, ite_e1, lc_lt, lc_ge, lc_gt, lc_le, lc_eq, Classical.not_not]
  with_reducible repeat' (first | (refine And.intro ?_ ?_) | intro _)
  all_goals try omega
  refine kc_put (by omega) (by omega) f4 (fun σ5 f5 g5 s5 => ?_)
  simp -implicitDefEqProofs only [↓b88_0, ↓b88_10, ↓b88_12, ↓b88_17, ↓b88_22, ↓b88_27, ↓b88_33, ↓b88_39, b88_0, b88_10, b88_12, b88_17, b88_22, b88_27, b88_33, b88_39, nLE1, layE7, layE4, layE3, layE2, f5, n3_89, I32, ↓xb, xb, ps, lpad, lat, aok2, rd2, aaok, aav, alok, alen, aok, akk, csum, isLg, cmpI, clsE, Option.elim, eq_self, List.mem_cons, List.not_mem_nil, or_false, false_or, List.append_nil, List.nil_append, List.cons_append, List.append_eq, List.replicate, List.length_cons, List.length_nil, List.map_cons, List.map_nil, ↓reduceIte, reduceCtorEq, if_true, if_false, true_and, and_true, false_and, and_false, and_self, not_true_eq_false, not_false_eq_true, forall_const, true_implies, false_implies, implies_true, Nat.reduceAdd, Nat.reduceSub, Nat.reduceLT, Nat.reduceLeDiff, Nat.reduceEqDiff, Nat.reduceMul, Nat.reducePow, Nat.add_one_ne_zero, Nat.add_one_sub_one, Nat.add_zero, Nat.zero_add, Int.reduceLT, Int.reduceLE, Int.reduceNeg, Int.reduceAdd, Int.reduceSub, Int.reduceToNat, Int.reduceEq, Int.reduceMul, Int.reducePow, Int.cast_ofNat_Int, Int.toNat_natCast, ne_eq, Bool.false_eq_true, true_or, or_true, or_self, Nat.not_lt_zero, ite_e0, ite_e1, lc_lt, lc_ge, lc_gt, lc_le, lc_eq, Classical.not_not]
  with_reducible repeat' (first | (refine And.intro ?_ ?_) | intro _)
  all_goals try omega
  refine qvi (q1 (by omega) σ5 (by omega) (fun i => ?_) ((((s1.trans s2).trans s3).trans s4).trans s5)) (by omega)
  unfold fdA
  rw [g5 i, funext g4, funext g3, funext g2, funext g1, show (t + 4 + 4 + 4 + 4).toNat = t.toNat + 16 by omega, show (t + 4 + 4 + 4).toNat = t.toNat + 12 by omega, show (t + 4 + 4).toNat = t.toNat + 8 by omega, show (t + 4).toNat = t.toNat + 4 by omega]
set_option maxRecDepth 100000 in
set_option maxHeartbeats 1000000 in
theorem kx_feed (hk : 8 ≤ k) {a b c d e t : Int} (ht : 0 ≤ t ∧ t ≤ 400) (e7 : σ 21 39 0 0 = t) (q0 : ¬ t ≤ 380 → Q (some (vi (-1))) σ) (q1 : t ≤ 380 → ∀ σ', σ' 21 39 0 0 = t + 20 → (∀ i, σ' 21 49 0 i = fdM (fun i => σ 21 49 0 i) t.toNat a b c d e i) → same SU σ σ' → Q (some (vi (t + 20))) σ') : CC G w w k (0, 0) 148 [vr 21 0 0, vi a, vi b, vi c, vi d, vi e] σ Q := by
  refine CC_vb ok148 (by decide) (sm3_ok G w) 60 [] (Nat.le_of_ble_eq_true rfl) ?_
  simp -implicitDefEqProofs only [↓b148_0, ↓b148_13, ↓b148_15, ↓b148_20, ↓b148_25, ↓b148_30, ↓b148_36, ↓b148_42, b148_0, b148_13, b148_15, b148_20, b148_25, b148_30, b148_36, b148_42, nLE2, layE8, e7, n3_149, I32, ↓xb, xb, ps, lpad, lat, aok2, rd2, aaok, aav, alok, alen, aok, akk, csum, isLg, cmpI, clsE, Option.elim, eq_self, List.mem_cons, List.not_mem_nil, or_false, false_or, List.append_nil, List.nil_append, List.cons_append, List.append_eq, List.replicate, List.length_cons, List.length_nil, List.map_cons, List.map_nil, ↓reduceIte, reduceCtorEq, if_true, if_false, true_and, and_true, false_and, and_false, and_self, not_true_eq_false, not_false_eq_true, forall_const, true_implies, false_implies, implies_true, Nat.reduceAdd, Nat.reduceSub, Nat.reduceLT, Nat.reduceLeDiff, Nat.reduceEqDiff, Nat.reduceMul, Nat.reducePow, Nat.add_one_ne_zero, Nat.add_one_sub_one, Nat.add_zero, Nat.zero_add, Int.reduceLT, Int.reduceLE, Int.reduceNeg, Int.reduceAdd, Int.reduceSub, Int.reduceToNat, Int.reduceEq, Int.reduceMul, Int.reducePow, Int.cast_ofNat_Int, Int.toNat_natCast, ne_eq, Bool.false_eq_true, true_or, or_true, or_self, Nat.not_lt_zero, ite_e0, ite_e1, lc_lt, lc_ge, lc_gt, lc_le, lc_eq, Classical.not_not]
  with_reducible repeat' (first | (refine And.intro ?_ ?_) | intro _)
  all_goals try omega
  all_goals try exact q0 (by omega)
  refine kx_put (by omega) (by omega) e7 (fun σ1 f1 g1 s1 => ?_)
  simp -implicitDefEqProofs only [↓b148_0, ↓b148_13, ↓b148_15, ↓b148_20, ↓b148_25, ↓b148_30, ↓b148_36, ↓b148_42, b148_0, b148_13, b148_15, b148_20, b148_25, b148_30, b148_36, b148_42, nLE2, layE8, f1, n3_149, I32, ↓xb, xb, ps, lpad, lat, aok2, rd2, aaok, aav, alok, alen, aok, akk, csum, isLg, cmpI, clsE, Option.elim, eq_self, List.mem_cons, List.not_mem_nil, or_false, false_or, List.append_nil, List.nil_append, List.cons_append, List.append_eq, List.replicate, List.length_cons, List.length_nil, List.map_cons, List.map_nil, ↓reduceIte, reduceCtorEq, if_true, if_false, true_and, and_true, false_and, and_false, and_self, not_true_eq_false, not_false_eq_true, forall_const, true_implies, false_implies, implies_true, Nat.reduceAdd, Nat.reduceSub, Nat.reduceLT, Nat.reduceLeDiff, Nat.reduceEqDiff, Nat.reduceMul, Nat.reducePow, Nat.add_one_ne_zero, Nat.add_one_sub_one, Nat.add_zero, Nat.zero_add, Int.reduceLT, Int.reduceLE, Int.reduceNeg, Int.reduceAdd, Int.reduceSub, Int.reduceToNat, Int.reduceEq, Int.reduceMul, Int.reducePow, Int.cast_ofNat_Int, Int.toNat_natCast, ne_eq, Bool.false_eq_true, true_or, or_true, or_self, Nat.not_lt_zero, ite_e0, ite_e1, lc_lt, lc_ge, lc_gt, lc_le, lc_eq, Classical.not_not]
  with_reducible repeat' (first | (refine And.intro ?_ ?_) | intro _)
  all_goals try omega
  refine kx_put (by omega) (by omega) f1 (fun σ2 f2 g2 s2 => ?_)
  simp -implicitDefEqProofs only [↓b148_0, ↓b148_13, ↓b148_15, ↓b148_20, ↓b148_25, ↓b148_30, ↓b148_36, ↓b148_42, b148_0, b148_13, b148_15, b148_20, b148_25, b148_30, b148_36, b148_42, nLE2, layE8, f2, n3_149, I32, ↓xb, xb, ps, lpad, lat, aok2, rd2, aaok, aav, alok, alen, aok, akk, csum, isLg, cmpI, clsE, Option.elim, eq_self, List.mem_cons, List.not_mem_nil, or_false, false_or, List.append_nil, List.nil_append, List.cons_append, List.append_eq, List.replicate, List.length_cons, List.length_nil, List.map_cons, List.map_nil, ↓reduceIte, reduceCtorEq, if_true, if_false, true_and, and_true, false_and, and_false, and_self, not_true_eq_false, not_false_eq_true, forall_const, true_implies, false_implies, implies_true, Nat.reduceAdd, Nat.reduceSub, Nat.reduceLT, Nat.reduceLeDiff, Nat.reduceEqDiff, Nat.reduceMul, Nat.reducePow, Nat.add_one_ne_zero, Nat.add_one_sub_one, Nat.add_zero, Nat.zero_add, Int.reduceLT, Int.reduceLE, Int.reduceNeg, Int.reduceAdd, Int.reduceSub, Int.reduceToNat, Int.reduceEq, Int.reduceMul, Int.reducePow, Int.cast_ofNat_Int, Int.toNat_natCast, ne_eq, Bool.false_eq_true, true_or, or_true, or_self, Nat.not_lt_zero, ite_e0, ite_e1, lc_lt, lc_ge, lc_gt, lc_le, lc_eq, Classical.not_not]
  with_reducible repeat' (first | (refine And.intro ?_ ?_) | intro _)
  all_goals try omega
  refine kx_put (by omega) (by omega) f2 (fun σ3 f3 g3 s3 => ?_)
  simp -implicitDefEqProofs only [↓b148_0, ↓b148_13, ↓b148_15, ↓b148_20, ↓b148_25, ↓b148_30, ↓b148_36, ↓b148_42, b148_0, b148_13, b148_15, b148_20, b148_25, b148_30, b148_36, b148_42, nLE2, layE8, f3, n3_149, I32, ↓xb, xb, ps, lpad, lat, aok2, rd2, aaok, aav, alok, alen, aok, akk, csum, isLg, cmpI, clsE, Option.elim, eq_self, List.mem_cons, List.not_mem_nil, or_false, false_or, List.append_nil, List.nil_append, List.cons_append, List.append_eq, List.replicate, List.length_cons, List.length_nil, List.map_cons, List.map_nil, ↓reduceIte, reduceCtorEq, if_true, if_false, true_and, and_true, false_and, and_false, and_self, not_true_eq_false, not_false_eq_true, forall_const, true_implies, false_implies, implies_true, Nat.reduceAdd, Nat.reduceSub, Nat.reduceLT, Nat.reduceLeDiff, Nat.reduceEqDiff, Nat.reduceMul, Nat.reducePow, Nat.add_one_ne_zero, Nat.add_one_sub_one, Nat.add_zero, Nat.zero_add, Int.reduceLT, Int.reduceLE, Int.reduceNeg, Int.reduceAdd, Int.reduceSub, Int.reduceToNat, Int.reduceEq, Int.reduceMul, Int.reducePow, Int.cast_ofNat_Int, Int.toNat_natCast, ne_eq, Bool.false_eq_true, true_or, or_true, or_self, Nat.not_lt_zero, ite_e0, ite_e1, lc_lt, lc_ge, lc_gt, lc_le, lc_eq, Classical.not_not]
  with_reducible repeat' (first | (refine And.intro ?_ ?_) | intro _)
  all_goals try omega
  refine kx_put (by omega) (by omega) f3 (fun σ4 f4 g4 s4 => ?_)
  simp -implicitDefEqProofs only [↓b148_0, ↓b148_13, ↓b148_15, ↓b148_20, ↓b148_25, ↓b148_30, ↓b148_36, ↓b148_42, b148_0, b148_13, b148_15, b148_20, b148_25, b148_30, b148_36, b148_42, nLE2, layE8, f4, n3_149, I32, ↓xb, xb, ps, lpad, lat, aok2, rd2, aaok, aav, alok, alen, aok, akk, csum, isLg, cmpI, clsE, Option.elim, eq_self, List.mem_cons, List.not_mem_nil, or_false, false_or, List.append_nil, List.nil_append, List.cons_append, List.append_eq, List.replicate, List.length_cons, List.length_nil, List.map_cons, List.map_nil, ↓reduceIte, reduceCtorEq, if_true, if_false, true_and, and_true, false_and, and_false, and_self, not_true_eq_false, not_false_eq_true, forall_const, true_implies, false_implies, implies_true, Nat.reduceAdd, Nat.reduceSub, Nat.reduceLT, Nat.reduceLeDiff, Nat.reduceEqDiff, Nat.reduceMul, Nat.reducePow, Nat.add_one_ne_zero, Nat.add_one_sub_one, Nat.add_zero, Nat.zero_add, Int.reduceLT, Int.reduceLE, Int.reduceNeg, Int.reduceAdd, Int.reduceSub, Int.reduceToNat, Int.reduceEq, Int.reduceMul, Int.reducePow, Int.cast_ofNat_Int, Int.toNat_natCast, ne_eq, Bool.false_eq_true, true_or, or_true, or_self, Nat.not_lt_zero, ite_e0, ite_e1, lc_lt, lc_ge, lc_gt, lc_le, lc_eq, Classical.not_not]
  with_reducible repeat' (first | (refine And.intro ?_ ?_) | intro _)
  all_goals try omega
  refine kx_put (by omega) (by omega) f4 (fun σ5 f5 g5 s5 => ?_)
  simp -implicitDefEqProofs only [↓b148_0, ↓b148_13, ↓b148_15, ↓b148_20, ↓b148_25, ↓b148_30, ↓b148_36, ↓b148_42, b148_0, b148_13, b148_15, b148_20, b148_25, b148_30, b148_36, b148_42, nLE2, layE8, f5, n3_149, I32, ↓xb, xb, ps, lpad, lat, aok2, rd2, aaok, aav, alok, alen, aok, akk, csum, isLg, cmpI, clsE, Option.elim, eq_self, List.mem_cons, List.not_mem_nil, or_false, false_or, List.append_nil, List.nil_append, List.cons_append, List.append_eq, List.replicate, List.length_cons, List.length_nil, List.map_cons, List.map_nil, ↓reduceIte, reduceCtorEq, if_true, if_false, true_and, and_true, false_and, and_false, and_self, not_true_eq_false, not_false_eq_true, forall_const, true_implies, false_implies, implies_true, Nat.reduceAdd, Nat.reduceSub, Nat.reduceLT, Nat.reduceLeDiff, Nat.reduceEqDiff, Nat.reduceMul, Nat.reducePow, Nat.add_one_ne_zero, Nat.add_one_sub_one, Nat.add_zero, Nat.zero_add, Int.reduceLT, Int.reduceLE, Int.reduceNeg, Int.reduceAdd, Int.reduceSub, Int.reduceToNat, Int.reduceEq, Int.reduceMul, Int.reducePow, Int.cast_ofNat_Int, Int.toNat_natCast, ne_eq, Bool.false_eq_true, true_or, or_true, or_self, Nat.not_lt_zero, ite_e0, ite_e1, lc_lt, lc_ge, lc_gt, lc_le, lc_eq, Classical.not_not]
  with_reducible repeat' (first | (refine And.intro ?_ ?_) | intro _)
  all_goals try omega
  refine qvi (q1 (by omega) σ5 (by omega) (fun i => ?_) ((((s1.trans s2).trans s3).trans s4).trans s5)) (by omega)
  unfold fdM
  rw [g5 i, funext g4, funext g3, funext g2, funext g1, show (t + 4 + 4 + 4 + 4).toNat = t.toNat + 16 by omega, show (t + 4 + 4 + 4).toNat = t.toNat + 12 by omega, show (t + 4 + 4).toNat = t.toNat + 8 by omega, show (t + 4).toNat = t.toNat + 4 by omega]
set_option maxRecDepth 100000 in
set_option maxHeartbeats 1000000 in
theorem kc_end (hk : 8 ≤ k) {n t : Int} (e7 : σ 0 7 0 0 = t) (q0 : ¬ (0 ≤ n ∧ n ≤ t) → Q (some (vi (-1))) σ) (q1 : (0 ≤ n ∧ n ≤ t) → Q (some (vi n)) (up σ 0 7 0 0 n)) : CC G w w k (0, 0) 90 [vr 0 0 0, vi n] σ Q := by
  refine CC_vb ok90 (by decide) (sm3_ok G w) 60 [] (Nat.le_of_ble_eq_true rfl) ?_
  simp -implicitDefEqProofs only [↓b90_0, ↓b90_9, ↓b90_12, ↓b90_14, b90_0, b90_9, b90_12, b90_14, nLE1, layE7, layE4, layE3, layE2, e7, k3_76, r76, I32, ↓xb, xb, ps, lpad, lat, aok2, rd2, aaok, aav, alok, alen, aok, akk, csum, isLg, cmpI, clsE, Option.elim, eq_self, List.mem_cons, List.not_mem_nil, or_false, false_or, List.append_nil, List.nil_append, List.cons_append, List.append_eq, List.replicate, List.length_cons, List.length_nil, List.map_cons, List.map_nil, ↓reduceIte, reduceCtorEq, if_true, if_false, true_and, and_true, false_and, and_false, and_self, not_true_eq_false, not_false_eq_true, forall_const, true_implies, false_implies, implies_true, Nat.reduceAdd, Nat.reduceSub, Nat.reduceLT, Nat.reduceLeDiff, Nat.reduceEqDiff, Nat.reduceMul, Nat.reducePow, Nat.add_one_ne_zero, Nat.add_one_sub_one, Nat.add_zero, Nat.zero_add, Int.reduceLT, Int.reduceLE, Int.reduceNeg, Int.reduceAdd, Int.reduceSub, Int.reduceToNat, Int.reduceEq, Int.reduceMul, Int.reducePow, Int.cast_ofNat_Int, Int.toNat_natCast, ne_eq, Bool.false_eq_true, true_or, or_true, or_self, Nat.not_lt_zero, ite_e0, ite_e1, lc_lt, lc_ge, lc_gt, lc_le, lc_eq, Classical.not_not]
  with_reducible repeat' (first | (refine And.intro ?_ ?_) | intro _)
  all_goals try (first | omega | assumption | exact q0 (by omega) | exact qvi (q1 (by omega)) (rfl))
set_option maxRecDepth 100000 in
set_option maxHeartbeats 1000000 in
theorem kx_end (hk : 8 ≤ k) {n t : Int} (e7 : σ 21 39 0 0 = t) (q0 : ¬ (0 ≤ n ∧ n ≤ t) → Q (some (vi (-1))) σ) (q1 : (0 ≤ n ∧ n ≤ t) → Q (some (vi n)) (up σ 21 39 0 0 n)) : CC G w w k (0, 0) 150 [vr 21 0 0, vi n] σ Q := by
  refine CC_vb ok150 (by decide) (sm3_ok G w) 60 [] (Nat.le_of_ble_eq_true rfl) ?_
  simp -implicitDefEqProofs only [↓b150_0, ↓b150_4, ↓b150_12, ↓b150_14, b150_0, b150_4, b150_12, b150_14, nLE3, layE8, e7, I32, ↓xb, xb, ps, lpad, lat, aok2, rd2, aaok, aav, alok, alen, aok, akk, csum, isLg, cmpI, clsE, Option.elim, eq_self, List.mem_cons, List.not_mem_nil, or_false, false_or, List.append_nil, List.nil_append, List.cons_append, List.append_eq, List.replicate, List.length_cons, List.length_nil, List.map_cons, List.map_nil, ↓reduceIte, reduceCtorEq, if_true, if_false, true_and, and_true, false_and, and_false, and_self, not_true_eq_false, not_false_eq_true, forall_const, true_implies, false_implies, implies_true, Nat.reduceAdd, Nat.reduceSub, Nat.reduceLT, Nat.reduceLeDiff, Nat.reduceEqDiff, Nat.reduceMul, Nat.reducePow, Nat.add_one_ne_zero, Nat.add_one_sub_one, Nat.add_zero, Nat.zero_add, Int.reduceLT, Int.reduceLE, Int.reduceNeg, Int.reduceAdd, Int.reduceSub, Int.reduceToNat, Int.reduceEq, Int.reduceMul, Int.reducePow, Int.cast_ofNat_Int, Int.toNat_natCast, ne_eq, Bool.false_eq_true, true_or, or_true, or_self, Nat.not_lt_zero, ite_e0, ite_e1, lc_lt, lc_ge, lc_gt, lc_le, lc_eq, Classical.not_not]
  with_reducible repeat' (first | (refine And.intro ?_ ?_) | intro _)
  all_goals try (first | omega | assumption | exact q0 (by omega) | exact qvi (q1 (by omega)) (rfl))
def ofP (P : Pt) (h a : Int) : Int := if a < 6 then P 8 (6 * h + a).toNat else if a = 6 then P 5 h.toNat else if a = 7 then P 6 h.toNat else if a = 8 then P 3 h.toNat else P 4 h.toNat
theorem RT.ofI {g : Prop} {t : Nat} (R : RT g σ t P) {h a : Int} (h1 : 0 ≤ h ∧ h < 12) (h2 : 0 ≤ a ∧ a ≤ 9) : σ t 9 (h.toNat + 1) a.toNat = ofP P h a := by
  unfold ofP
  by_cases c : a < 6
  · rw [if_pos c]; exact R.storeI h1 (by omega)
  · rw [if_neg c]
    by_cases c6 : a = 6
    · rw [if_pos c6, c6]; exact R.people (by omega)
    · rw [if_neg c6]
      by_cases c7 : a = 7
      · rw [if_pos c7, c7]; exact R.isBack (by omega)
      · rw [if_neg c7]
        by_cases c8 : a = 8
        · rw [if_pos c8, c8]; exact R.x (by omega)
        · rw [if_neg c8, show a = 9 by omega]; exact R.y (by omega)
set_option maxRecDepth 100000 in
set_option maxHeartbeats 1000000 in
theorem kc_of (R : RT True σ 1 P) (W : WF P) (hk : 8 ≤ k) {h a : Int} (q0 : ¬ ((0 ≤ h ∧ h < P 2 0) ∧ (0 ≤ a ∧ a ≤ 9)) → Q (some (vi (-1))) σ) (q1 : ((0 ≤ h ∧ h < P 2 0) ∧ (0 ≤ a ∧ a ≤ 9)) → Q (some (vi (ofP P h a))) σ) : CC G w w k (0, 0) 95 [vr 0 0 0, vi h, vi a] σ Q := by
  have wh := W.sc.1
  have e1 := R.houses
  refine CC_vb ok95 (by decide) (sm3_ok G w) 60 [] (Nat.le_of_ble_eq_true rfl) ?_
  simp -implicitDefEqProofs only [↓b95_0, ↓b95_8, ↓b95_11, ↓b95_18, ↓b95_21, ↓b95_23, ↓b95_32, b95_0, b95_8, b95_11, b95_18, b95_21, b95_23, b95_32, nLE1, layE7, layE4, layE3, layE2, e1, k3_45, r45, k3_76, r76, I32, ↓xb, xb, ps, lpad, lat, aok2, rd2, aaok, aav, alok, alen, aok, akk, csum, isLg, cmpI, clsE, Option.elim, eq_self, List.mem_cons, List.not_mem_nil, or_false, false_or, List.append_nil, List.nil_append, List.cons_append, List.append_eq, List.replicate, List.length_cons, List.length_nil, List.map_cons, List.map_nil, ↓reduceIte, reduceCtorEq, if_true, if_false, true_and, and_true, false_and, and_false, and_self, not_true_eq_false, not_false_eq_true, forall_const, true_implies, false_implies, implies_true, Nat.reduceAdd, Nat.reduceSub, Nat.reduceLT, Nat.reduceLeDiff, Nat.reduceEqDiff, Nat.reduceMul, Nat.reducePow, Nat.add_one_ne_zero, Nat.add_one_sub_one, Nat.add_zero, Nat.zero_add, Int.reduceLT, Int.reduceLE, Int.reduceNeg, Int.reduceAdd, Int.reduceSub, Int.reduceToNat, Int.reduceEq, Int.reduceMul, Int.reducePow, Int.cast_ofNat_Int, Int.toNat_natCast, ne_eq, Bool.false_eq_true, true_or, or_true, or_self, Nat.not_lt_zero, ite_e0, ite_e1, lc_lt, lc_ge, lc_gt, lc_le, lc_eq, Classical.not_not]
  with_reducible repeat' (first | (refine And.intro ?_ ?_) | intro _)
  all_goals try (first | omega | assumption | exact q0 (by omega) | exact qvi (q1 (by omega)) ((R.ofI (by omega) (by omega)).symm))
set_option maxRecDepth 100000 in
set_option maxHeartbeats 1000000 in
theorem kx_of (M : MR σ P) (W : WF P) (hk : 8 ≤ k) {h a : Int} (q0 : ¬ ((0 ≤ h ∧ h < P 2 0) ∧ (0 ≤ a ∧ a ≤ 9)) → Q (some (vi (-1))) σ) (q1 : ((0 ≤ h ∧ h < P 2 0) ∧ (0 ≤ a ∧ a ≤ 9)) → Q (some (vi (ofP P h a))) σ) : CC G w w k (0, 0) 195 [vr 21 0 0, vi h, vi a] σ Q := by
  have wh := W.sc.1
  have hM : ∀ f i, 2 ≤ f → f ≤ 38 → σ 21 f 0 i = P f i := M
  unfold ofP at q1
  refine CC_vb ok195 (by decide) (sm3_ok G w) 60 [] (Nat.le_of_ble_eq_true rfl) ?_
  simp -implicitDefEqProofs only [↓b195_0, ↓b195_5, ↓b195_8, ↓b195_17, ↓b195_20, ↓b195_22, ↓b195_28, ↓b195_42, ↓b195_48, ↓b195_57, ↓b195_63, ↓b195_72, ↓b195_78, ↓b195_87, ↓b195_93, b195_0, b195_5, b195_8, b195_17, b195_20, b195_22, b195_28, b195_42, b195_48, b195_57, b195_63, b195_72, b195_78, b195_87, b195_93, nLE3, layE8, hM, k3_130, r130, k3_128, r128, I32, ↓xb, xb, ps, lpad, lat, aok2, rd2, aaok, aav, alok, alen, aok, akk, csum, isLg, cmpI, clsE, Option.elim, eq_self, List.mem_cons, List.not_mem_nil, or_false, false_or, List.append_nil, List.nil_append, List.cons_append, List.append_eq, List.replicate, List.length_cons, List.length_nil, List.map_cons, List.map_nil, ↓reduceIte, reduceCtorEq, if_true, if_false, true_and, and_true, false_and, and_false, and_self, not_true_eq_false, not_false_eq_true, forall_const, true_implies, false_implies, implies_true, Nat.reduceAdd, Nat.reduceSub, Nat.reduceLT, Nat.reduceLeDiff, Nat.reduceEqDiff, Nat.reduceMul, Nat.reducePow, Nat.add_one_ne_zero, Nat.add_one_sub_one, Nat.add_zero, Nat.zero_add, Int.reduceLT, Int.reduceLE, Int.reduceNeg, Int.reduceAdd, Int.reduceSub, Int.reduceToNat, Int.reduceEq, Int.reduceMul, Int.reducePow, Int.cast_ofNat_Int, Int.toNat_natCast, ne_eq, Bool.false_eq_true, true_or, or_true, or_self, Nat.not_lt_zero, ite_e0, ite_e1, lc_lt, lc_ge, lc_gt, lc_le, lc_eq, Classical.not_not]
  with_reducible repeat' (first | (refine And.intro ?_ ?_) | intro _)
  all_goals try (first | omega | assumption | exact q0 (by omega) | exact qvi (q1 (by omega)) (by (repeat' split) <;> first | rfl | omega))
def ndP (P : Pt) (n a : Int) : Int := if a < 7 then P (9 + a.toNat) n.toNat else if P 13 n.toNat ≤ P 2 6 % 96 ∧ P 2 6 % 96 ≤ P 14 n.toNat then 1 else 0
theorem RT.ndI {g : Prop} {t : Nat} (R : RT g σ t P) {n a : Int} (h1 : 0 ≤ n ∧ n < 40) (h2 : 0 ≤ a ∧ a < 7) : σ t 11 (n.toNat + 1) a.toNat = ndP P n a := by
  unfold ndP
  rw [if_pos h2.2]
  have := h2.1
  have : a = 0 ∨ a = 1 ∨ a = 2 ∨ a = 3 ∨ a = 4 ∨ a = 5 ∨ a = 6 := by omega
  rcases this with e | e | e | e | e | e | e <;> subst e
  · exact R.need0 (by omega)
  · exact R.need1 (by omega)
  · exact R.need2 (by omega)
  · exact R.need3 (by omega)
  · exact R.need4 (by omega)
  · exact R.need5 (by omega)
  · exact R.need6 (by omega)
set_option maxRecDepth 100000 in
set_option maxHeartbeats 1000000 in
theorem kc_needs (R : RT True σ 1 P) (W : WF P) (hk : 8 ≤ k) {n a : Int} (q0 : ¬ ((0 ≤ n ∧ n < P 2 1) ∧ (0 ≤ a ∧ a ≤ 7)) → Q (some (vi (-1))) σ) (q1 : ((0 ≤ n ∧ n < P 2 1) ∧ (0 ≤ a ∧ a ≤ 7)) → Q (some (vi (ndP P n a))) σ) : CC G w w k (0, 0) 96 [vr 0 0 0, vi n, vi a] σ Q := by
  have wn := W.sc.2.1
  have w6 := W.sc.2.2.2.2.2.2.1
  have e1 := R.needs
  have e7 := R.now
  by_cases hn : 0 ≤ n ∧ n < 40
  · have s4 := R.need4 (n := n.toNat) (by omega)
    have s5 := R.need5 (n := n.toNat) (by omega)
    refine CC_vb ok96 (by decide) (sm3_ok G w) 60 [] (Nat.le_of_ble_eq_true rfl) ?_
    simp -implicitDefEqProofs only [↓b96_0, ↓b96_14, ↓b96_17, ↓b96_24, ↓b96_27, ↓b96_29, ↓b96_35, ↓b96_43, ↓b96_46, ↓b96_50, ↓b96_51, ↓b96_52, ↓b96_61, b96_0, b96_14, b96_17, b96_24, b96_27, b96_29, b96_35, b96_43, b96_46, b96_50, b96_51, b96_52, b96_61, nLE1, layE7, layE4, layE3, layE2, e1, e7, s4, s5, k3_76, r76, k3_54, r54, I32, ↓xb, xb, ps, lpad, lat, aok2, rd2, aaok, aav, alok, alen, aok, akk, csum, isLg, cmpI, clsE, Option.elim, eq_self, List.mem_cons, List.not_mem_nil, or_false, false_or, List.append_nil, List.nil_append, List.cons_append, List.append_eq, List.replicate, List.length_cons, List.length_nil, List.map_cons, List.map_nil, ↓reduceIte, reduceCtorEq, if_true, if_false, true_and, and_true, false_and, and_false, and_self, not_true_eq_false, not_false_eq_true, forall_const, true_implies, false_implies, implies_true, Nat.reduceAdd, Nat.reduceSub, Nat.reduceLT, Nat.reduceLeDiff, Nat.reduceEqDiff, Nat.reduceMul, Nat.reducePow, Nat.add_one_ne_zero, Nat.add_one_sub_one, Nat.add_zero, Nat.zero_add, Int.reduceLT, Int.reduceLE, Int.reduceNeg, Int.reduceAdd, Int.reduceSub, Int.reduceToNat, Int.reduceEq, Int.reduceMul, Int.reducePow, Int.cast_ofNat_Int, Int.toNat_natCast, ne_eq, Bool.false_eq_true, true_or, or_true, or_self, Nat.not_lt_zero, ite_e0, ite_e1, lc_lt, lc_ge, lc_gt, lc_le, lc_eq, Classical.not_not]
    with_reducible repeat' (first | (refine And.intro ?_ ?_) | intro _)
    all_goals try omega
    all_goals try exact q0 (by omega)
    all_goals refine qvi (q1 (by omega)) ?_
    all_goals first | exact (R.ndI (by omega) (by omega)).symm | (unfold ndP; rw [if_neg (by omega)]; first | exact if_pos (by assumption) | exact if_neg (by assumption))
  · refine CC_vb ok96 (by decide) (sm3_ok G w) 60 [] (Nat.le_of_ble_eq_true rfl) ?_
    simp -implicitDefEqProofs only [↓b96_0, ↓b96_14, ↓b96_17, ↓b96_24, ↓b96_27, ↓b96_29, ↓b96_35, ↓b96_43, ↓b96_46, ↓b96_50, ↓b96_51, ↓b96_52, ↓b96_61, b96_0, b96_14, b96_17, b96_24, b96_27, b96_29, b96_35, b96_43, b96_46, b96_50, b96_51, b96_52, b96_61, nLE1, layE7, layE4, layE3, layE2, e1, e7, k3_76, r76, k3_54, r54, I32, ↓xb, xb, ps, lpad, lat, aok2, rd2, aaok, aav, alok, alen, aok, akk, csum, isLg, cmpI, clsE, Option.elim, eq_self, List.mem_cons, List.not_mem_nil, or_false, false_or, List.append_nil, List.nil_append, List.cons_append, List.append_eq, List.replicate, List.length_cons, List.length_nil, List.map_cons, List.map_nil, ↓reduceIte, reduceCtorEq, if_true, if_false, true_and, and_true, false_and, and_false, and_self, not_true_eq_false, not_false_eq_true, forall_const, true_implies, false_implies, implies_true, Nat.reduceAdd, Nat.reduceSub, Nat.reduceLT, Nat.reduceLeDiff, Nat.reduceEqDiff, Nat.reduceMul, Nat.reducePow, Nat.add_one_ne_zero, Nat.add_one_sub_one, Nat.add_zero, Nat.zero_add, Int.reduceLT, Int.reduceLE, Int.reduceNeg, Int.reduceAdd, Int.reduceSub, Int.reduceToNat, Int.reduceEq, Int.reduceMul, Int.reducePow, Int.cast_ofNat_Int, Int.toNat_natCast, ne_eq, Bool.false_eq_true, true_or, or_true, or_self, Nat.not_lt_zero, ite_e0, ite_e1, lc_lt, lc_ge, lc_gt, lc_le, lc_eq, Classical.not_not]
    with_reducible repeat' (first | (refine And.intro ?_ ?_) | intro _)
    all_goals try omega
    all_goals exact q0 (by omega)
set_option maxRecDepth 100000 in
set_option maxHeartbeats 1000000 in
theorem kx_needs (M : MR σ P) (W : WF P) (hk : 8 ≤ k) {n a : Int} (q0 : ¬ ((0 ≤ n ∧ n < P 2 1) ∧ (0 ≤ a ∧ a ≤ 7)) → Q (some (vi (-1))) σ) (q1 : ((0 ≤ n ∧ n < P 2 1) ∧ (0 ≤ a ∧ a ≤ 7)) → Q (some (vi (ndP P n a))) σ) : CC G w w k (0, 0) 196 [vr 21 0 0, vi n, vi a] σ Q := by
  have wn := W.sc.2.1
  have w6 := W.sc.2.2.2.2.2.2.1
  have hM : ∀ f i, 2 ≤ f → f ≤ 38 → σ 21 f 0 i = P f i := M
  refine CC_vb ok196 (by decide) (sm3_ok G w) 60 [] (Nat.le_of_ble_eq_true rfl) ?_
  simp -implicitDefEqProofs only [↓b196_0, ↓b196_15, ↓b196_18, ↓b196_20, ↓b196_68, ↓b196_75, ↓b196_82, ↓b196_89, ↓b196_96, ↓b196_103, ↓b196_110, ↓b196_117, ↓b196_122, ↓b196_125, ↓b196_129, ↓b196_130, ↓b196_131, b196_0, b196_15, b196_18, b196_20, b196_68, b196_75, b196_82, b196_89, b196_96, b196_103, b196_110, b196_117, b196_122, b196_125, b196_129, b196_130, b196_131, nLE3, layE8, hM, k3_128, r128, k3_184, r184, I32, ↓xb, xb, ps, lpad, lat, aok2, rd2, aaok, aav, alok, alen, aok, akk, csum, isLg, cmpI, clsE, Option.elim, eq_self, List.mem_cons, List.not_mem_nil, or_false, false_or, List.append_nil, List.nil_append, List.cons_append, List.append_eq, List.replicate, List.length_cons, List.length_nil, List.map_cons, List.map_nil, ↓reduceIte, reduceCtorEq, if_true, if_false, true_and, and_true, false_and, and_false, and_self, not_true_eq_false, not_false_eq_true, forall_const, true_implies, false_implies, implies_true, Nat.reduceAdd, Nat.reduceSub, Nat.reduceLT, Nat.reduceLeDiff, Nat.reduceEqDiff, Nat.reduceMul, Nat.reducePow, Nat.add_one_ne_zero, Nat.add_one_sub_one, Nat.add_zero, Nat.zero_add, Int.reduceLT, Int.reduceLE, Int.reduceNeg, Int.reduceAdd, Int.reduceSub, Int.reduceToNat, Int.reduceEq, Int.reduceMul, Int.reducePow, Int.cast_ofNat_Int, Int.toNat_natCast, ne_eq, Bool.false_eq_true, true_or, or_true, or_self, Nat.not_lt_zero, ite_e0, ite_e1, lc_lt, lc_ge, lc_gt, lc_le, lc_eq, Classical.not_not]
  with_reducible repeat' (first | (refine And.intro ?_ ?_) | intro _)
  all_goals try omega
  all_goals try exact q0 (by omega)
  all_goals refine qvi (q1 (by omega)) ?_
  all_goals unfold ndP
  all_goals first | (rw [if_pos (by omega)]; subst a; rfl) | (rw [if_neg (by omega)]; first | exact if_pos (by assumption) | exact if_neg (by assumption))
def ctP (P : Pt) (r t a : Int) : Int := if a = 0 then P 2 6 else if a = 1 then P 2 0 else if a = 2 then P 2 1 else if a = 3 then P 2 2 else if a = 4 then P 2 3 else if a = 5 then r else if a = 6 then P 2 4 else if a = 7 then P 2 5 else if a = 8 then tillP (P 2 7) (P 2 6) else if a = 9 then P 2 6 % 96 / 4 else if a = 10 then t else -1
set_option maxRecDepth 100000 in
set_option maxHeartbeats 1000000 in
theorem kc_count (R : RT True σ 1 P) (W : WF P) (hk : 8 ≤ k) (hn : P 2 6 ≤ 9999) {r t a : Int} (er : σ 0 5 0 0 = r) (et : σ 0 7 0 0 = t) (q : Q (some (vi (ctP P r t a))) σ) : CC G w w k (0, 0) 124 [vr 0 0 0, vi a] σ Q := by
  obtain ⟨⟨w1, w2⟩, ⟨w3, w4⟩, ⟨w5, w6⟩, ⟨w7, w8⟩, ⟨w9, w10⟩, ⟨w11, w12⟩, w13, ⟨w14, w15⟩⟩ := W.sc
  have e1 := R.houses; have e2 := R.needs; have e3 := R.makers; have e4 := R.cables; have e5 := R.items; have e6 := R.ends; have e7 := R.now; have e8 := R.said
  have tc : tillC (P 2 7) (P 2 6) := by unfold tillC; omega
  unfold ctP at q
  refine CC_vb ok124 (by decide) (sm3_ok G w) 60 [] (Nat.le_of_ble_eq_true rfl) ?_
  simp -implicitDefEqProofs only [↓b124_0, ↓b124_60, ↓b124_68, ↓b124_76, ↓b124_84, ↓b124_92, ↓b124_100, ↓b124_105, ↓b124_113, ↓b124_121, ↓b124_128, ↓b124_129, ↓b124_136, ↓b124_137, ↓b124_142, b124_0, b124_60, b124_68, b124_76, b124_84, b124_92, b124_100, b124_105, b124_113, b124_121, b124_128, b124_129, b124_136, b124_137, b124_142, nLE2, layE7, layE4, layE3, layE2, e1, e2, e3, e4, e5, e6, e7, e8, er, et, tc, k3_53, r53, k3_52, r52, I32, ↓xb, xb, ps, lpad, lat, aok2, rd2, aaok, aav, alok, alen, aok, akk, csum, isLg, cmpI, clsE, Option.elim, eq_self, List.mem_cons, List.not_mem_nil, or_false, false_or, List.append_nil, List.nil_append, List.cons_append, List.append_eq, List.replicate, List.length_cons, List.length_nil, List.map_cons, List.map_nil, ↓reduceIte, reduceCtorEq, if_true, if_false, true_and, and_true, false_and, and_false, and_self, not_true_eq_false, not_false_eq_true, forall_const, true_implies, false_implies, implies_true, Nat.reduceAdd, Nat.reduceSub, Nat.reduceLT, Nat.reduceLeDiff, Nat.reduceEqDiff, Nat.reduceMul, Nat.reducePow, Nat.add_one_ne_zero, Nat.add_one_sub_one, Nat.add_zero, Nat.zero_add, Int.reduceLT, Int.reduceLE, Int.reduceNeg, Int.reduceAdd, Int.reduceSub, Int.reduceToNat, Int.reduceEq, Int.reduceMul, Int.reducePow, Int.cast_ofNat_Int, Int.toNat_natCast, ne_eq, Bool.false_eq_true, true_or, or_true, or_self, Nat.not_lt_zero, ite_e0, ite_e1, lc_lt, lc_ge, lc_gt, lc_le, lc_eq, Classical.not_not]
  with_reducible repeat' (first | (refine And.intro ?_ ?_) | intro _)
  all_goals try omega
  all_goals refine qvi q ?_
  all_goals clear q
  all_goals repeat' (first | rw [if_neg (by omega)] | rw [if_pos (by omega)])
set_option maxRecDepth 100000 in
set_option maxHeartbeats 1000000 in
theorem kx_count (M : MR σ P) (W : WF P) (hk : 8 ≤ k) (hn : P 2 6 ≤ 9999) {r t a : Int} (er : σ 21 43 0 0 = r) (et : σ 21 39 0 0 = t) (q : Q (some (vi (ctP P r t a))) σ) : CC G w w k (0, 0) 242 [vr 21 0 0, vi a] σ Q := by
  obtain ⟨⟨w1, w2⟩, ⟨w3, w4⟩, ⟨w5, w6⟩, ⟨w7, w8⟩, ⟨w9, w10⟩, ⟨w11, w12⟩, w13, ⟨w14, w15⟩⟩ := W.sc
  have hM : ∀ f i, 2 ≤ f → f ≤ 38 → σ 21 f 0 i = P f i := M
  have tc : tillC (P 2 7) (P 2 6) := by unfold tillC; omega
  unfold ctP at q
  refine CC_vb ok242 (by decide) (sm3_ok G w) 60 [] (Nat.le_of_ble_eq_true rfl) ?_
  simp -implicitDefEqProofs only [↓b242_0, ↓b242_60, ↓b242_68, ↓b242_75, ↓b242_82, ↓b242_89, ↓b242_96, ↓b242_101, ↓b242_108, ↓b242_115, ↓b242_119, ↓b242_120, ↓b242_133, ↓b242_138, b242_0, b242_60, b242_68, b242_75, b242_82, b242_89, b242_96, b242_101, b242_108, b242_115, b242_119, b242_120, b242_133, b242_138, nLE4, layE8, hM, er, et, tc, k3_147, r147, I32, ↓xb, xb, ps, lpad, lat, aok2, rd2, aaok, aav, alok, alen, aok, akk, csum, isLg, cmpI, clsE, Option.elim, eq_self, List.mem_cons, List.not_mem_nil, or_false, false_or, List.append_nil, List.nil_append, List.cons_append, List.append_eq, List.replicate, List.length_cons, List.length_nil, List.map_cons, List.map_nil, ↓reduceIte, reduceCtorEq, if_true, if_false, true_and, and_true, false_and, and_false, and_self, not_true_eq_false, not_false_eq_true, forall_const, true_implies, false_implies, implies_true, Nat.reduceAdd, Nat.reduceSub, Nat.reduceLT, Nat.reduceLeDiff, Nat.reduceEqDiff, Nat.reduceMul, Nat.reducePow, Nat.add_one_ne_zero, Nat.add_one_sub_one, Nat.add_zero, Nat.zero_add, Int.reduceLT, Int.reduceLE, Int.reduceNeg, Int.reduceAdd, Int.reduceSub, Int.reduceToNat, Int.reduceEq, Int.reduceMul, Int.reducePow, Int.cast_ofNat_Int, Int.toNat_natCast, ne_eq, Bool.false_eq_true, true_or, or_true, or_self, Nat.not_lt_zero, ite_e0, ite_e1, lc_lt, lc_ge, lc_gt, lc_le, lc_eq, Classical.not_not]
  with_reducible repeat' (first | (refine And.intro ?_ ?_) | intro _)
  all_goals try omega
  all_goals refine qvi q ?_
  all_goals clear q
  all_goals repeat' (first | rw [if_neg (by omega)] | rw [if_pos (by omega)])
end TPE

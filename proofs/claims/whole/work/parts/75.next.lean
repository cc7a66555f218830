/-! 75.next: the next token (class) -/
def two (t : Nat → Int) (N b : Nat) : Prop := b + 1 < N ∧ t (b + 1) = 61 ∧ (t b = 60 ∨ t b = 62)
instance {t : Nat → Int} {N b : Nat} : Decidable (two t N b) := by unfold two; infer_instance
/-- the token from b on: what it is, where it ends, what a number says -/
def tkB (t : Nat → Int) (N b : Nat) : Int := if N ≤ b then 32 else if isLt (t b) = true then (wdT t b (le t N b) : Nat) else if isDg (t b) = true then 31 else if two t N b then (if t b = 60 then 23 else 24) else 100 + t b
def teB (t : Nat → Int) (N b : Nat) : Nat := if N ≤ b then b else if isLt (t b) = true then le t N b else if isDg (t b) = true then dge t N b else if two t N b then b + 2 else b + 1
def dgV (t : Nat → Int) (b : Nat) : Nat → Int
  | 0 => 0
  | m + 1 => if m < 5 then 10 * dgV t b m + t (b + m) - 48 else dgV t b m
def tvB (t : Nat → Int) (N b : Nat) : Int := if dge t N b - b ≤ 5 then dgV t b (dge t N b - b) else -1
abbrev S7n : Nat → Nat → Bool := fun o f => o == 7 && (f == 3 || f == 4 || f == 5 || f == 6)
def TR (t : Nat → Int) : Prop := ∀ i, 0 ≤ t i ∧ t i ≤ 255
theorem dgV_r {t : Nat → Int} (ht : TR t) {b : Nat} (hd : ∀ j, b ≤ j → isDg (t j) = true ∨ True) : ∀ m, (∀ j, j < m → isDg (t (b + j)) = true) → 0 ≤ dgV t b m ∧ (m ≤ 0 → dgV t b m ≤ 0) ∧ (m ≤ 1 → dgV t b m ≤ 9) ∧ (m ≤ 2 → dgV t b m ≤ 99) ∧ (m ≤ 3 → dgV t b m ≤ 999) ∧ (m ≤ 4 → dgV t b m ≤ 9999) ∧ dgV t b m ≤ 99999
  | 0, _ => by
    show 0 ≤ (0 : Int) ∧ (_ → (0 : Int) ≤ 0) ∧ (_ → (0 : Int) ≤ 9) ∧ (_ → (0 : Int) ≤ 99) ∧ (_ → (0 : Int) ≤ 999) ∧ (_ → (0 : Int) ≤ 9999) ∧ (0 : Int) ≤ 99999
    omega
  | m + 1, h => by
    have ih := dgV_r ht hd m (fun j hj => h j (by omega))
    have d := h m (by omega)
    unfold isDg at d
    rw [decide_eq_true_eq] at d
    show 0 ≤ (if m < 5 then 10 * dgV t b m + t (b + m) - 48 else dgV t b m) ∧ (_ → (if m < 5 then 10 * dgV t b m + t (b + m) - 48 else dgV t b m) ≤ 0) ∧ (_ → (if m < 5 then 10 * dgV t b m + t (b + m) - 48 else dgV t b m) ≤ 9) ∧ (_ → (if m < 5 then 10 * dgV t b m + t (b + m) - 48 else dgV t b m) ≤ 99) ∧ (_ → (if m < 5 then 10 * dgV t b m + t (b + m) - 48 else dgV t b m) ≤ 999) ∧ (_ → (if m < 5 then 10 * dgV t b m + t (b + m) - 48 else dgV t b m) ≤ 9999) ∧ (if m < 5 then 10 * dgV t b m + t (b + m) - 48 else dgV t b m) ≤ 99999
    by_cases c : m < 5
    · rw [if_pos c]; omega
    · rw [if_neg c]; omega
section NXT
variable {G : Gl} {w : Wd} {k : Nat} {σ : Mem} {Q : Option AV → Mem → Prop} {t : Nat → Int} {N : Nat}
theorem TXt.keep {σ' : Mem} (T : TXt σ t N) (hs : same S7n σ σ') : TXt σ' t N := ⟨by rw [hs 7 1 rfl]; exact T.1, by rw [hs 7 2 rfl]; exact T.2.1, T.2.2.1, fun i hi => (hs 0 6 rfl 0 i).trans (T.2.2.2 i hi)⟩
set_option maxRecDepth 100000 in
set_option maxHeartbeats 1000000 in
theorem kc_nx_b {p0 : Nat} (hk : 8 ≤ k) (q : ∀ σ', σ' 7 3 0 0 = bl t N p0 → TXt σ' t N → same S7n σ σ' → TT G w w w k (0, 0) 29 38 [some (vr 7 0 0)] [] σ' Q) :
    ∀ (m p : Nat) (σ' : Mem), p ≤ N → N < p + m → TXt σ' t N → σ' 7 3 0 0 = p → bl t N p = bl t N p0 → same S7n σ σ' → TT G w w w k (0, 0) 29 0 [some (vr 7 0 0)] [] σ' Q
  | 0, p, σ', h0, h1, _, _, _, _ => by omega
  | m + 1, p, σ', h0, h1, T, e3, eb, hs => by
    have ih := kc_nx_b (p0 := p0) hk q m (p + 1)
    have T' := T
    obtain ⟨t1, t2, t3, t4⟩ := T
    have wf6 : wfv w (vr 0 6 0) := wf06
    by_cases c : p < N ∧ t p = 32
    · have et : σ' 0 6 0 p = 32 := (t4 p c.1).trans c.2
      have e2 : bl t N p = bl t N (p + 1) := sc_on c.1 (by rw [decide_eq_true_eq]; exact c.2)
      refine TT_vb ok29 (sm3_ok G w) 60 [0, 38] ?_
      simp -implicitDefEqProofs only [↓b29_0, ↓b29_11, ↓b29_15, ↓b29_25, ↓b29_38, ↓b29_57, ↓b29_66, ↓b29_70, ↓b29_78, ↓b29_81, ↓b29_92, ↓b29_96, ↓b29_104, ↓b29_107, ↓b29_120, ↓b29_133, ↓b29_139, ↓b29_143, ↓b29_151, ↓b29_154, ↓b29_165, ↓b29_176, ↓b29_180, ↓b29_188, ↓b29_191, ↓b29_204, ↓b29_216, ↓b29_228, ↓b29_241, ↓b29_255, ↓b29_259, ↓b29_263, ↓b29_269, ↓b29_276, ↓b29_306, ↓b29_310, ↓b29_320, ↓b29_330, ↓b29_340, ↓b29_351, ↓b29_356, ↓b29_358, ↓b29_371, b29_0, b29_11, b29_15, b29_25, b29_38, b29_57, b29_66, b29_70, b29_78, b29_81, b29_92, b29_96, b29_104, b29_107, b29_120, b29_133, b29_139, b29_143, b29_151, b29_154, b29_165, b29_176, b29_180, b29_188, b29_191, b29_204, b29_216, b29_228, b29_241, b29_255, b29_259, b29_263, b29_269, b29_276, b29_306, b29_310, b29_320, b29_330, b29_340, b29_351, b29_356, b29_358, b29_371, nLE0, layE2, layE3, e3, t2, t1, wf6, et, k3_31, r31, n3_30, k3_32, r32, I32, ↓xb, xb, ps, lpad, lat, aok2, rd2, aaok, aav, alok, alen, aok, akk, csum, isLg, cmpI, clsE, Option.elim, eq_self, List.mem_cons, List.not_mem_nil, or_false, false_or, List.append_nil, List.nil_append, List.cons_append, List.append_eq, List.replicate, List.length_cons, List.length_nil, List.map_cons, List.map_nil, ↓reduceIte, reduceCtorEq, if_true, if_false, true_and, and_true, false_and, and_false, and_self, not_true_eq_false, not_false_eq_true, forall_const, true_implies, false_implies, implies_true, Nat.reduceAdd, Nat.reduceSub, Nat.reduceLT, Nat.reduceLeDiff, Nat.reduceEqDiff, Nat.reduceMul, Nat.reducePow, Nat.add_one_ne_zero, Nat.add_one_sub_one, Nat.add_zero, Nat.zero_add, Int.reduceLT, Int.reduceLE, Int.reduceNeg, Int.reduceAdd, Int.reduceSub, Int.reduceToNat, Int.reduceEq, Int.reduceMul, Int.reducePow, Int.cast_ofNat_Int, Int.toNat_natCast, ne_eq, Bool.false_eq_true, true_or, or_true, or_self, Nat.not_lt_zero, ite_e0, ite_e1, lc_lt, lc_ge, lc_gt, lc_le, lc_eq, Classical.not_not]
      with_reducible repeat' (first | (refine And.intro ?_ ?_) | intro _)
      all_goals try omega
      all_goals first | omega | skip
      exact ih _ (by omega) (by omega) (T'.keep (same.put same.refl rfl)) (by rw [upp_eq]; omega) (by rw [← e2]; exact eb) (hs.put rfl)
    · have e2 : bl t N p = p := sc_off (fun z => c ⟨z.1, by have := z.2; rw [decide_eq_true_eq] at this; exact this⟩)
      have r := q σ' (by rw [e3, ← eb, e2]) T' hs
      by_cases c2 : p < N
      · have et : σ' 0 6 0 p = t p := t4 p c2
        have c3 : ¬ t p = 32 := fun z => c ⟨c2, z⟩
        refine TT_vb ok29 (sm3_ok G w) 60 [0, 38] ?_
        simp -implicitDefEqProofs only [↓b29_0, ↓b29_11, ↓b29_15, ↓b29_25, ↓b29_38, ↓b29_57, ↓b29_66, ↓b29_70, ↓b29_78, ↓b29_81, ↓b29_92, ↓b29_96, ↓b29_104, ↓b29_107, ↓b29_120, ↓b29_133, ↓b29_139, ↓b29_143, ↓b29_151, ↓b29_154, ↓b29_165, ↓b29_176, ↓b29_180, ↓b29_188, ↓b29_191, ↓b29_204, ↓b29_216, ↓b29_228, ↓b29_241, ↓b29_255, ↓b29_259, ↓b29_263, ↓b29_269, ↓b29_276, ↓b29_306, ↓b29_310, ↓b29_320, ↓b29_330, ↓b29_340, ↓b29_351, ↓b29_356, ↓b29_358, ↓b29_371, b29_0, b29_11, b29_15, b29_25, b29_38, b29_57, b29_66, b29_70, b29_78, b29_81, b29_92, b29_96, b29_104, b29_107, b29_120, b29_133, b29_139, b29_143, b29_151, b29_154, b29_165, b29_176, b29_180, b29_188, b29_191, b29_204, b29_216, b29_228, b29_241, b29_255, b29_259, b29_263, b29_269, b29_276, b29_306, b29_310, b29_320, b29_330, b29_340, b29_351, b29_356, b29_358, b29_371, nLE0, layE2, layE3, e3, t2, t1, wf6, et, c3, k3_31, r31, n3_30, k3_32, r32, I32, ↓xb, xb, ps, lpad, lat, aok2, rd2, aaok, aav, alok, alen, aok, akk, csum, isLg, cmpI, clsE, Option.elim, eq_self, List.mem_cons, List.not_mem_nil, or_false, false_or, List.append_nil, List.nil_append, List.cons_append, List.append_eq, List.replicate, List.length_cons, List.length_nil, List.map_cons, List.map_nil, ↓reduceIte, reduceCtorEq, if_true, if_false, true_and, and_true, false_and, and_false, and_self, not_true_eq_false, not_false_eq_true, forall_const, true_implies, false_implies, implies_true, Nat.reduceAdd, Nat.reduceSub, Nat.reduceLT, Nat.reduceLeDiff, Nat.reduceEqDiff, Nat.reduceMul, Nat.reducePow, Nat.add_one_ne_zero, Nat.add_one_sub_one, Nat.add_zero, Nat.zero_add, Int.reduceLT, Int.reduceLE, Int.reduceNeg, Int.reduceAdd, Int.reduceSub, Int.reduceToNat, Int.reduceEq, Int.reduceMul, Int.reducePow, Int.cast_ofNat_Int, Int.toNat_natCast, ne_eq, Bool.false_eq_true, true_or, or_true, or_self, Nat.not_lt_zero, ite_e0, ite_e1, lc_lt, lc_ge, lc_gt, lc_le, lc_eq, Classical.not_not]
        with_reducible repeat' (first | (refine And.intro ?_ ?_) | intro _)
        all_goals try omega
        all_goals first | omega | exact r
      · refine TT_vb ok29 (sm3_ok G w) 60 [0, 38] ?_
        simp -implicitDefEqProofs only [↓b29_0, ↓b29_11, ↓b29_15, ↓b29_25, ↓b29_38, ↓b29_57, ↓b29_66, ↓b29_70, ↓b29_78, ↓b29_81, ↓b29_92, ↓b29_96, ↓b29_104, ↓b29_107, ↓b29_120, ↓b29_133, ↓b29_139, ↓b29_143, ↓b29_151, ↓b29_154, ↓b29_165, ↓b29_176, ↓b29_180, ↓b29_188, ↓b29_191, ↓b29_204, ↓b29_216, ↓b29_228, ↓b29_241, ↓b29_255, ↓b29_259, ↓b29_263, ↓b29_269, ↓b29_276, ↓b29_306, ↓b29_310, ↓b29_320, ↓b29_330, ↓b29_340, ↓b29_351, ↓b29_356, ↓b29_358, ↓b29_371, b29_0, b29_11, b29_15, b29_25, b29_38, b29_57, b29_66, b29_70, b29_78, b29_81, b29_92, b29_96, b29_104, b29_107, b29_120, b29_133, b29_139, b29_143, b29_151, b29_154, b29_165, b29_176, b29_180, b29_188, b29_191, b29_204, b29_216, b29_228, b29_241, b29_255, b29_259, b29_263, b29_269, b29_276, b29_306, b29_310, b29_320, b29_330, b29_340, b29_351, b29_356, b29_358, b29_371, nLE0, layE2, layE3, e3, t2, k3_31, r31, n3_30, k3_32, r32, I32, ↓xb, xb, ps, lpad, lat, aok2, rd2, aaok, aav, alok, alen, aok, akk, csum, isLg, cmpI, clsE, Option.elim, eq_self, List.mem_cons, List.not_mem_nil, or_false, false_or, List.append_nil, List.nil_append, List.cons_append, List.append_eq, List.replicate, List.length_cons, List.length_nil, List.map_cons, List.map_nil, ↓reduceIte, reduceCtorEq, if_true, if_false, true_and, and_true, false_and, and_false, and_self, not_true_eq_false, not_false_eq_true, forall_const, true_implies, false_implies, implies_true, Nat.reduceAdd, Nat.reduceSub, Nat.reduceLT, Nat.reduceLeDiff, Nat.reduceEqDiff, Nat.reduceMul, Nat.reducePow, Nat.add_one_ne_zero, Nat.add_one_sub_one, Nat.add_zero, Nat.zero_add, Int.reduceLT, Int.reduceLE, Int.reduceNeg, Int.reduceAdd, Int.reduceSub, Int.reduceToNat, Int.reduceEq, Int.reduceMul, Int.reducePow, Int.cast_ofNat_Int, Int.toNat_natCast, ne_eq, Bool.false_eq_true, true_or, or_true, or_self, Nat.not_lt_zero, ite_e0, ite_e1, lc_lt, lc_ge, lc_gt, lc_le, lc_eq, Classical.not_not]
        with_reducible repeat' (first | (refine And.intro ?_ ?_) | intro _)
        all_goals try omega
        all_goals first | omega | exact r
set_option maxRecDepth 100000 in
set_option maxHeartbeats 1000000 in
theorem kc_nx_l {p0 : Nat} (ht : TR t) (hk : 8 ≤ k) (q : ∀ σ', σ' 7 3 0 0 = le t N p0 → TXt σ' t N → same S7n σ σ' → σ' 7 5 0 0 = σ 7 5 0 0 → TT G w w w k (0, 0) 29 120 [some (vr 7 0 0)] [] σ' Q) :
    ∀ (m p : Nat) (σ' : Mem), p ≤ N → N < p + m → TXt σ' t N → σ' 7 3 0 0 = p → le t N p = le t N p0 → same S7n σ σ' → σ' 7 5 0 0 = σ 7 5 0 0 → TT G w w w k (0, 0) 29 81 [some (vr 7 0 0)] [] σ' Q
  | 0, p, σ', h0, h1, _, _, _, _, _ => by omega
  | m + 1, p, σ', h0, h1, T, e3, eb, hs, h5 => by
    have ih := kc_nx_l (p0 := p0) ht hk q m (p + 1)
    have T' := T
    obtain ⟨t1, t2, t3, t4⟩ := T
    have wf6 : wfv w (vr 0 6 0) := wf06
    have hr := ht p
    by_cases c : p < N ∧ isLt (t p) = true
    · have et : σ' 0 6 0 p = t p := t4 p c.1
      have e2 : le t N p = le t N (p + 1) := sc_on c.1 c.2
      have c2 : 97 ≤ t p ∧ t p ≤ 122 := by have := c.2; unfold isLt at this; rw [decide_eq_true_eq] at this; exact this
      refine TT_vb ok29 (sm3_ok G w) 60 [81, 120] ?_
      simp -implicitDefEqProofs only [↓b29_0, ↓b29_11, ↓b29_15, ↓b29_25, ↓b29_38, ↓b29_57, ↓b29_66, ↓b29_70, ↓b29_78, ↓b29_81, ↓b29_92, ↓b29_96, ↓b29_104, ↓b29_107, ↓b29_120, ↓b29_133, ↓b29_139, ↓b29_143, ↓b29_151, ↓b29_154, ↓b29_165, ↓b29_176, ↓b29_180, ↓b29_188, ↓b29_191, ↓b29_204, ↓b29_216, ↓b29_228, ↓b29_241, ↓b29_255, ↓b29_259, ↓b29_263, ↓b29_269, ↓b29_276, ↓b29_306, ↓b29_310, ↓b29_320, ↓b29_330, ↓b29_340, ↓b29_351, ↓b29_356, ↓b29_358, ↓b29_371, b29_0, b29_11, b29_15, b29_25, b29_38, b29_57, b29_66, b29_70, b29_78, b29_81, b29_92, b29_96, b29_104, b29_107, b29_120, b29_133, b29_139, b29_143, b29_151, b29_154, b29_165, b29_176, b29_180, b29_188, b29_191, b29_204, b29_216, b29_228, b29_241, b29_255, b29_259, b29_263, b29_269, b29_276, b29_306, b29_310, b29_320, b29_330, b29_340, b29_351, b29_356, b29_358, b29_371, nLE0, layE2, layE3, e3, t2, t1, wf6, et, c2, k3_31, r31, n3_30, k3_32, r32, I32, ↓xb, xb, ps, lpad, lat, aok2, rd2, aaok, aav, alok, alen, aok, akk, csum, isLg, cmpI, clsE, Option.elim, eq_self, List.mem_cons, List.not_mem_nil, or_false, false_or, List.append_nil, List.nil_append, List.cons_append, List.append_eq, List.replicate, List.length_cons, List.length_nil, List.map_cons, List.map_nil, ↓reduceIte, reduceCtorEq, if_true, if_false, true_and, and_true, false_and, and_false, and_self, not_true_eq_false, not_false_eq_true, forall_const, true_implies, false_implies, implies_true, Nat.reduceAdd, Nat.reduceSub, Nat.reduceLT, Nat.reduceLeDiff, Nat.reduceEqDiff, Nat.reduceMul, Nat.reducePow, Nat.add_one_ne_zero, Nat.add_one_sub_one, Nat.add_zero, Nat.zero_add, Int.reduceLT, Int.reduceLE, Int.reduceNeg, Int.reduceAdd, Int.reduceSub, Int.reduceToNat, Int.reduceEq, Int.reduceMul, Int.reducePow, Int.cast_ofNat_Int, Int.toNat_natCast, ne_eq, Bool.false_eq_true, true_or, or_true, or_self, Nat.not_lt_zero, ite_e0, ite_e1, lc_lt, lc_ge, lc_gt, lc_le, lc_eq, Classical.not_not]
      with_reducible repeat' (first | (refine And.intro ?_ ?_) | intro _)
      all_goals try omega
      all_goals first | omega | skip
      exact ih _ (by omega) (by omega) (T'.keep (same.put same.refl rfl)) (by rw [upp_eq]; omega) (by rw [← e2]; exact eb) (hs.put rfl) ((upp_nf (by decide)).trans h5)
    · have e2 : le t N p = p := sc_off c
      have r := q σ' (by rw [e3, ← eb, e2]) T' hs h5
      by_cases c2 : p < N
      · have et : σ' 0 6 0 p = t p := t4 p c2
        have c3 : ¬ (97 ≤ t p ∧ t p ≤ 122) := fun z => c ⟨c2, by unfold isLt; rw [decide_eq_true_eq]; exact z⟩
        refine TT_vb ok29 (sm3_ok G w) 60 [81, 120] ?_
        simp -implicitDefEqProofs only [↓b29_0, ↓b29_11, ↓b29_15, ↓b29_25, ↓b29_38, ↓b29_57, ↓b29_66, ↓b29_70, ↓b29_78, ↓b29_81, ↓b29_92, ↓b29_96, ↓b29_104, ↓b29_107, ↓b29_120, ↓b29_133, ↓b29_139, ↓b29_143, ↓b29_151, ↓b29_154, ↓b29_165, ↓b29_176, ↓b29_180, ↓b29_188, ↓b29_191, ↓b29_204, ↓b29_216, ↓b29_228, ↓b29_241, ↓b29_255, ↓b29_259, ↓b29_263, ↓b29_269, ↓b29_276, ↓b29_306, ↓b29_310, ↓b29_320, ↓b29_330, ↓b29_340, ↓b29_351, ↓b29_356, ↓b29_358, ↓b29_371, b29_0, b29_11, b29_15, b29_25, b29_38, b29_57, b29_66, b29_70, b29_78, b29_81, b29_92, b29_96, b29_104, b29_107, b29_120, b29_133, b29_139, b29_143, b29_151, b29_154, b29_165, b29_176, b29_180, b29_188, b29_191, b29_204, b29_216, b29_228, b29_241, b29_255, b29_259, b29_263, b29_269, b29_276, b29_306, b29_310, b29_320, b29_330, b29_340, b29_351, b29_356, b29_358, b29_371, nLE0, layE2, layE3, e3, t2, t1, wf6, et, c3, k3_31, r31, n3_30, k3_32, r32, I32, ↓xb, xb, ps, lpad, lat, aok2, rd2, aaok, aav, alok, alen, aok, akk, csum, isLg, cmpI, clsE, Option.elim, eq_self, List.mem_cons, List.not_mem_nil, or_false, false_or, List.append_nil, List.nil_append, List.cons_append, List.append_eq, List.replicate, List.length_cons, List.length_nil, List.map_cons, List.map_nil, ↓reduceIte, reduceCtorEq, if_true, if_false, true_and, and_true, false_and, and_false, and_self, not_true_eq_false, not_false_eq_true, forall_const, true_implies, false_implies, implies_true, Nat.reduceAdd, Nat.reduceSub, Nat.reduceLT, Nat.reduceLeDiff, Nat.reduceEqDiff, Nat.reduceMul, Nat.reducePow, Nat.add_one_ne_zero, Nat.add_one_sub_one, Nat.add_zero, Nat.zero_add, Int.reduceLT, Int.reduceLE, Int.reduceNeg, Int.reduceAdd, Int.reduceSub, Int.reduceToNat, Int.reduceEq, Int.reduceMul, Int.reducePow, Int.cast_ofNat_Int, Int.toNat_natCast, ne_eq, Bool.false_eq_true, true_or, or_true, or_self, Nat.not_lt_zero, ite_e0, ite_e1, lc_lt, lc_ge, lc_gt, lc_le, lc_eq, Classical.not_not]
        with_reducible repeat' (first | (refine And.intro ?_ ?_) | intro _)
        all_goals try omega
        all_goals first | omega | exact r
      · refine TT_vb ok29 (sm3_ok G w) 60 [81, 120] ?_
        simp -implicitDefEqProofs only [↓b29_0, ↓b29_11, ↓b29_15, ↓b29_25, ↓b29_38, ↓b29_57, ↓b29_66, ↓b29_70, ↓b29_78, ↓b29_81, ↓b29_92, ↓b29_96, ↓b29_104, ↓b29_107, ↓b29_120, ↓b29_133, ↓b29_139, ↓b29_143, ↓b29_151, ↓b29_154, ↓b29_165, ↓b29_176, ↓b29_180, ↓b29_188, ↓b29_191, ↓b29_204, ↓b29_216, ↓b29_228, ↓b29_241, ↓b29_255, ↓b29_259, ↓b29_263, ↓b29_269, ↓b29_276, ↓b29_306, ↓b29_310, ↓b29_320, ↓b29_330, ↓b29_340, ↓b29_351, ↓b29_356, ↓b29_358, ↓b29_371, b29_0, b29_11, b29_15, b29_25, b29_38, b29_57, b29_66, b29_70, b29_78, b29_81, b29_92, b29_96, b29_104, b29_107, b29_120, b29_133, b29_139, b29_143, b29_151, b29_154, b29_165, b29_176, b29_180, b29_188, b29_191, b29_204, b29_216, b29_228, b29_241, b29_255, b29_259, b29_263, b29_269, b29_276, b29_306, b29_310, b29_320, b29_330, b29_340, b29_351, b29_356, b29_358, b29_371, nLE0, layE2, layE3, e3, t2, k3_31, r31, n3_30, k3_32, r32, I32, ↓xb, xb, ps, lpad, lat, aok2, rd2, aaok, aav, alok, alen, aok, akk, csum, isLg, cmpI, clsE, Option.elim, eq_self, List.mem_cons, List.not_mem_nil, or_false, false_or, List.append_nil, List.nil_append, List.cons_append, List.append_eq, List.replicate, List.length_cons, List.length_nil, List.map_cons, List.map_nil, ↓reduceIte, reduceCtorEq, if_true, if_false, true_and, and_true, false_and, and_false, and_self, not_true_eq_false, not_false_eq_true, forall_const, true_implies, false_implies, implies_true, Nat.reduceAdd, Nat.reduceSub, Nat.reduceLT, Nat.reduceLeDiff, Nat.reduceEqDiff, Nat.reduceMul, Nat.reducePow, Nat.add_one_ne_zero, Nat.add_one_sub_one, Nat.add_zero, Nat.zero_add, Int.reduceLT, Int.reduceLE, Int.reduceNeg, Int.reduceAdd, Int.reduceSub, Int.reduceToNat, Int.reduceEq, Int.reduceMul, Int.reducePow, Int.cast_ofNat_Int, Int.toNat_natCast, ne_eq, Bool.false_eq_true, true_or, or_true, or_self, Nat.not_lt_zero, ite_e0, ite_e1, lc_lt, lc_ge, lc_gt, lc_le, lc_eq, Classical.not_not]
        with_reducible repeat' (first | (refine And.intro ?_ ?_) | intro _)
        all_goals try omega
        all_goals first | omega | exact r
end NXT

/-! 76.lexx: blanks and words (check) -/
abbrev S40 : Nat → Nat → Bool := fun o f => o == 21 && f == 40
/-- the check reads the first N bytes of its tape: t -/
abbrev SXl : Nat → Nat → Bool := fun o f => o == 21 && (f == 40 || f == 41 || f == 44 || f == 45 || f == 46 || f == 47 || f == 58)
/-- a place of t, past the tape, that tells that the cell i of the row f holds x -/
def cd (f i : Nat) (x : Int) : Nat := 400 + 8 * (4096 * (if 0 ≤ x then 2 * x.toNat else 2 * (-x).toNat + 1) + i) + (f - 50)
theorem cd_inj {f i f' i' : Nat} {x x' : Int} (h : cd f i x = cd f' i' x') (a : 50 ≤ f ∧ f ≤ 57) (a' : 50 ≤ f' ∧ f' ≤ 57) (b : i < 4096) (b' : i' < 4096) : f = f' ∧ i = i' ∧ x = x' := by
  unfold cd at h
  split at h <;> split at h <;> refine ⟨by omega, by omega, by omega⟩
/-- how many cells of the row f a rule has -/
def lowB (f : Nat) : Int := if f ≤ 51 then 300 else if f = 52 then 1 else 12
/-- what t tells of the rules before this one stands -/
def FTS (σ : Mem) (t : Nat → Int) : Prop := ∀ f i x, 50 ≤ f → f ≤ 57 → i < 4096 → t (cd f i x) = 1 → σ 21 f 0 i = x ∧ (i : Int) < lowB f * σ 21 42 0 0
def TXx (σ : Mem) (t : Nat → Int) (N : Nat) : Prop := σ 21 39 0 0 = N ∧ (N ≤ 400 ∧ FTS σ t) ∧ ∀ i, i < N → σ 21 49 0 i % 256 = t i ∧ -128 ≤ σ 21 49 0 i ∧ σ 21 49 0 i ≤ 127
section LXX
variable {G : Gl} {w : Wd} {k : Nat} {σ : Mem} {Q : Option AV → Mem → Prop} {t : Nat → Int} {N : Nat}
theorem TXx.keep {S : Nat → Nat → Bool} {σ' : Mem} (T : TXx σ t N) (hs : same S σ σ') (h1 : S 21 39 = false) (h2 : S 21 49 = false) (h3 : (S 21 42 || S 21 50 || S 21 51 || S 21 52 || S 21 53 || S 21 54 || S 21 55 || S 21 56 || S 21 57) = false := by rfl) : TXx σ' t N := ⟨(hs 21 39 h1 0 0).trans T.1, ⟨T.2.1.1, fun f i x a b c d => by
  simp only [Bool.or_eq_false_iff] at h3
  have hf : S 21 f = false := by
    have : f = 50 ∨ f = 51 ∨ f = 52 ∨ f = 53 ∨ f = 54 ∨ f = 55 ∨ f = 56 ∨ f = 57 := by omega
    rcases this with rfl | rfl | rfl | rfl | rfl | rfl | rfl | rfl <;> simp only [h3]
  rw [hs 21 f hf, hs 21 42 (by simp only [h3])]
  exact T.2.1.2 f i x a b c d⟩, fun i hi => by rw [hs 21 49 h2 0 i]; exact T.2.2 i hi⟩
theorem TXx.wr (T : TXx σ t N) {s f i : Nat} (e42 : σ 21 42 0 0 = ((s : Nat) : Int)) (hf : 50 ≤ f ∧ f ≤ 57) (hi : lowB f * s ≤ i) {v : Int} : TXx (up σ 21 f 0 i v) t N := by
  refine ⟨(upp_nf (by omega)).trans T.1, ⟨T.2.1.1, fun f' i' x a b c d => ?_⟩, fun j hj => by rw [upp_nf (by omega)]; exact T.2.2 j hj⟩
  have z := T.2.1.2 f' i' x a b c d
  rw [upp_nf (show 42 ≠ f by omega)]
  by_cases q : f' = f
  · subst q
    rw [e42] at z
    rw [upp_nc (by omega), e42]
    exact z
  · rw [upp_nf q]
    exact z
set_option maxRecDepth 100000 in
set_option maxHeartbeats 1000000 in
theorem kx_bl_l {p0 : Nat} (hk : 6 ≤ k) (q : ∀ σ', σ' 21 40 0 0 = ((bls t N p0 : Nat) : Int) → same S40 σ σ' → Q none σ') :
    ∀ (m p : Nat) (σ' : Mem), p ≤ N → N < p + m → TXx σ' t N → σ' 21 40 0 0 = p → bls t N p = bls t N p0 → same S40 σ σ' → TT G w w w k (0, 0) 155 0 [some (vr 21 0 0)] [] σ' Q
  | 0, p, σ', h0, h1, _, _, _, _ => by omega
  | m + 1, p, σ', h0, h1, T, e3, eb, hs => by
    have ih := kx_bl_l (p0 := p0) hk q m (p + 1)
    have T' := T
    obtain ⟨t1, t2, t3⟩ := T
    have bs : ∀ a : Int, band a 255 = a % 256 := fun a => band_255
    by_cases c : p < N ∧ t p = 32
    · have et : σ' 21 49 0 p % 256 = 32 := (t3 p c.1).1.trans c.2
      have e2 : bls t N p = bls t N (p + 1) := sc_on c.1 (by rw [decide_eq_true_eq]; exact c.2)
      have lt : (p : Int) < (N : Int) := by omega
      refine TT_vb ok155 (sm3_ok G w) 60 [0] ?_
      simp -implicitDefEqProofs only [↓b155_0, ↓b155_4, ↓b155_9, ↓b155_22, b155_0, b155_4, b155_9, b155_22, nLE3, layE8, e3, t1, bs, et, lt, k3_154, r154, I32, ↓xb, xb, ps, lpad, lat, aok2, rd2, aaok, aav, alok, alen, aok, akk, csum, isLg, cmpI, clsE, Option.elim, eq_self, List.mem_cons, List.not_mem_nil, or_false, false_or, List.append_nil, List.nil_append, List.cons_append, List.append_eq, List.replicate, List.length_cons, List.length_nil, List.map_cons, List.map_nil, ↓reduceIte, reduceCtorEq, if_true, if_false, true_and, and_true, false_and, and_false, and_self, not_true_eq_false, not_false_eq_true, forall_const, true_implies, false_implies, implies_true, Nat.reduceAdd, Nat.reduceSub, Nat.reduceLT, Nat.reduceLeDiff, Nat.reduceEqDiff, Nat.reduceMul, Nat.reducePow, Nat.add_one_ne_zero, Nat.add_one_sub_one, Nat.add_zero, Nat.zero_add, Int.reduceLT, Int.reduceLE, Int.reduceNeg, Int.reduceAdd, Int.reduceSub, Int.reduceToNat, Int.reduceEq, Int.reduceMul, Int.reducePow, Int.cast_ofNat_Int, Int.toNat_natCast, ne_eq, Bool.false_eq_true, true_or, or_true, or_self, Nat.not_lt_zero, ite_e0, ite_e1, lc_lt, lc_ge, lc_gt, lc_le, lc_eq, Classical.not_not]
      with_reducible repeat' (first | (refine And.intro ?_ ?_) | intro _)
      all_goals try omega
      all_goals first | omega | skip
      exact ih _ (by omega) (by omega) (T'.keep (S := S40) (same.put same.refl rfl) rfl rfl) (by rw [upp_eq]; omega) (by rw [← e2]; exact eb) (hs.put rfl)
    · have e2 : bls t N p = p := sc_off (fun z => c ⟨z.1, by have := z.2; rw [decide_eq_true_eq] at this; exact this⟩)
      have r := q σ' (by rw [e3, ← eb, e2]) hs
      by_cases c2 : p < N
      · have et : σ' 21 49 0 p % 256 = t p := (t3 p c2).1
        have c3 : ¬ t p = 32 := fun z => c ⟨c2, z⟩
        have lt : (p : Int) < (N : Int) := by omega
        refine TT_vb ok155 (sm3_ok G w) 60 [0] ?_
        simp -implicitDefEqProofs only [↓b155_0, ↓b155_4, ↓b155_9, ↓b155_22, b155_0, b155_4, b155_9, b155_22, nLE3, layE8, e3, t1, bs, et, c3, lt, k3_154, r154, I32, ↓xb, xb, ps, lpad, lat, aok2, rd2, aaok, aav, alok, alen, aok, akk, csum, isLg, cmpI, clsE, Option.elim, eq_self, List.mem_cons, List.not_mem_nil, or_false, false_or, List.append_nil, List.nil_append, List.cons_append, List.append_eq, List.replicate, List.length_cons, List.length_nil, List.map_cons, List.map_nil, ↓reduceIte, reduceCtorEq, if_true, if_false, true_and, and_true, false_and, and_false, and_self, not_true_eq_false, not_false_eq_true, forall_const, true_implies, false_implies, implies_true, Nat.reduceAdd, Nat.reduceSub, Nat.reduceLT, Nat.reduceLeDiff, Nat.reduceEqDiff, Nat.reduceMul, Nat.reducePow, Nat.add_one_ne_zero, Nat.add_one_sub_one, Nat.add_zero, Nat.zero_add, Int.reduceLT, Int.reduceLE, Int.reduceNeg, Int.reduceAdd, Int.reduceSub, Int.reduceToNat, Int.reduceEq, Int.reduceMul, Int.reducePow, Int.cast_ofNat_Int, Int.toNat_natCast, ne_eq, Bool.false_eq_true, true_or, or_true, or_self, Nat.not_lt_zero, ite_e0, ite_e1, lc_lt, lc_ge, lc_gt, lc_le, lc_eq, Classical.not_not]
        with_reducible repeat' (first | (refine And.intro ?_ ?_) | intro _)
        all_goals try omega
        all_goals first | omega | exact r
      · have lt : ¬ (p : Int) < (N : Int) := by omega
        refine TT_vb ok155 (sm3_ok G w) 60 [0] ?_
        simp -implicitDefEqProofs only [↓b155_0, ↓b155_4, ↓b155_9, ↓b155_22, b155_0, b155_4, b155_9, b155_22, nLE3, layE8, e3, t1, lt, k3_154, r154, I32, ↓xb, xb, ps, lpad, lat, aok2, rd2, aaok, aav, alok, alen, aok, akk, csum, isLg, cmpI, clsE, Option.elim, eq_self, List.mem_cons, List.not_mem_nil, or_false, false_or, List.append_nil, List.nil_append, List.cons_append, List.append_eq, List.replicate, List.length_cons, List.length_nil, List.map_cons, List.map_nil, ↓reduceIte, reduceCtorEq, if_true, if_false, true_and, and_true, false_and, and_false, and_self, not_true_eq_false, not_false_eq_true, forall_const, true_implies, false_implies, implies_true, Nat.reduceAdd, Nat.reduceSub, Nat.reduceLT, Nat.reduceLeDiff, Nat.reduceEqDiff, Nat.reduceMul, Nat.reducePow, Nat.add_one_ne_zero, Nat.add_one_sub_one, Nat.add_zero, Nat.zero_add, Int.reduceLT, Int.reduceLE, Int.reduceNeg, Int.reduceAdd, Int.reduceSub, Int.reduceToNat, Int.reduceEq, Int.reduceMul, Int.reducePow, Int.cast_ofNat_Int, Int.toNat_natCast, ne_eq, Bool.false_eq_true, true_or, or_true, or_self, Nat.not_lt_zero, ite_e0, ite_e1, lc_lt, lc_ge, lc_gt, lc_le, lc_eq, Classical.not_not]
        with_reducible repeat' (first | (refine And.intro ?_ ?_) | intro _)
        all_goals try omega
        all_goals first | omega | exact r
theorem kx_bl (T : TXx σ t N) (hk : 6 ≤ k) {p : Nat} (hp : p ≤ N) (e3 : σ 21 40 0 0 = p) (q : ∀ σ', σ' 21 40 0 0 = ((bls t N p : Nat) : Int) → same S40 σ σ' → Q none σ') : CC G w w k (0, 0) 155 [vr 21 0 0] σ Q :=
  CC_of (okY_of (by decide) (by decide)) (by decide) (kx_bl_l (σ := σ) (p0 := p) hk q (N + 1) p σ hp (by omega) T e3 rfl same.refl)
theorem TXx.eq (T : TXx σ t N) {i : Nat} (hi : i < N) (h : t i ≤ 127) : σ 21 49 0 i = t i := by
  have := T.2.2 i hi
  omega
theorem TXx.lt (T : TXx σ t N) {i : Nat} (hi : i < N) : (97 ≤ σ 21 49 0 i ∧ σ 21 49 0 i ≤ 122) ↔ isLt (t i) = true := by
  have := T.2.2 i hi
  unfold isLt
  rw [decide_eq_true_eq]
  omega
set_option maxRecDepth 100000 in
theorem sb_low : ∀ i, i < 24 → ∀ j, j < strL.getD i 0 → 0 ≤ sbv i j ∧ sbv i j ≤ 127 := by decide +kernel
set_option maxRecDepth 100000 in
set_option maxHeartbeats 1000000 in
theorem kx_st_e (T : TXx σ t N) (hk : 8 ≤ k) {i p : Nat} (e3 : σ 21 40 0 0 = p) (q : TT G w w w k (0, 0) 157 41 [some (vr 21 0 0), some (vr (1000 + i) 0 0), some (vi (le t N p)), none, none] [] σ Q) :
    ∀ (m e : Nat), e ≤ N → N < e + m → le t N e = le t N p → TT G w w w k (0, 0) 157 5 [some (vr 21 0 0), some (vr (1000 + i) 0 0), some (vi e), none, none] [] σ Q
  | 0, e, h0, h1, _ => by omega
  | m + 1, e, h0, h1, eb => by
    have ih := kx_st_e T hk e3 q m (e + 1)
    rw [show ((e + 1 : Nat) : Int) = (e : Int) + 1 by omega] at ih
    have t1 := T.1
    have t2 := T.2.1
    by_cases c : e < N ∧ isLt (t e) = true
    · have cl := (T.lt c.1).mpr c.2
      have e2 : le t N e = le t N (e + 1) := sc_on c.1 c.2
      have r := ih (by omega) (by omega) (e2.symm.trans eb)
      refine TT_vb ok157 (sm3_ok G w) 60 [5, 41] ?_
      simp -implicitDefEqProofs only [↓b157_0, ↓b157_5, ↓b157_13, ↓b157_24, ↓b157_35, ↓b157_51, ↓b157_54, ↓b157_58, ↓b157_59, ↓b157_69, ↓b157_72, ↓b157_94, ↓b157_97, ↓b157_101, ↓b157_102, ↓b157_109, ↓b157_41, ↓b157_63, ↓b157_76, b157_0, b157_5, b157_13, b157_24, b157_35, b157_51, b157_54, b157_58, b157_59, b157_69, b157_72, b157_94, b157_97, b157_101, b157_102, b157_109, b157_41, b157_63, b157_76, nLE3, layE8, e3, t1, I32, ↓xb, xb, ps, lpad, lat, aok2, rd2, aaok, aav, alok, alen, aok, akk, csum, isLg, cmpI, clsE, Option.elim, eq_self, List.mem_cons, List.not_mem_nil, or_false, false_or, List.append_nil, List.nil_append, List.cons_append, List.append_eq, List.replicate, List.length_cons, List.length_nil, List.map_cons, List.map_nil, ↓reduceIte, reduceCtorEq, if_true, if_false, true_and, and_true, false_and, and_false, and_self, not_true_eq_false, not_false_eq_true, forall_const, true_implies, false_implies, implies_true, Nat.reduceAdd, Nat.reduceSub, Nat.reduceLT, Nat.reduceLeDiff, Nat.reduceEqDiff, Nat.reduceMul, Nat.reducePow, Nat.add_one_ne_zero, Nat.add_one_sub_one, Nat.add_zero, Nat.zero_add, Int.reduceLT, Int.reduceLE, Int.reduceNeg, Int.reduceAdd, Int.reduceSub, Int.reduceToNat, Int.reduceEq, Int.reduceMul, Int.reducePow, Int.cast_ofNat_Int, Int.toNat_natCast, ne_eq, Bool.false_eq_true, true_or, or_true, or_self, Nat.not_lt_zero, ite_e0, ite_e1, lc_lt, lc_ge, lc_gt, lc_le, lc_eq, Classical.not_not]
      with_reducible repeat' (first | (refine And.intro ?_ ?_) | intro _)
      all_goals try omega
      all_goals first | omega | exact r
    · have e2 : le t N e = e := sc_off c
      rw [← eb, e2] at q
      by_cases c2 : e < N
      · have cl : ¬ (97 ≤ σ 21 49 0 e ∧ σ 21 49 0 e ≤ 122) := fun z => c ⟨c2, (T.lt c2).mp z⟩
        refine TT_vb ok157 (sm3_ok G w) 60 [5, 41] ?_
        simp -implicitDefEqProofs only [↓b157_0, ↓b157_5, ↓b157_13, ↓b157_24, ↓b157_35, ↓b157_51, ↓b157_54, ↓b157_58, ↓b157_59, ↓b157_69, ↓b157_72, ↓b157_94, ↓b157_97, ↓b157_101, ↓b157_102, ↓b157_109, ↓b157_41, ↓b157_63, ↓b157_76, b157_0, b157_5, b157_13, b157_24, b157_35, b157_51, b157_54, b157_58, b157_59, b157_69, b157_72, b157_94, b157_97, b157_101, b157_102, b157_109, b157_41, b157_63, b157_76, nLE3, layE8, e3, t1, I32, ↓xb, xb, ps, lpad, lat, aok2, rd2, aaok, aav, alok, alen, aok, akk, csum, isLg, cmpI, clsE, Option.elim, eq_self, List.mem_cons, List.not_mem_nil, or_false, false_or, List.append_nil, List.nil_append, List.cons_append, List.append_eq, List.replicate, List.length_cons, List.length_nil, List.map_cons, List.map_nil, ↓reduceIte, reduceCtorEq, if_true, if_false, true_and, and_true, false_and, and_false, and_self, not_true_eq_false, not_false_eq_true, forall_const, true_implies, false_implies, implies_true, Nat.reduceAdd, Nat.reduceSub, Nat.reduceLT, Nat.reduceLeDiff, Nat.reduceEqDiff, Nat.reduceMul, Nat.reducePow, Nat.add_one_ne_zero, Nat.add_one_sub_one, Nat.add_zero, Nat.zero_add, Int.reduceLT, Int.reduceLE, Int.reduceNeg, Int.reduceAdd, Int.reduceSub, Int.reduceToNat, Int.reduceEq, Int.reduceMul, Int.reducePow, Int.cast_ofNat_Int, Int.toNat_natCast, ne_eq, Bool.false_eq_true, true_or, or_true, or_self, Nat.not_lt_zero, ite_e0, ite_e1, lc_lt, lc_ge, lc_gt, lc_le, lc_eq, Classical.not_not]
        with_reducible repeat' (first | (refine And.intro ?_ ?_) | intro _)
        all_goals try omega
        all_goals first | omega | exact q
      · refine TT_vb ok157 (sm3_ok G w) 60 [5, 41] ?_
        simp -implicitDefEqProofs only [↓b157_0, ↓b157_5, ↓b157_13, ↓b157_24, ↓b157_35, ↓b157_51, ↓b157_54, ↓b157_58, ↓b157_59, ↓b157_69, ↓b157_72, ↓b157_94, ↓b157_97, ↓b157_101, ↓b157_102, ↓b157_109, ↓b157_41, ↓b157_63, ↓b157_76, b157_0, b157_5, b157_13, b157_24, b157_35, b157_51, b157_54, b157_58, b157_59, b157_69, b157_72, b157_94, b157_97, b157_101, b157_102, b157_109, b157_41, b157_63, b157_76, nLE3, layE8, e3, t1, I32, ↓xb, xb, ps, lpad, lat, aok2, rd2, aaok, aav, alok, alen, aok, akk, csum, isLg, cmpI, clsE, Option.elim, eq_self, List.mem_cons, List.not_mem_nil, or_false, false_or, List.append_nil, List.nil_append, List.cons_append, List.append_eq, List.replicate, List.length_cons, List.length_nil, List.map_cons, List.map_nil, ↓reduceIte, reduceCtorEq, if_true, if_false, true_and, and_true, false_and, and_false, and_self, not_true_eq_false, not_false_eq_true, forall_const, true_implies, false_implies, implies_true, Nat.reduceAdd, Nat.reduceSub, Nat.reduceLT, Nat.reduceLeDiff, Nat.reduceEqDiff, Nat.reduceMul, Nat.reducePow, Nat.add_one_ne_zero, Nat.add_one_sub_one, Nat.add_zero, Nat.zero_add, Int.reduceLT, Int.reduceLE, Int.reduceNeg, Int.reduceAdd, Int.reduceSub, Int.reduceToNat, Int.reduceEq, Int.reduceMul, Int.reducePow, Int.cast_ofNat_Int, Int.toNat_natCast, ne_eq, Bool.false_eq_true, true_or, or_true, or_self, Nat.not_lt_zero, ite_e0, ite_e1, lc_lt, lc_ge, lc_gt, lc_le, lc_eq, Classical.not_not]
        with_reducible repeat' (first | (refine And.intro ?_ ?_) | intro _)
        all_goals try omega
        all_goals first | omega | exact q
set_option maxRecDepth 100000 in
set_option maxHeartbeats 1000000 in
theorem kx_st_j (T : TXx σ t N) (hk : 8 ≤ k) {i p : Nat} (hi : i < 24) (e3 : σ 21 40 0 0 = p) {e : Int} (hl : p + strL.getD i 0 ≤ N) (q1 : (∀ x, x < strL.getD i 0 → t (p + x) = sbv i x) → Q (some (vi 1)) σ) (q0 : ¬ (∀ x, x < strL.getD i 0 → t (p + x) = sbv i x) → Q (some (vi 0)) σ) :
    ∀ (m j : Nat), j ≤ strL.getD i 0 → strL.getD i 0 < j + m → (∀ x, x < j → t (p + x) = sbv i x) → TT G w w w k (0, 0) 157 63 [some (vr 21 0 0), some (vr (1000 + i) 0 0), some (vi e), some (vi 1), some (vi j)] [] σ Q
  | 0, j, h0, h1, _ => by omega
  | m + 1, j, h0, h1, hx => by
    have ih := kx_st_j T hk hi e3 (e := e) hl q1 q0 m (j + 1)
    rw [show ((j + 1 : Nat) : Int) = (j : Int) + 1 by omega] at ih
    have t1 := T.1
    have t2 := T.2.1
    have d := TT_inv (pc := 66) ok157 (ix := 315) (x := -1) (y := 1007) (z := 0) rfl
    by_cases c : j < strL.getD i 0
    · have lo := sb_low i hi j c
      have d2 := TT_inv (pc := 91) ok157 (ix := 320) (x := -1) (y := 1008) (z := 1) rfl
      have ep : ((p : Int) + (j : Int)).toNat = p + j := by omega
      refine TT_vn ok157 (sm3_ok G w) 60 2 [66] ?_
      simp -implicitDefEqProofs only [↓b157_0, ↓b157_5, ↓b157_13, ↓b157_24, ↓b157_35, ↓b157_51, ↓b157_54, ↓b157_58, ↓b157_59, ↓b157_69, ↓b157_72, ↓b157_94, ↓b157_97, ↓b157_101, ↓b157_102, ↓b157_109, ↓b157_41, ↓b157_63, ↓b157_76, b157_0, b157_5, b157_13, b157_24, b157_35, b157_51, b157_54, b157_58, b157_59, b157_69, b157_72, b157_94, b157_97, b157_101, b157_102, b157_109, b157_41, b157_63, b157_76, nLE3, layE8, e3, I32, ↓xb, xb, ps, lpad, lat, aok2, rd2, aaok, aav, alok, alen, aok, akk, csum, isLg, cmpI, clsE, Option.elim, eq_self, List.mem_cons, List.not_mem_nil, or_false, false_or, List.append_nil, List.nil_append, List.cons_append, List.append_eq, List.replicate, List.length_cons, List.length_nil, List.map_cons, List.map_nil, ↓reduceIte, reduceCtorEq, if_true, if_false, true_and, and_true, false_and, and_false, and_self, not_true_eq_false, not_false_eq_true, forall_const, true_implies, false_implies, implies_true, Nat.reduceAdd, Nat.reduceSub, Nat.reduceLT, Nat.reduceLeDiff, Nat.reduceEqDiff, Nat.reduceMul, Nat.reducePow, Nat.add_one_ne_zero, Nat.add_one_sub_one, Nat.add_zero, Nat.zero_add, Int.reduceLT, Int.reduceLE, Int.reduceNeg, Int.reduceAdd, Int.reduceSub, Int.reduceToNat, Int.reduceEq, Int.reduceMul, Int.reducePow, Int.cast_ofNat_Int, Int.toNat_natCast, ne_eq, Bool.false_eq_true, true_or, or_true, or_self, Nat.not_lt_zero, ite_e0, ite_e1, lc_lt, lc_ge, lc_gt, lc_le, lc_eq, Classical.not_not]
      with_reducible repeat' (first | (refine And.intro ?_ ?_) | intro _)
      all_goals try omega
      refine S_slen (i := i) d jl_spec.2.2.1 hi (by omega) (Nat.le_of_ble_eq_true rfl) ?_
      refine TT_vb ok157 (sm3_ok G w) 60 [76] ?_
      simp -implicitDefEqProofs only [↓b157_0, ↓b157_5, ↓b157_13, ↓b157_24, ↓b157_35, ↓b157_51, ↓b157_54, ↓b157_58, ↓b157_59, ↓b157_69, ↓b157_72, ↓b157_94, ↓b157_97, ↓b157_101, ↓b157_102, ↓b157_109, ↓b157_41, ↓b157_63, ↓b157_76, b157_0, b157_5, b157_13, b157_24, b157_35, b157_51, b157_54, b157_58, b157_59, b157_69, b157_72, b157_94, b157_97, b157_101, b157_102, b157_109, b157_41, b157_63, b157_76, nLE3, layE8, e3, I32, ↓xb, xb, ps, lpad, lat, aok2, rd2, aaok, aav, alok, alen, aok, akk, csum, isLg, cmpI, clsE, Option.elim, eq_self, List.mem_cons, List.not_mem_nil, or_false, false_or, List.append_nil, List.nil_append, List.cons_append, List.append_eq, List.replicate, List.length_cons, List.length_nil, List.map_cons, List.map_nil, ↓reduceIte, reduceCtorEq, if_true, if_false, true_and, and_true, false_and, and_false, and_self, not_true_eq_false, not_false_eq_true, forall_const, true_implies, false_implies, implies_true, Nat.reduceAdd, Nat.reduceSub, Nat.reduceLT, Nat.reduceLeDiff, Nat.reduceEqDiff, Nat.reduceMul, Nat.reducePow, Nat.add_one_ne_zero, Nat.add_one_sub_one, Nat.add_zero, Nat.zero_add, Int.reduceLT, Int.reduceLE, Int.reduceNeg, Int.reduceAdd, Int.reduceSub, Int.reduceToNat, Int.reduceEq, Int.reduceMul, Int.reducePow, Int.cast_ofNat_Int, Int.toNat_natCast, ne_eq, Bool.false_eq_true, true_or, or_true, or_self, Nat.not_lt_zero, ite_e0, ite_e1, lc_lt, lc_ge, lc_gt, lc_le, lc_eq, Classical.not_not]
      with_reducible repeat' (first | (refine And.intro ?_ ?_) | intro _)
      all_goals try omega
      all_goals first | omega | skip
      refine TT_vn ok157 (sm3_ok G w) 60 9 [91] ?_
      simp -implicitDefEqProofs only [↓b157_0, ↓b157_5, ↓b157_13, ↓b157_24, ↓b157_35, ↓b157_51, ↓b157_54, ↓b157_58, ↓b157_59, ↓b157_69, ↓b157_72, ↓b157_94, ↓b157_97, ↓b157_101, ↓b157_102, ↓b157_109, ↓b157_41, ↓b157_63, ↓b157_76, b157_0, b157_5, b157_13, b157_24, b157_35, b157_51, b157_54, b157_58, b157_59, b157_69, b157_72, b157_94, b157_97, b157_101, b157_102, b157_109, b157_41, b157_63, b157_76, nLE3, layE8, e3, ep, I32, ↓xb, xb, ps, lpad, lat, aok2, rd2, aaok, aav, alok, alen, aok, akk, csum, isLg, cmpI, clsE, Option.elim, eq_self, List.mem_cons, List.not_mem_nil, or_false, false_or, List.append_nil, List.nil_append, List.cons_append, List.append_eq, List.replicate, List.length_cons, List.length_nil, List.map_cons, List.map_nil, ↓reduceIte, reduceCtorEq, if_true, if_false, true_and, and_true, false_and, and_false, and_self, not_true_eq_false, not_false_eq_true, forall_const, true_implies, false_implies, implies_true, Nat.reduceAdd, Nat.reduceSub, Nat.reduceLT, Nat.reduceLeDiff, Nat.reduceEqDiff, Nat.reduceMul, Nat.reducePow, Nat.add_one_ne_zero, Nat.add_one_sub_one, Nat.add_zero, Nat.zero_add, Int.reduceLT, Int.reduceLE, Int.reduceNeg, Int.reduceAdd, Int.reduceSub, Int.reduceToNat, Int.reduceEq, Int.reduceMul, Int.reducePow, Int.cast_ofNat_Int, Int.toNat_natCast, ne_eq, Bool.false_eq_true, true_or, or_true, or_self, Nat.not_lt_zero, ite_e0, ite_e1, lc_lt, lc_ge, lc_gt, lc_le, lc_eq, Classical.not_not]
      with_reducible repeat' (first | (refine And.intro ?_ ?_) | intro _)
      all_goals try omega
      all_goals first | omega | skip
      refine S_scha (i := i) d2 jl_spec.2.2.2 hi (by omega) (by omega) (by omega) (Nat.le_of_ble_eq_true rfl) ?_
      rw [Int.toNat_natCast]
      by_cases c2 : t (p + j) = sbv i j
      · have ev := T.eq (i := p + j) (by omega) (by omega)
        rw [c2] at ev
        have r := ih (by omega) (by omega) (fun x hx' => by
          by_cases z : x = j
          · rw [z]; exact c2
          · exact hx x (by omega))
        rw [ev]
        refine TT_vb ok157 (sm3_ok G w) 60 [63] ?_
        simp -implicitDefEqProofs only [↓b157_0, ↓b157_5, ↓b157_13, ↓b157_24, ↓b157_35, ↓b157_51, ↓b157_54, ↓b157_58, ↓b157_59, ↓b157_69, ↓b157_72, ↓b157_94, ↓b157_97, ↓b157_101, ↓b157_102, ↓b157_109, ↓b157_41, ↓b157_63, ↓b157_76, b157_0, b157_5, b157_13, b157_24, b157_35, b157_51, b157_54, b157_58, b157_59, b157_69, b157_72, b157_94, b157_97, b157_101, b157_102, b157_109, b157_41, b157_63, b157_76, nLE3, layE8, e3, I32, ↓xb, xb, ps, lpad, lat, aok2, rd2, aaok, aav, alok, alen, aok, akk, csum, isLg, cmpI, clsE, Option.elim, eq_self, List.mem_cons, List.not_mem_nil, or_false, false_or, List.append_nil, List.nil_append, List.cons_append, List.append_eq, List.replicate, List.length_cons, List.length_nil, List.map_cons, List.map_nil, ↓reduceIte, reduceCtorEq, if_true, if_false, true_and, and_true, false_and, and_false, and_self, not_true_eq_false, not_false_eq_true, forall_const, true_implies, false_implies, implies_true, Nat.reduceAdd, Nat.reduceSub, Nat.reduceLT, Nat.reduceLeDiff, Nat.reduceEqDiff, Nat.reduceMul, Nat.reducePow, Nat.add_one_ne_zero, Nat.add_one_sub_one, Nat.add_zero, Nat.zero_add, Int.reduceLT, Int.reduceLE, Int.reduceNeg, Int.reduceAdd, Int.reduceSub, Int.reduceToNat, Int.reduceEq, Int.reduceMul, Int.reducePow, Int.cast_ofNat_Int, Int.toNat_natCast, ne_eq, Bool.false_eq_true, true_or, or_true, or_self, Nat.not_lt_zero, ite_e0, ite_e1, lc_lt, lc_ge, lc_gt, lc_le, lc_eq, Classical.not_not]
        with_reducible repeat' (first | (refine And.intro ?_ ?_) | intro _)
        all_goals try omega
        all_goals first | omega | exact r
      · have ev : ¬ σ 21 49 0 (p + j) = sbv i j := fun z => c2 (by
          have := T.2.2 (p + j) (by omega)
          omega)
        have r := q0 (fun z => c2 (z j c))
        refine TT_vb ok157 (sm3_ok G w) 60 [63] ?_
        simp -implicitDefEqProofs only [↓b157_0, ↓b157_5, ↓b157_13, ↓b157_24, ↓b157_35, ↓b157_51, ↓b157_54, ↓b157_58, ↓b157_59, ↓b157_69, ↓b157_72, ↓b157_94, ↓b157_97, ↓b157_101, ↓b157_102, ↓b157_109, ↓b157_41, ↓b157_63, ↓b157_76, b157_0, b157_5, b157_13, b157_24, b157_35, b157_51, b157_54, b157_58, b157_59, b157_69, b157_72, b157_94, b157_97, b157_101, b157_102, b157_109, b157_41, b157_63, b157_76, nLE3, layE8, ev, I32, ↓xb, xb, ps, lpad, lat, aok2, rd2, aaok, aav, alok, alen, aok, akk, csum, isLg, cmpI, clsE, Option.elim, eq_self, List.mem_cons, List.not_mem_nil, or_false, false_or, List.append_nil, List.nil_append, List.cons_append, List.append_eq, List.replicate, List.length_cons, List.length_nil, List.map_cons, List.map_nil, ↓reduceIte, reduceCtorEq, if_true, if_false, true_and, and_true, false_and, and_false, and_self, not_true_eq_false, not_false_eq_true, forall_const, true_implies, false_implies, implies_true, Nat.reduceAdd, Nat.reduceSub, Nat.reduceLT, Nat.reduceLeDiff, Nat.reduceEqDiff, Nat.reduceMul, Nat.reducePow, Nat.add_one_ne_zero, Nat.add_one_sub_one, Nat.add_zero, Nat.zero_add, Int.reduceLT, Int.reduceLE, Int.reduceNeg, Int.reduceAdd, Int.reduceSub, Int.reduceToNat, Int.reduceEq, Int.reduceMul, Int.reducePow, Int.cast_ofNat_Int, Int.toNat_natCast, ne_eq, Bool.false_eq_true, true_or, or_true, or_self, Nat.not_lt_zero, ite_e0, ite_e1, lc_lt, lc_ge, lc_gt, lc_le, lc_eq, Classical.not_not]
        with_reducible repeat' (first | (refine And.intro ?_ ?_) | intro _)
        all_goals try omega
        all_goals first | omega | skip
        refine TT_vn ok157 (sm3_ok G w) 60 2 [66] ?_
        simp -implicitDefEqProofs only [↓b157_0, ↓b157_5, ↓b157_13, ↓b157_24, ↓b157_35, ↓b157_51, ↓b157_54, ↓b157_58, ↓b157_59, ↓b157_69, ↓b157_72, ↓b157_94, ↓b157_97, ↓b157_101, ↓b157_102, ↓b157_109, ↓b157_41, ↓b157_63, ↓b157_76, b157_0, b157_5, b157_13, b157_24, b157_35, b157_51, b157_54, b157_58, b157_59, b157_69, b157_72, b157_94, b157_97, b157_101, b157_102, b157_109, b157_41, b157_63, b157_76, nLE3, layE8, e3, I32, ↓xb, xb, ps, lpad, lat, aok2, rd2, aaok, aav, alok, alen, aok, akk, csum, isLg, cmpI, clsE, Option.elim, eq_self, List.mem_cons, List.not_mem_nil, or_false, false_or, List.append_nil, List.nil_append, List.cons_append, List.append_eq, List.replicate, List.length_cons, List.length_nil, List.map_cons, List.map_nil, ↓reduceIte, reduceCtorEq, if_true, if_false, true_and, and_true, false_and, and_false, and_self, not_true_eq_false, not_false_eq_true, forall_const, true_implies, false_implies, implies_true, Nat.reduceAdd, Nat.reduceSub, Nat.reduceLT, Nat.reduceLeDiff, Nat.reduceEqDiff, Nat.reduceMul, Nat.reducePow, Nat.add_one_ne_zero, Nat.add_one_sub_one, Nat.add_zero, Nat.zero_add, Int.reduceLT, Int.reduceLE, Int.reduceNeg, Int.reduceAdd, Int.reduceSub, Int.reduceToNat, Int.reduceEq, Int.reduceMul, Int.reducePow, Int.cast_ofNat_Int, Int.toNat_natCast, ne_eq, Bool.false_eq_true, true_or, or_true, or_self, Nat.not_lt_zero, ite_e0, ite_e1, lc_lt, lc_ge, lc_gt, lc_le, lc_eq, Classical.not_not]
        with_reducible repeat' (first | (refine And.intro ?_ ?_) | intro _)
        all_goals try omega
        refine S_slen (i := i) d jl_spec.2.2.1 hi (by omega) (Nat.le_of_ble_eq_true rfl) ?_
        refine TT_vb ok157 (sm3_ok G w) 60 [76] ?_
        simp -implicitDefEqProofs only [↓b157_0, ↓b157_5, ↓b157_13, ↓b157_24, ↓b157_35, ↓b157_51, ↓b157_54, ↓b157_58, ↓b157_59, ↓b157_69, ↓b157_72, ↓b157_94, ↓b157_97, ↓b157_101, ↓b157_102, ↓b157_109, ↓b157_41, ↓b157_63, ↓b157_76, b157_0, b157_5, b157_13, b157_24, b157_35, b157_51, b157_54, b157_58, b157_59, b157_69, b157_72, b157_94, b157_97, b157_101, b157_102, b157_109, b157_41, b157_63, b157_76, nLE3, layE8, e3, I32, ↓xb, xb, ps, lpad, lat, aok2, rd2, aaok, aav, alok, alen, aok, akk, csum, isLg, cmpI, clsE, Option.elim, eq_self, List.mem_cons, List.not_mem_nil, or_false, false_or, List.append_nil, List.nil_append, List.cons_append, List.append_eq, List.replicate, List.length_cons, List.length_nil, List.map_cons, List.map_nil, ↓reduceIte, reduceCtorEq, if_true, if_false, true_and, and_true, false_and, and_false, and_self, not_true_eq_false, not_false_eq_true, forall_const, true_implies, false_implies, implies_true, Nat.reduceAdd, Nat.reduceSub, Nat.reduceLT, Nat.reduceLeDiff, Nat.reduceEqDiff, Nat.reduceMul, Nat.reducePow, Nat.add_one_ne_zero, Nat.add_one_sub_one, Nat.add_zero, Nat.zero_add, Int.reduceLT, Int.reduceLE, Int.reduceNeg, Int.reduceAdd, Int.reduceSub, Int.reduceToNat, Int.reduceEq, Int.reduceMul, Int.reducePow, Int.cast_ofNat_Int, Int.toNat_natCast, ne_eq, Bool.false_eq_true, true_or, or_true, or_self, Nat.not_lt_zero, ite_e0, ite_e1, lc_lt, lc_ge, lc_gt, lc_le, lc_eq, Classical.not_not]
        with_reducible repeat' (first | (refine And.intro ?_ ?_) | intro _)
        all_goals try omega
        all_goals first | omega | exact r
    · have r := q1 (fun x hx' => hx x (by omega))
      refine TT_vn ok157 (sm3_ok G w) 60 2 [66] ?_
      simp -implicitDefEqProofs only [↓b157_0, ↓b157_5, ↓b157_13, ↓b157_24, ↓b157_35, ↓b157_51, ↓b157_54, ↓b157_58, ↓b157_59, ↓b157_69, ↓b157_72, ↓b157_94, ↓b157_97, ↓b157_101, ↓b157_102, ↓b157_109, ↓b157_41, ↓b157_63, ↓b157_76, b157_0, b157_5, b157_13, b157_24, b157_35, b157_51, b157_54, b157_58, b157_59, b157_69, b157_72, b157_94, b157_97, b157_101, b157_102, b157_109, b157_41, b157_63, b157_76, nLE3, layE8, e3, I32, ↓xb, xb, ps, lpad, lat, aok2, rd2, aaok, aav, alok, alen, aok, akk, csum, isLg, cmpI, clsE, Option.elim, eq_self, List.mem_cons, List.not_mem_nil, or_false, false_or, List.append_nil, List.nil_append, List.cons_append, List.append_eq, List.replicate, List.length_cons, List.length_nil, List.map_cons, List.map_nil, ↓reduceIte, reduceCtorEq, if_true, if_false, true_and, and_true, false_and, and_false, and_self, not_true_eq_false, not_false_eq_true, forall_const, true_implies, false_implies, implies_true, Nat.reduceAdd, Nat.reduceSub, Nat.reduceLT, Nat.reduceLeDiff, Nat.reduceEqDiff, Nat.reduceMul, Nat.reducePow, Nat.add_one_ne_zero, Nat.add_one_sub_one, Nat.add_zero, Nat.zero_add, Int.reduceLT, Int.reduceLE, Int.reduceNeg, Int.reduceAdd, Int.reduceSub, Int.reduceToNat, Int.reduceEq, Int.reduceMul, Int.reducePow, Int.cast_ofNat_Int, Int.toNat_natCast, ne_eq, Bool.false_eq_true, true_or, or_true, or_self, Nat.not_lt_zero, ite_e0, ite_e1, lc_lt, lc_ge, lc_gt, lc_le, lc_eq, Classical.not_not]
      with_reducible repeat' (first | (refine And.intro ?_ ?_) | intro _)
      all_goals try omega
      refine S_slen (i := i) d jl_spec.2.2.1 hi (by omega) (Nat.le_of_ble_eq_true rfl) ?_
      refine TT_vb ok157 (sm3_ok G w) 60 [76] ?_
      simp -implicitDefEqProofs only [↓b157_0, ↓b157_5, ↓b157_13, ↓b157_24, ↓b157_35, ↓b157_51, ↓b157_54, ↓b157_58, ↓b157_59, ↓b157_69, ↓b157_72, ↓b157_94, ↓b157_97, ↓b157_101, ↓b157_102, ↓b157_109, ↓b157_41, ↓b157_63, ↓b157_76, b157_0, b157_5, b157_13, b157_24, b157_35, b157_51, b157_54, b157_58, b157_59, b157_69, b157_72, b157_94, b157_97, b157_101, b157_102, b157_109, b157_41, b157_63, b157_76, nLE3, layE8, e3, I32, ↓xb, xb, ps, lpad, lat, aok2, rd2, aaok, aav, alok, alen, aok, akk, csum, isLg, cmpI, clsE, Option.elim, eq_self, List.mem_cons, List.not_mem_nil, or_false, false_or, List.append_nil, List.nil_append, List.cons_append, List.append_eq, List.replicate, List.length_cons, List.length_nil, List.map_cons, List.map_nil, ↓reduceIte, reduceCtorEq, if_true, if_false, true_and, and_true, false_and, and_false, and_self, not_true_eq_false, not_false_eq_true, forall_const, true_implies, false_implies, implies_true, Nat.reduceAdd, Nat.reduceSub, Nat.reduceLT, Nat.reduceLeDiff, Nat.reduceEqDiff, Nat.reduceMul, Nat.reducePow, Nat.add_one_ne_zero, Nat.add_one_sub_one, Nat.add_zero, Nat.zero_add, Int.reduceLT, Int.reduceLE, Int.reduceNeg, Int.reduceAdd, Int.reduceSub, Int.reduceToNat, Int.reduceEq, Int.reduceMul, Int.reducePow, Int.cast_ofNat_Int, Int.toNat_natCast, ne_eq, Bool.false_eq_true, true_or, or_true, or_self, Nat.not_lt_zero, ite_e0, ite_e1, lc_lt, lc_ge, lc_gt, lc_le, lc_eq, Classical.not_not]
      with_reducible repeat' (first | (refine And.intro ?_ ?_) | intro _)
      all_goals try omega
      all_goals first | omega | exact r
set_option maxRecDepth 100000 in
set_option maxHeartbeats 1000000 in
theorem kx_stands (T : TXx σ t N) (hk : 10 ≤ k) {i p : Nat} (hi : i < 24) (hp : p ≤ N) (e3 : σ 21 40 0 0 = p) (q1 : isW t p (le t N p) i → Q (some (vi 1)) σ) (q0 : ¬ isW t p (le t N p) i → Q (some (vi 0)) σ) : CC G w w k (0, 0) 157 [vr 21 0 0, vr (1000 + i) 0 0] σ Q := by
  have t1 := T.1
  have t2 := T.2.1
  have lr := sc_r (f := fun i => isLt (t i)) (N := N) (p := p)
  have l1 : p ≤ le t N p := lr.1
  have l2 : le t N p ≤ N := lr.2.1 hp
  have lim : strL.getD i 0 < 200 := by
    have : ∀ i, i < 24 → strL.getD i 0 < 200 := by decide
    exact this i hi
  have d := TT_inv (pc := 48) ok157 (ix := 315) (x := -1) (y := 1007) (z := 0) rfl
  have d3 := TT_inv (pc := 66) ok157 (ix := 315) (x := -1) (y := 1007) (z := 0) rfl
  refine CC_vb ok157 (by decide) (sm3_ok G w) 60 [5] (Nat.le_of_ble_eq_true rfl) ?_
  simp -implicitDefEqProofs only [↓b157_0, ↓b157_5, ↓b157_13, ↓b157_24, ↓b157_35, ↓b157_51, ↓b157_54, ↓b157_58, ↓b157_59, ↓b157_69, ↓b157_72, ↓b157_94, ↓b157_97, ↓b157_101, ↓b157_102, ↓b157_109, ↓b157_41, ↓b157_63, ↓b157_76, b157_0, b157_5, b157_13, b157_24, b157_35, b157_51, b157_54, b157_58, b157_59, b157_69, b157_72, b157_94, b157_97, b157_101, b157_102, b157_109, b157_41, b157_63, b157_76, nLE3, layE8, e3, I32, ↓xb, xb, ps, lpad, lat, aok2, rd2, aaok, aav, alok, alen, aok, akk, csum, isLg, cmpI, clsE, Option.elim, eq_self, List.mem_cons, List.not_mem_nil, or_false, false_or, List.append_nil, List.nil_append, List.cons_append, List.append_eq, List.replicate, List.length_cons, List.length_nil, List.map_cons, List.map_nil, ↓reduceIte, reduceCtorEq, if_true, if_false, true_and, and_true, false_and, and_false, and_self, not_true_eq_false, not_false_eq_true, forall_const, true_implies, false_implies, implies_true, Nat.reduceAdd, Nat.reduceSub, Nat.reduceLT, Nat.reduceLeDiff, Nat.reduceEqDiff, Nat.reduceMul, Nat.reducePow, Nat.add_one_ne_zero, Nat.add_one_sub_one, Nat.add_zero, Nat.zero_add, Int.reduceLT, Int.reduceLE, Int.reduceNeg, Int.reduceAdd, Int.reduceSub, Int.reduceToNat, Int.reduceEq, Int.reduceMul, Int.reducePow, Int.cast_ofNat_Int, Int.toNat_natCast, ne_eq, Bool.false_eq_true, true_or, or_true, or_self, Nat.not_lt_zero, ite_e0, ite_e1, lc_lt, lc_ge, lc_gt, lc_le, lc_eq, Classical.not_not]
  with_reducible repeat' (first | (refine And.intro ?_ ?_) | intro _)
  all_goals try omega
  all_goals first | omega | skip
  refine kx_st_e T (by omega) e3 ?_ (N + 1) p hp (by omega) rfl
  refine TT_vn ok157 (sm3_ok G w) 60 5 [48] ?_
  simp -implicitDefEqProofs only [↓b157_0, ↓b157_5, ↓b157_13, ↓b157_24, ↓b157_35, ↓b157_51, ↓b157_54, ↓b157_58, ↓b157_59, ↓b157_69, ↓b157_72, ↓b157_94, ↓b157_97, ↓b157_101, ↓b157_102, ↓b157_109, ↓b157_41, ↓b157_63, ↓b157_76, b157_0, b157_5, b157_13, b157_24, b157_35, b157_51, b157_54, b157_58, b157_59, b157_69, b157_72, b157_94, b157_97, b157_101, b157_102, b157_109, b157_41, b157_63, b157_76, nLE3, layE8, e3, I32, ↓xb, xb, ps, lpad, lat, aok2, rd2, aaok, aav, alok, alen, aok, akk, csum, isLg, cmpI, clsE, Option.elim, eq_self, List.mem_cons, List.not_mem_nil, or_false, false_or, List.append_nil, List.nil_append, List.cons_append, List.append_eq, List.replicate, List.length_cons, List.length_nil, List.map_cons, List.map_nil, ↓reduceIte, reduceCtorEq, if_true, if_false, true_and, and_true, false_and, and_false, and_self, not_true_eq_false, not_false_eq_true, forall_const, true_implies, false_implies, implies_true, Nat.reduceAdd, Nat.reduceSub, Nat.reduceLT, Nat.reduceLeDiff, Nat.reduceEqDiff, Nat.reduceMul, Nat.reducePow, Nat.add_one_ne_zero, Nat.add_one_sub_one, Nat.add_zero, Nat.zero_add, Int.reduceLT, Int.reduceLE, Int.reduceNeg, Int.reduceAdd, Int.reduceSub, Int.reduceToNat, Int.reduceEq, Int.reduceMul, Int.reducePow, Int.cast_ofNat_Int, Int.toNat_natCast, ne_eq, Bool.false_eq_true, true_or, or_true, or_self, Nat.not_lt_zero, ite_e0, ite_e1, lc_lt, lc_ge, lc_gt, lc_le, lc_eq, Classical.not_not]
  with_reducible repeat' (first | (refine And.intro ?_ ?_) | intro _)
  all_goals try omega
  all_goals first | omega | skip
  refine S_slen (i := i) d jl_spec.2.2.1 hi (by omega) (Nat.le_of_ble_eq_true rfl) ?_
  by_cases c : p + strL.getD i 0 = le t N p
  · have el : (le t N p : Int) - (p : Int) = (strL.getD i 0 : Nat) := by omega
    rw [el]
    refine TT_vb ok157 (sm3_ok G w) 60 [63] ?_
    simp -implicitDefEqProofs only [↓b157_0, ↓b157_5, ↓b157_13, ↓b157_24, ↓b157_35, ↓b157_51, ↓b157_54, ↓b157_58, ↓b157_59, ↓b157_69, ↓b157_72, ↓b157_94, ↓b157_97, ↓b157_101, ↓b157_102, ↓b157_109, ↓b157_41, ↓b157_63, ↓b157_76, b157_0, b157_5, b157_13, b157_24, b157_35, b157_51, b157_54, b157_58, b157_59, b157_69, b157_72, b157_94, b157_97, b157_101, b157_102, b157_109, b157_41, b157_63, b157_76, nLE3, layE8, e3, I32, ↓xb, xb, ps, lpad, lat, aok2, rd2, aaok, aav, alok, alen, aok, akk, csum, isLg, cmpI, clsE, Option.elim, eq_self, List.mem_cons, List.not_mem_nil, or_false, false_or, List.append_nil, List.nil_append, List.cons_append, List.append_eq, List.replicate, List.length_cons, List.length_nil, List.map_cons, List.map_nil, ↓reduceIte, reduceCtorEq, if_true, if_false, true_and, and_true, false_and, and_false, and_self, not_true_eq_false, not_false_eq_true, forall_const, true_implies, false_implies, implies_true, Nat.reduceAdd, Nat.reduceSub, Nat.reduceLT, Nat.reduceLeDiff, Nat.reduceEqDiff, Nat.reduceMul, Nat.reducePow, Nat.add_one_ne_zero, Nat.add_one_sub_one, Nat.add_zero, Nat.zero_add, Int.reduceLT, Int.reduceLE, Int.reduceNeg, Int.reduceAdd, Int.reduceSub, Int.reduceToNat, Int.reduceEq, Int.reduceMul, Int.reducePow, Int.cast_ofNat_Int, Int.toNat_natCast, ne_eq, Bool.false_eq_true, true_or, or_true, or_self, Nat.not_lt_zero, ite_e0, ite_e1, lc_lt, lc_ge, lc_gt, lc_le, lc_eq, Classical.not_not]
    with_reducible repeat' (first | (refine And.intro ?_ ?_) | intro _)
    all_goals try omega
    all_goals first | omega | skip
    exact kx_st_j T (by omega) hi e3 (by omega) (fun z => q1 ⟨c, z⟩) (fun z => q0 (fun y => z y.2)) (strL.getD i 0 + 1) 0 (by omega) (by omega) (fun x hx => absurd hx (by omega))
  · have el : ¬ (le t N p : Int) - (p : Int) = (strL.getD i 0 : Nat) := by omega
    have r := q0 (fun z => c z.1)
    refine TT_vb ok157 (sm3_ok G w) 60 [63] ?_
    simp -implicitDefEqProofs only [↓b157_0, ↓b157_5, ↓b157_13, ↓b157_24, ↓b157_35, ↓b157_51, ↓b157_54, ↓b157_58, ↓b157_59, ↓b157_69, ↓b157_72, ↓b157_94, ↓b157_97, ↓b157_101, ↓b157_102, ↓b157_109, ↓b157_41, ↓b157_63, ↓b157_76, b157_0, b157_5, b157_13, b157_24, b157_35, b157_51, b157_54, b157_58, b157_59, b157_69, b157_72, b157_94, b157_97, b157_101, b157_102, b157_109, b157_41, b157_63, b157_76, nLE3, layE8, el, I32, ↓xb, xb, ps, lpad, lat, aok2, rd2, aaok, aav, alok, alen, aok, akk, csum, isLg, cmpI, clsE, Option.elim, eq_self, List.mem_cons, List.not_mem_nil, or_false, false_or, List.append_nil, List.nil_append, List.cons_append, List.append_eq, List.replicate, List.length_cons, List.length_nil, List.map_cons, List.map_nil, ↓reduceIte, reduceCtorEq, if_true, if_false, true_and, and_true, false_and, and_false, and_self, not_true_eq_false, not_false_eq_true, forall_const, true_implies, false_implies, implies_true, Nat.reduceAdd, Nat.reduceSub, Nat.reduceLT, Nat.reduceLeDiff, Nat.reduceEqDiff, Nat.reduceMul, Nat.reducePow, Nat.add_one_ne_zero, Nat.add_one_sub_one, Nat.add_zero, Nat.zero_add, Int.reduceLT, Int.reduceLE, Int.reduceNeg, Int.reduceAdd, Int.reduceSub, Int.reduceToNat, Int.reduceEq, Int.reduceMul, Int.reducePow, Int.cast_ofNat_Int, Int.toNat_natCast, ne_eq, Bool.false_eq_true, true_or, or_true, or_self, Nat.not_lt_zero, ite_e0, ite_e1, lc_lt, lc_ge, lc_gt, lc_le, lc_eq, Classical.not_not]
    with_reducible repeat' (first | (refine And.intro ?_ ?_) | intro _)
    all_goals try omega
    all_goals first | omega | skip
    refine TT_vn ok157 (sm3_ok G w) 60 2 [66] ?_
    simp -implicitDefEqProofs only [↓b157_0, ↓b157_5, ↓b157_13, ↓b157_24, ↓b157_35, ↓b157_51, ↓b157_54, ↓b157_58, ↓b157_59, ↓b157_69, ↓b157_72, ↓b157_94, ↓b157_97, ↓b157_101, ↓b157_102, ↓b157_109, ↓b157_41, ↓b157_63, ↓b157_76, b157_0, b157_5, b157_13, b157_24, b157_35, b157_51, b157_54, b157_58, b157_59, b157_69, b157_72, b157_94, b157_97, b157_101, b157_102, b157_109, b157_41, b157_63, b157_76, nLE3, layE8, e3, I32, ↓xb, xb, ps, lpad, lat, aok2, rd2, aaok, aav, alok, alen, aok, akk, csum, isLg, cmpI, clsE, Option.elim, eq_self, List.mem_cons, List.not_mem_nil, or_false, false_or, List.append_nil, List.nil_append, List.cons_append, List.append_eq, List.replicate, List.length_cons, List.length_nil, List.map_cons, List.map_nil, ↓reduceIte, reduceCtorEq, if_true, if_false, true_and, and_true, false_and, and_false, and_self, not_true_eq_false, not_false_eq_true, forall_const, true_implies, false_implies, implies_true, Nat.reduceAdd, Nat.reduceSub, Nat.reduceLT, Nat.reduceLeDiff, Nat.reduceEqDiff, Nat.reduceMul, Nat.reducePow, Nat.add_one_ne_zero, Nat.add_one_sub_one, Nat.add_zero, Nat.zero_add, Int.reduceLT, Int.reduceLE, Int.reduceNeg, Int.reduceAdd, Int.reduceSub, Int.reduceToNat, Int.reduceEq, Int.reduceMul, Int.reducePow, Int.cast_ofNat_Int, Int.toNat_natCast, ne_eq, Bool.false_eq_true, true_or, or_true, or_self, Nat.not_lt_zero, ite_e0, ite_e1, lc_lt, lc_ge, lc_gt, lc_le, lc_eq, Classical.not_not]
    with_reducible repeat' (first | (refine And.intro ?_ ?_) | intro _)
    all_goals try omega
    refine S_slen (i := i) d3 jl_spec.2.2.1 hi (by omega) (Nat.le_of_ble_eq_true rfl) ?_
    refine TT_vb ok157 (sm3_ok G w) 60 [76] ?_
    simp -implicitDefEqProofs only [↓b157_0, ↓b157_5, ↓b157_13, ↓b157_24, ↓b157_35, ↓b157_51, ↓b157_54, ↓b157_58, ↓b157_59, ↓b157_69, ↓b157_72, ↓b157_94, ↓b157_97, ↓b157_101, ↓b157_102, ↓b157_109, ↓b157_41, ↓b157_63, ↓b157_76, b157_0, b157_5, b157_13, b157_24, b157_35, b157_51, b157_54, b157_58, b157_59, b157_69, b157_72, b157_94, b157_97, b157_101, b157_102, b157_109, b157_41, b157_63, b157_76, nLE3, layE8, e3, I32, ↓xb, xb, ps, lpad, lat, aok2, rd2, aaok, aav, alok, alen, aok, akk, csum, isLg, cmpI, clsE, Option.elim, eq_self, List.mem_cons, List.not_mem_nil, or_false, false_or, List.append_nil, List.nil_append, List.cons_append, List.append_eq, List.replicate, List.length_cons, List.length_nil, List.map_cons, List.map_nil, ↓reduceIte, reduceCtorEq, if_true, if_false, true_and, and_true, false_and, and_false, and_self, not_true_eq_false, not_false_eq_true, forall_const, true_implies, false_implies, implies_true, Nat.reduceAdd, Nat.reduceSub, Nat.reduceLT, Nat.reduceLeDiff, Nat.reduceEqDiff, Nat.reduceMul, Nat.reducePow, Nat.add_one_ne_zero, Nat.add_one_sub_one, Nat.add_zero, Nat.zero_add, Int.reduceLT, Int.reduceLE, Int.reduceNeg, Int.reduceAdd, Int.reduceSub, Int.reduceToNat, Int.reduceEq, Int.reduceMul, Int.reducePow, Int.cast_ofNat_Int, Int.toNat_natCast, ne_eq, Bool.false_eq_true, true_or, or_true, or_self, Nat.not_lt_zero, ite_e0, ite_e1, lc_lt, lc_ge, lc_gt, lc_le, lc_eq, Classical.not_not]
    with_reducible repeat' (first | (refine And.intro ?_ ?_) | intro _)
    all_goals try omega
    all_goals first | omega | exact r
end LXX

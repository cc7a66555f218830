/-! 9g.clausex: what a clause of the check uses: a number, whether a hold was told, a word taken -/
def CcX (σ : Mem) (s : Nat) (LL : List (Nat × Int)) (j : Nat) (x : Cl) : Prop := ∃ a b e : Nat, σ 21 53 0 (12 * s + j) = x.1 ∧ (x.1 = 3 → σ 21 54 0 (12 * s + j) = x.2.1) ∧ σ 21 55 0 (12 * s + j) = ((a : Nat) : Int) ∧ σ 21 56 0 (12 * s + j) = ((b : Nat) : Int) ∧ σ 21 57 0 (12 * s + j) = ((e : Nat) : Int) ∧ Seg LL a b e x.2.2.1 x.2.2.2.2
def RcX (σ : Mem) (s : Nat) (LL : List (Nat × Int)) (Cs : List Cl) : Prop := ∀ j, j < Cs.length → CcX σ s LL j (Cs.getD j d0)
abbrev SXR : Nat → Nat → Bool := fun o f => o == 21 && (f == 40 || f == 41 || f == 44 || f == 45 || f == 46 || f == 47 || f == 50 || f == 51 || f == 53 || f == 54 || f == 55 || f == 56 || f == 57 || f == 58)
theorem SXT_R {σ σ' : Mem} (h : same SXT σ σ') : same SXR σ σ' := h.mono (fun o f z => by
  have z' : (o == 21 && (f == 40 || f == 41 || f == 44 || f == 45 || f == 46 || f == 47 || f == 50 || f == 51 || f == 58)) = true := z
  show (o == 21 && (f == 40 || f == 41 || f == 44 || f == 45 || f == 46 || f == 47 || f == 50 || f == 51 || f == 53 || f == 54 || f == 55 || f == 56 || f == 57 || f == 58)) = true
  simp only [Bool.and_eq_true, Bool.or_eq_true] at z' ⊢
  refine ⟨z'.1, ?_⟩
  rcases z'.2 with (((((((h | h) | h) | h) | h) | h) | h) | h) | h <;> simp [h])
theorem hdB_iff {Cs : List Cl} : hdB Cs = true ↔ ∃ i, i < Cs.length ∧ (Cs.getD i d0).1 = 3 := by
  unfold hdB
  rw [List.any_eq_true]
  constructor
  · rintro ⟨x, hx, h3⟩
    obtain ⟨i, hi, e⟩ := List.mem_iff_getElem.mp hx
    refine ⟨i, hi, ?_⟩
    rw [List.getD_eq_getElem?_getD, List.getElem?_eq_getElem hi]
    show (Cs[i]).1 = 3
    rw [e]
    exact beq_iff_eq.mp h3
  · rintro ⟨i, hi, h3⟩
    refine ⟨Cs[i], List.getElem_mem hi, ?_⟩
    rw [List.getD_eq_getElem?_getD, List.getElem?_eq_getElem hi] at h3
    exact beq_iff_eq.mpr h3
section CLX
variable {G : Gl} {w : Wd} {k : Nat} {σ : Mem} {Q : Option AV → Mem → Prop} {t : Nat → Int} {N s : Nat}
set_option maxRecDepth 100000 in
set_option maxHeartbeats 1000000 in
theorem kx_clauseOf (hk : 4 ≤ k) {i : Int} (hi : 0 ≤ i ∧ i < 4) (q : Q (some (vr (1001 + i.toNat) 0 0)) σ) : CC G w w k (0, 0) 152 [vi i] σ Q := by
  have h : i = 0 ∨ i = 1 ∨ i = 2 ∨ i = 3 := by omega
  rcases h with rfl | rfl | rfl | rfl
  all_goals refine CC_vb ok152 (by decide) (sm3_ok G w) 60 [] (Nat.le_of_ble_eq_true rfl) ?_
  all_goals simp -implicitDefEqProofs only [↓b152_0, ↓b152_4, ↓b152_10, ↓b152_15, ↓b152_21, ↓b152_26, ↓b152_32, ↓b152_35, b152_0, b152_4, b152_10, b152_15, b152_21, b152_26, b152_32, b152_35, nLE3, layE8, hk, I32, ↓xb, xb, ps, lpad, lat, aok2, rd2, aaok, aav, alok, alen, aok, akk, csum, isLg, cmpI, clsE, Option.elim, eq_self, List.mem_cons, List.not_mem_nil, or_false, false_or, List.append_nil, List.nil_append, List.cons_append, List.append_eq, List.replicate, List.length_cons, List.length_nil, List.map_cons, List.map_nil, ↓reduceIte, reduceCtorEq, if_true, if_false, true_and, and_true, false_and, and_false, and_self, not_true_eq_false, not_false_eq_true, forall_const, true_implies, false_implies, implies_true, Nat.reduceAdd, Nat.reduceSub, Nat.reduceLT, Nat.reduceLeDiff, Nat.reduceEqDiff, Nat.reduceMul, Nat.reducePow, Nat.add_one_ne_zero, Nat.add_one_sub_one, Nat.add_zero, Nat.zero_add, Int.reduceLT, Int.reduceLE, Int.reduceNeg, Int.reduceAdd, Int.reduceSub, Int.reduceToNat, Int.reduceEq, Int.reduceMul, Int.reducePow, Int.cast_ofNat_Int, Int.toNat_natCast, ne_eq, Bool.false_eq_true, true_or, or_true, or_self, Nat.not_lt_zero, ite_e0, ite_e1, lc_lt, lc_ge, lc_gt, lc_le, lc_eq, Classical.not_not]
  all_goals with_reducible repeat' (first | (refine And.intro ?_ ?_) | intro _)
  all_goals first | omega | exact q
set_option maxRecDepth 100000 in
set_option maxHeartbeats 1000000 in
theorem kx_takes (ht : TR t) (hk : 14 ≤ k) {p c : Nat} {LL : List (Nat × Int)} (X : XSt σ t N s p c LL) (hp : p ≤ N)
    (q1 : tk t N p = 19 → ∀ σ', XSt σ' t N s (te t N p) c LL → same S40 σ σ' → Q (some (vi 1)) σ')
    (q0 : tk t N p ≠ 19 → ∀ σ', XSt σ' t N s (bls t N p) c LL → same S40 σ σ' → Q (some (vi 0)) σ') : CC G w w k (0, 0) 158 [vr 21 0 0, vr 1020 0 0] σ Q := by
  have bN := (bls_r (t := t) (N := N) (p := p)).2 hp
  have t2 := X.1.2.1
  have wd := wd_iff (N := N) (b := bls t N p) (v := 19) ht (by omega)
  refine CC_vb ok158 (by decide) (sm3_ok G w) 60 [19] (Nat.le_of_ble_eq_true rfl) ?_
  simp -implicitDefEqProofs only [↓b158_0, ↓b158_4, ↓b158_9, ↓b158_23, ↓b158_26, ↓b158_27, ↓b158_19, b158_0, b158_4, b158_9, b158_23, b158_26, b158_27, b158_19, nLE3, layE8, hk, n3_155, n3_157, I32, ↓xb, xb, ps, lpad, lat, aok2, rd2, aaok, aav, alok, alen, aok, akk, csum, isLg, cmpI, clsE, Option.elim, eq_self, List.mem_cons, List.not_mem_nil, or_false, false_or, List.append_nil, List.nil_append, List.cons_append, List.append_eq, List.replicate, List.length_cons, List.length_nil, List.map_cons, List.map_nil, ↓reduceIte, reduceCtorEq, if_true, if_false, true_and, and_true, false_and, and_false, and_self, not_true_eq_false, not_false_eq_true, forall_const, true_implies, false_implies, implies_true, Nat.reduceAdd, Nat.reduceSub, Nat.reduceLT, Nat.reduceLeDiff, Nat.reduceEqDiff, Nat.reduceMul, Nat.reducePow, Nat.add_one_ne_zero, Nat.add_one_sub_one, Nat.add_zero, Nat.zero_add, Int.reduceLT, Int.reduceLE, Int.reduceNeg, Int.reduceAdd, Int.reduceSub, Int.reduceToNat, Int.reduceEq, Int.reduceMul, Int.reducePow, Int.cast_ofNat_Int, Int.toNat_natCast, ne_eq, Bool.false_eq_true, true_or, or_true, or_self, Nat.not_lt_zero, ite_e0, ite_e1, lc_lt, lc_ge, lc_gt, lc_le, lc_eq, Classical.not_not]
  with_reducible repeat' (first | (refine And.intro ?_ ?_) | intro _)
  all_goals try omega
  all_goals first | omega | skip
  refine kx_bl X.1 (by omega) hp X.2.1 (fun σ1 h40 s1 => ?_)
  have X1 := X.move (S40_1 s1) h40 ((s1 21 41 rfl 0 0).trans X.2.2.1)
  simp -implicitDefEqProofs only [↓b158_0, ↓b158_4, ↓b158_9, ↓b158_23, ↓b158_26, ↓b158_27, ↓b158_19, b158_0, b158_4, b158_9, b158_23, b158_26, b158_27, b158_19, nLE3, layE8, hk, n3_155, n3_157, I32, ↓xb, xb, ps, lpad, lat, aok2, rd2, aaok, aav, alok, alen, aok, akk, csum, isLg, cmpI, clsE, Option.elim, eq_self, List.mem_cons, List.not_mem_nil, or_false, false_or, List.append_nil, List.nil_append, List.cons_append, List.append_eq, List.replicate, List.length_cons, List.length_nil, List.map_cons, List.map_nil, ↓reduceIte, reduceCtorEq, if_true, if_false, true_and, and_true, false_and, and_false, and_self, not_true_eq_false, not_false_eq_true, forall_const, true_implies, false_implies, implies_true, Nat.reduceAdd, Nat.reduceSub, Nat.reduceLT, Nat.reduceLeDiff, Nat.reduceEqDiff, Nat.reduceMul, Nat.reducePow, Nat.add_one_ne_zero, Nat.add_one_sub_one, Nat.add_zero, Nat.zero_add, Int.reduceLT, Int.reduceLE, Int.reduceNeg, Int.reduceAdd, Int.reduceSub, Int.reduceToNat, Int.reduceEq, Int.reduceMul, Int.reducePow, Int.cast_ofNat_Int, Int.toNat_natCast, ne_eq, Bool.false_eq_true, true_or, or_true, or_self, Nat.not_lt_zero, ite_e0, ite_e1, lc_lt, lc_ge, lc_gt, lc_le, lc_eq, Classical.not_not]
  with_reducible repeat' (first | (refine And.intro ?_ ?_) | intro _)
  all_goals try omega
  all_goals first | omega | skip
  refine kx_stands (i := 20) X1.1 (by omega) (by omega) bN h40 (fun y => ?_) (fun y => ?_)
  · have z := isW_tk (v := 19) (by omega) y
    have y1 := y.1
    have ek : tk t N p = 19 := z.2.2.1
    have ete : te t N p = le t N (bls t N p) := z.2.2.2
    have ee : ((bls t N p : Nat) : Int) + (strL.getD 20 0 : Nat) = ((te t N p : Nat) : Int) := by rw [ete]; omega
    have teN : te t N p ≤ N := (te_adv (t := t) hp (by omega)).2
    have d := TT_inv (pc := 20) ok158 (ix := 315) (x := -1) (y := 1007) (z := 0) rfl
    have r := q1 ek _ (X1.move (p' := te t N p) (same.refl.put rfl) upp_eq (by rw [upp_nf (by decide)]; exact X1.2.2.1)) (s1.trans (same.refl.put rfl))
    simp -implicitDefEqProofs only [↓b158_0, ↓b158_4, ↓b158_9, ↓b158_23, ↓b158_26, ↓b158_27, ↓b158_19, b158_0, b158_4, b158_9, b158_23, b158_26, b158_27, b158_19, nLE3, layE8, h40, n3_155, n3_157, I32, ↓xb, xb, ps, lpad, lat, aok2, rd2, aaok, aav, alok, alen, aok, akk, csum, isLg, cmpI, clsE, Option.elim, eq_self, List.mem_cons, List.not_mem_nil, or_false, false_or, List.append_nil, List.nil_append, List.cons_append, List.append_eq, List.replicate, List.length_cons, List.length_nil, List.map_cons, List.map_nil, ↓reduceIte, reduceCtorEq, if_true, if_false, true_and, and_true, false_and, and_false, and_self, not_true_eq_false, not_false_eq_true, forall_const, true_implies, false_implies, implies_true, Nat.reduceAdd, Nat.reduceSub, Nat.reduceLT, Nat.reduceLeDiff, Nat.reduceEqDiff, Nat.reduceMul, Nat.reducePow, Nat.add_one_ne_zero, Nat.add_one_sub_one, Nat.add_zero, Nat.zero_add, Int.reduceLT, Int.reduceLE, Int.reduceNeg, Int.reduceAdd, Int.reduceSub, Int.reduceToNat, Int.reduceEq, Int.reduceMul, Int.reducePow, Int.cast_ofNat_Int, Int.toNat_natCast, ne_eq, Bool.false_eq_true, true_or, or_true, or_self, Nat.not_lt_zero, ite_e0, ite_e1, lc_lt, lc_ge, lc_gt, lc_le, lc_eq, Classical.not_not]
    with_reducible repeat' (first | (refine And.intro ?_ ?_) | intro _)
    all_goals try omega
    all_goals first | omega | skip
    refine TT_vn ok158 (sm3_ok G w) 60 1 [20] ?_
    simp -implicitDefEqProofs only [↓b158_0, ↓b158_4, ↓b158_9, ↓b158_23, ↓b158_26, ↓b158_27, ↓b158_19, b158_0, b158_4, b158_9, b158_23, b158_26, b158_27, b158_19, nLE3, layE8, hk, n3_155, n3_157, I32, ↓xb, xb, ps, lpad, lat, aok2, rd2, aaok, aav, alok, alen, aok, akk, csum, isLg, cmpI, clsE, Option.elim, eq_self, List.mem_cons, List.not_mem_nil, or_false, false_or, List.append_nil, List.nil_append, List.cons_append, List.append_eq, List.replicate, List.length_cons, List.length_nil, List.map_cons, List.map_nil, ↓reduceIte, reduceCtorEq, if_true, if_false, true_and, and_true, false_and, and_false, and_self, not_true_eq_false, not_false_eq_true, forall_const, true_implies, false_implies, implies_true, Nat.reduceAdd, Nat.reduceSub, Nat.reduceLT, Nat.reduceLeDiff, Nat.reduceEqDiff, Nat.reduceMul, Nat.reducePow, Nat.add_one_ne_zero, Nat.add_one_sub_one, Nat.add_zero, Nat.zero_add, Int.reduceLT, Int.reduceLE, Int.reduceNeg, Int.reduceAdd, Int.reduceSub, Int.reduceToNat, Int.reduceEq, Int.reduceMul, Int.reducePow, Int.cast_ofNat_Int, Int.toNat_natCast, ne_eq, Bool.false_eq_true, true_or, or_true, or_self, Nat.not_lt_zero, ite_e0, ite_e1, lc_lt, lc_ge, lc_gt, lc_le, lc_eq, Classical.not_not]
    with_reducible repeat' (first | (refine And.intro ?_ ?_) | intro _)
    all_goals try omega
    refine S_slen (i := 20) d jl_spec.2.2.1 (by omega) (by omega) (Nat.le_of_ble_eq_true rfl) ?_
    refine TT_vb ok158 (sm3_ok G w) 60 [] ?_
    simp -implicitDefEqProofs only [↓b158_0, ↓b158_4, ↓b158_9, ↓b158_23, ↓b158_26, ↓b158_27, ↓b158_19, b158_0, b158_4, b158_9, b158_23, b158_26, b158_27, b158_19, nLE3, layE8, ee, n3_155, n3_157, I32, ↓xb, xb, ps, lpad, lat, aok2, rd2, aaok, aav, alok, alen, aok, akk, csum, isLg, cmpI, clsE, Option.elim, eq_self, List.mem_cons, List.not_mem_nil, or_false, false_or, List.append_nil, List.nil_append, List.cons_append, List.append_eq, List.replicate, List.length_cons, List.length_nil, List.map_cons, List.map_nil, ↓reduceIte, reduceCtorEq, if_true, if_false, true_and, and_true, false_and, and_false, and_self, not_true_eq_false, not_false_eq_true, forall_const, true_implies, false_implies, implies_true, Nat.reduceAdd, Nat.reduceSub, Nat.reduceLT, Nat.reduceLeDiff, Nat.reduceEqDiff, Nat.reduceMul, Nat.reducePow, Nat.add_one_ne_zero, Nat.add_one_sub_one, Nat.add_zero, Nat.zero_add, Int.reduceLT, Int.reduceLE, Int.reduceNeg, Int.reduceAdd, Int.reduceSub, Int.reduceToNat, Int.reduceEq, Int.reduceMul, Int.reducePow, Int.cast_ofNat_Int, Int.toNat_natCast, ne_eq, Bool.false_eq_true, true_or, or_true, or_self, Nat.not_lt_zero, ite_e0, ite_e1, lc_lt, lc_ge, lc_gt, lc_le, lc_eq, Classical.not_not]
    with_reducible repeat' (first | (refine And.intro ?_ ?_) | intro _)
    all_goals try omega
    all_goals first | omega | exact r
  · have ek : tk t N p ≠ 19 := fun z => y (wd.mpr z)
    have r := q0 ek _ (X1.move (p' := bls t N p) (same.refl.put rfl) (upp_eq (v := ((bls t N p : Nat) : Int) + 0) |>.trans (by omega)) (by rw [upp_nf (by decide)]; exact X1.2.2.1)) (s1.trans (same.refl.put rfl))
    simp -implicitDefEqProofs only [↓b158_0, ↓b158_4, ↓b158_9, ↓b158_23, ↓b158_26, ↓b158_27, ↓b158_19, b158_0, b158_4, b158_9, b158_23, b158_26, b158_27, b158_19, nLE3, layE8, h40, n3_155, n3_157, I32, ↓xb, xb, ps, lpad, lat, aok2, rd2, aaok, aav, alok, alen, aok, akk, csum, isLg, cmpI, clsE, Option.elim, eq_self, List.mem_cons, List.not_mem_nil, or_false, false_or, List.append_nil, List.nil_append, List.cons_append, List.append_eq, List.replicate, List.length_cons, List.length_nil, List.map_cons, List.map_nil, ↓reduceIte, reduceCtorEq, if_true, if_false, true_and, and_true, false_and, and_false, and_self, not_true_eq_false, not_false_eq_true, forall_const, true_implies, false_implies, implies_true, Nat.reduceAdd, Nat.reduceSub, Nat.reduceLT, Nat.reduceLeDiff, Nat.reduceEqDiff, Nat.reduceMul, Nat.reducePow, Nat.add_one_ne_zero, Nat.add_one_sub_one, Nat.add_zero, Nat.zero_add, Int.reduceLT, Int.reduceLE, Int.reduceNeg, Int.reduceAdd, Int.reduceSub, Int.reduceToNat, Int.reduceEq, Int.reduceMul, Int.reducePow, Int.cast_ofNat_Int, Int.toNat_natCast, ne_eq, Bool.false_eq_true, true_or, or_true, or_self, Nat.not_lt_zero, ite_e0, ite_e1, lc_lt, lc_ge, lc_gt, lc_le, lc_eq, Classical.not_not]
    with_reducible repeat' (first | (refine And.intro ?_ ?_) | intro _)
    all_goals try omega
    all_goals first | omega | exact r
set_option maxRecDepth 100000 in
set_option maxHeartbeats 1000000 in
theorem kx_amount (ht : TR t) (hk : 16 ≤ k) {p c : Nat} {LL : List (Nat × Int)} (X : XSt σ t N s p c LL) (hp : p ≤ N) (hc : c ≤ 60)
    (qf : ∀ f, pzH t N p c = .inl f → ∀ v σ', XFt σ' t N f → same S401 σ σ' → Q (some (vi v)) σ')
    (qk : ∀ p1 c1 x, pzH t N p c = .inr (p1, c1, x) → ∀ σ', XSt σ' t N s p1 c LL → same S401 σ σ' → Q (some (vi x.2.1)) σ') : CC G w w k (0, 0) 171 [vr 21 0 0, vi 0, vi 9999] σ Q := by
  have bb := (bls_r (t := t) (N := N) (p := p)).2 hp
  have t2 := X.1.2.1
  have bs : ∀ a : Int, band a 255 = a % 256 := fun a => band_255
  have esp : pzH t N p c = (if tkB t N (bls t N p) = 31 then (if tvB t N (bls t N p) = -1 ∨ 9999 < tvB t N (bls t N p) then .inl (1 + 8 * bls t N p + 1) else .inr (teB t N (bls t N p), c, (3, tvB t N (bls t N p), [], [], []))) else .inl (1 + 8 * bls t N p)) := rfl
  refine CC_vb ok171 (by decide) (sm3_ok G w) 60 [] (Nat.le_of_ble_eq_true rfl) ?_
  simp -implicitDefEqProofs only [↓b171_0, ↓b171_4, ↓b171_16, ↓b171_21, ↓b171_24, ↓b171_25, ↓b171_34, ↓b171_40, ↓b171_46, b171_0, b171_4, b171_16, b171_21, b171_24, b171_25, b171_34, b171_40, b171_46, nLE3, layE8, hk, n3_155, n3_161, n3_153, I32, ↓xb, xb, ps, lpad, lat, aok2, rd2, aaok, aav, alok, alen, aok, akk, csum, isLg, cmpI, clsE, Option.elim, eq_self, List.mem_cons, List.not_mem_nil, or_false, false_or, List.append_nil, List.nil_append, List.cons_append, List.append_eq, List.replicate, List.length_cons, List.length_nil, List.map_cons, List.map_nil, ↓reduceIte, reduceCtorEq, if_true, if_false, true_and, and_true, false_and, and_false, and_self, not_true_eq_false, not_false_eq_true, forall_const, true_implies, false_implies, implies_true, Nat.reduceAdd, Nat.reduceSub, Nat.reduceLT, Nat.reduceLeDiff, Nat.reduceEqDiff, Nat.reduceMul, Nat.reducePow, Nat.add_one_ne_zero, Nat.add_one_sub_one, Nat.add_zero, Nat.zero_add, Int.reduceLT, Int.reduceLE, Int.reduceNeg, Int.reduceAdd, Int.reduceSub, Int.reduceToNat, Int.reduceEq, Int.reduceMul, Int.reducePow, Int.cast_ofNat_Int, Int.toNat_natCast, ne_eq, Bool.false_eq_true, true_or, or_true, or_self, Nat.not_lt_zero, ite_e0, ite_e1, lc_lt, lc_ge, lc_gt, lc_le, lc_eq, Classical.not_not]
  with_reducible repeat' (first | (refine And.intro ?_ ?_) | intro _)
  all_goals try omega
  all_goals first | omega | skip
  refine kx_bl X.1 (by omega) hp X.2.1 (fun σ1 h40 s1 => ?_)
  have X1 := X.move (S40_1 s1) h40 ((s1 21 41 rfl 0 0).trans X.2.2.1)
  have T1 := X1.1
  have t1 := T1.1
  have e41 := X1.2.2.1
  have e46 := X1.2.2.2.2.2.1
  have q1 := S40_1 s1
  generalize bls t N p = b at *
  have hb := ht b
  by_cases cd : b < N ∧ isDg (t b) = true
  · have c2 : 48 ≤ t b ∧ t b ≤ 57 := by have := cd.2; unfold isDg at this; rw [decide_eq_true_eq] at this; exact this
    have nl : ¬ isLt (t b) = true := fun z => by unfold isLt at z; rw [decide_eq_true_eq] at z; omega
    have kB : tkB t N b = 31 := by unfold tkB; rw [if_neg (by omega), if_neg nl, if_pos cd.2]
    have eB : teB t N b = dge t N b := by unfold teB; rw [if_neg (by omega), if_neg nl, if_pos cd.2]
    have dr := dgV_r ht (b := b) (fun _ _ => Or.inr trivial) (dge t N b - b) (fun j hj => (sc_r (f := fun i => isDg (t i)) (N := N) (p := b)).2.2 (b + j) (by omega) (show b + j < dge t N b by omega))
    have dl : dge t N b ≤ N := (sc_r (f := fun i => isDg (t i)) (N := N) (p := b)).2.1 bb
    rw [if_pos kB] at esp
    simp -implicitDefEqProofs only [↓b171_0, ↓b171_4, ↓b171_16, ↓b171_21, ↓b171_24, ↓b171_25, ↓b171_34, ↓b171_40, ↓b171_46, b171_0, b171_4, b171_16, b171_21, b171_24, b171_25, b171_34, b171_40, b171_46, nLE3, layE8, h40, e41, n3_155, n3_161, n3_153, I32, ↓xb, xb, ps, lpad, lat, aok2, rd2, aaok, aav, alok, alen, aok, akk, csum, isLg, cmpI, clsE, Option.elim, eq_self, List.mem_cons, List.not_mem_nil, or_false, false_or, List.append_nil, List.nil_append, List.cons_append, List.append_eq, List.replicate, List.length_cons, List.length_nil, List.map_cons, List.map_nil, ↓reduceIte, reduceCtorEq, if_true, if_false, true_and, and_true, false_and, and_false, and_self, not_true_eq_false, not_false_eq_true, forall_const, true_implies, false_implies, implies_true, Nat.reduceAdd, Nat.reduceSub, Nat.reduceLT, Nat.reduceLeDiff, Nat.reduceEqDiff, Nat.reduceMul, Nat.reducePow, Nat.add_one_ne_zero, Nat.add_one_sub_one, Nat.add_zero, Nat.zero_add, Int.reduceLT, Int.reduceLE, Int.reduceNeg, Int.reduceAdd, Int.reduceSub, Int.reduceToNat, Int.reduceEq, Int.reduceMul, Int.reducePow, Int.cast_ofNat_Int, Int.toNat_natCast, ne_eq, Bool.false_eq_true, true_or, or_true, or_self, Nat.not_lt_zero, ite_e0, ite_e1, lc_lt, lc_ge, lc_gt, lc_le, lc_eq, Classical.not_not]
    with_reducible repeat' (first | (refine And.intro ?_ ?_) | intro _)
    all_goals try omega
    all_goals first | omega | skip
    refine kx_digits ht (by omega) (by omega) T1 cd.1 cd.2 h40 e41 (fun σ2 f40 f41 s2 => ?_)
    by_cases bad : 5 < dge t N b - b ∨ 9999 < dgV t b (dge t N b - b)
    · rw [if_pos bad] at f41
      have tv : tvB t N b = -1 ∨ 9999 < tvB t N b := by
        unfold tvB
        by_cases z : dge t N b - b ≤ 5
        · rw [if_pos z]; exact Or.inr (by omega)
        · rw [if_neg z]; exact Or.inl rfl
      rw [if_pos tv] at esp
      have fne : σ2 21 41 0 0 ≠ 0 := by rw [f41]; omega
      have F : XFt σ2 t N (1 + 8 * (b : Int) + 1) := ⟨T1.keep s2 rfl rfl, f41, by omega, by omega, by omega, by rw [s2 21 46 rfl, e46]; omega, by rw [s2 21 46 rfl, e46]; omega⟩
      have r := fun v => qf _ esp v σ2 F (q1.trans s2)
      simp -implicitDefEqProofs only [↓b171_0, ↓b171_4, ↓b171_16, ↓b171_21, ↓b171_24, ↓b171_25, ↓b171_34, ↓b171_40, ↓b171_46, b171_0, b171_4, b171_16, b171_21, b171_24, b171_25, b171_34, b171_40, b171_46, nLE3, layE8, fne, n3_155, n3_161, n3_153, I32, ↓xb, xb, ps, lpad, lat, aok2, rd2, aaok, aav, alok, alen, aok, akk, csum, isLg, cmpI, clsE, Option.elim, eq_self, List.mem_cons, List.not_mem_nil, or_false, false_or, List.append_nil, List.nil_append, List.cons_append, List.append_eq, List.replicate, List.length_cons, List.length_nil, List.map_cons, List.map_nil, ↓reduceIte, reduceCtorEq, if_true, if_false, true_and, and_true, false_and, and_false, and_self, not_true_eq_false, not_false_eq_true, forall_const, true_implies, false_implies, implies_true, Nat.reduceAdd, Nat.reduceSub, Nat.reduceLT, Nat.reduceLeDiff, Nat.reduceEqDiff, Nat.reduceMul, Nat.reducePow, Nat.add_one_ne_zero, Nat.add_one_sub_one, Nat.add_zero, Nat.zero_add, Int.reduceLT, Int.reduceLE, Int.reduceNeg, Int.reduceAdd, Int.reduceSub, Int.reduceToNat, Int.reduceEq, Int.reduceMul, Int.reducePow, Int.cast_ofNat_Int, Int.toNat_natCast, ne_eq, Bool.false_eq_true, true_or, or_true, or_self, Nat.not_lt_zero, ite_e0, ite_e1, lc_lt, lc_ge, lc_gt, lc_le, lc_eq, Classical.not_not]
      with_reducible repeat' (first | (refine And.intro ?_ ?_) | intro _)
      all_goals try omega
      all_goals first | omega | exact r _
    · rw [if_neg bad] at f41
      have tv : tvB t N b = dgV t b (dge t N b - b) := by unfold tvB; rw [if_pos (by omega)]
      rw [if_neg (by rw [tv]; omega), eB] at esp
      have r := qk _ _ _ esp σ2 (X1.move s2 f40 f41) (q1.trans s2)
      rw [show ((3, tvB t N b, [], [], []) : Cl).2.1 = tvB t N b from rfl, tv] at r
      simp -implicitDefEqProofs only [↓b171_0, ↓b171_4, ↓b171_16, ↓b171_21, ↓b171_24, ↓b171_25, ↓b171_34, ↓b171_40, ↓b171_46, b171_0, b171_4, b171_16, b171_21, b171_24, b171_25, b171_34, b171_40, b171_46, nLE3, layE8, f41, n3_155, n3_161, n3_153, I32, ↓xb, xb, ps, lpad, lat, aok2, rd2, aaok, aav, alok, alen, aok, akk, csum, isLg, cmpI, clsE, Option.elim, eq_self, List.mem_cons, List.not_mem_nil, or_false, false_or, List.append_nil, List.nil_append, List.cons_append, List.append_eq, List.replicate, List.length_cons, List.length_nil, List.map_cons, List.map_nil, ↓reduceIte, reduceCtorEq, if_true, if_false, true_and, and_true, false_and, and_false, and_self, not_true_eq_false, not_false_eq_true, forall_const, true_implies, false_implies, implies_true, Nat.reduceAdd, Nat.reduceSub, Nat.reduceLT, Nat.reduceLeDiff, Nat.reduceEqDiff, Nat.reduceMul, Nat.reducePow, Nat.add_one_ne_zero, Nat.add_one_sub_one, Nat.add_zero, Nat.zero_add, Int.reduceLT, Int.reduceLE, Int.reduceNeg, Int.reduceAdd, Int.reduceSub, Int.reduceToNat, Int.reduceEq, Int.reduceMul, Int.reducePow, Int.cast_ofNat_Int, Int.toNat_natCast, ne_eq, Bool.false_eq_true, true_or, or_true, or_self, Nat.not_lt_zero, ite_e0, ite_e1, lc_lt, lc_ge, lc_gt, lc_le, lc_eq, Classical.not_not]
      with_reducible repeat' (first | (refine And.intro ?_ ?_) | intro _)
      all_goals try omega
      all_goals first | omega | exact r
  · have k31 : ¬ tkB t N b = 31 := fun z => by
      have d := wdT_r (t := t) (f := b) (e := le t N b)
      unfold tkB at z
      split at z
      · omega
      · split at z
        · omega
        · split at z
          · rename_i h1 _ h3
            exact cd ⟨by omega, h3⟩
          · split at z
            · split at z <;> omega
            · omega
    rw [if_neg k31] at esp
    have fl : (if σ1 21 40 0 0 < σ1 21 39 0 0 ∧ 48 ≤ band (σ1 21 49 0 (σ1 21 40 0 0).toNat) 255 ∧ band (σ1 21 49 0 (σ1 21 40 0 0).toNat) 255 ≤ 57 then (1 : Int) else 0) = 0 := if_neg (fun z => by
      rw [h40, t1, Int.toNat_natCast, bs] at z
      have lt : b < N := by omega
      rw [(T1.2.2 b lt).1] at z
      exact cd ⟨lt, by unfold isDg; rw [decide_eq_true_eq]; exact z.2⟩)
    rw [h40, t1, Int.toNat_natCast] at fl
    have F : XFt (up σ1 21 41 0 0 (1 + 8 * (b : Int) + 0)) t N (1 + 8 * (b : Int)) := ⟨T1.keep (S := SXl) (same.refl.put rfl) rfl rfl, by rw [upp_eq]; omega, by omega, by rw [upp_nf (by decide), h40]; omega, by rw [upp_nf (by decide), h40]; omega, by rw [upp_nf (by decide), e46]; omega, by rw [upp_nf (by decide), e46]; omega⟩
    have r := fun v => qf _ esp v _ F (q1.trans (same.refl.put rfl))
    have fne : up σ1 21 41 0 0 (1 + 8 * (b : Int) + 0) 21 41 0 0 ≠ 0 := by rw [upp_eq]; omega
    simp -implicitDefEqProofs only [↓b171_0, ↓b171_4, ↓b171_16, ↓b171_21, ↓b171_24, ↓b171_25, ↓b171_34, ↓b171_40, ↓b171_46, b171_0, b171_4, b171_16, b171_21, b171_24, b171_25, b171_34, b171_40, b171_46, nLE3, layE8, h40, e41, n3_155, n3_161, n3_153, I32, ↓xb, xb, ps, lpad, lat, aok2, rd2, aaok, aav, alok, alen, aok, akk, csum, isLg, cmpI, clsE, Option.elim, eq_self, List.mem_cons, List.not_mem_nil, or_false, false_or, List.append_nil, List.nil_append, List.cons_append, List.append_eq, List.replicate, List.length_cons, List.length_nil, List.map_cons, List.map_nil, ↓reduceIte, reduceCtorEq, if_true, if_false, true_and, and_true, false_and, and_false, and_self, not_true_eq_false, not_false_eq_true, forall_const, true_implies, false_implies, implies_true, Nat.reduceAdd, Nat.reduceSub, Nat.reduceLT, Nat.reduceLeDiff, Nat.reduceEqDiff, Nat.reduceMul, Nat.reducePow, Nat.add_one_ne_zero, Nat.add_one_sub_one, Nat.add_zero, Nat.zero_add, Int.reduceLT, Int.reduceLE, Int.reduceNeg, Int.reduceAdd, Int.reduceSub, Int.reduceToNat, Int.reduceEq, Int.reduceMul, Int.reducePow, Int.cast_ofNat_Int, Int.toNat_natCast, ne_eq, Bool.false_eq_true, true_or, or_true, or_self, Nat.not_lt_zero, ite_e0, ite_e1, lc_lt, lc_ge, lc_gt, lc_le, lc_eq, Classical.not_not]
    with_reducible repeat' (first | (refine And.intro ?_ ?_) | intro _)
    all_goals try omega
    all_goals first | omega | skip
    refine CC_vb ok161 (by decide) (sm3_ok G w) 60 [25] (Nat.le_of_ble_eq_true rfl) ?_
    simp -implicitDefEqProofs only [↓b161_0, ↓b161_4, ↓b161_7, ↓b161_16, ↓b161_18, ↓b161_25, ↓b161_29, ↓b161_32, ↓b161_42, ↓b161_50, ↓b161_57, ↓b161_58, ↓b161_72, ↓b161_82, ↓b161_87, ↓b161_93, b161_0, b161_4, b161_7, b161_16, b161_18, b161_25, b161_29, b161_32, b161_42, b161_50, b161_57, b161_58, b161_72, b161_82, b161_87, b161_93, nLE3, layE8, h40, t1, fl, k3_156, r156, n3_153, k3_154, r154, I32, ↓xb, xb, ps, lpad, lat, aok2, rd2, aaok, aav, alok, alen, aok, akk, csum, isLg, cmpI, clsE, Option.elim, eq_self, List.mem_cons, List.not_mem_nil, or_false, false_or, List.append_nil, List.nil_append, List.cons_append, List.append_eq, List.replicate, List.length_cons, List.length_nil, List.map_cons, List.map_nil, ↓reduceIte, reduceCtorEq, if_true, if_false, true_and, and_true, false_and, and_false, and_self, not_true_eq_false, not_false_eq_true, forall_const, true_implies, false_implies, implies_true, Nat.reduceAdd, Nat.reduceSub, Nat.reduceLT, Nat.reduceLeDiff, Nat.reduceEqDiff, Nat.reduceMul, Nat.reducePow, Nat.add_one_ne_zero, Nat.add_one_sub_one, Nat.add_zero, Nat.zero_add, Int.reduceLT, Int.reduceLE, Int.reduceNeg, Int.reduceAdd, Int.reduceSub, Int.reduceToNat, Int.reduceEq, Int.reduceMul, Int.reducePow, Int.cast_ofNat_Int, Int.toNat_natCast, ne_eq, Bool.false_eq_true, true_or, or_true, or_self, Nat.not_lt_zero, ite_e0, ite_e1, lc_lt, lc_ge, lc_gt, lc_le, lc_eq, Classical.not_not]
    with_reducible repeat' (first | (refine And.intro ?_ ?_) | intro _)
    all_goals try omega
    all_goals first | omega | skip
    refine kx_fails0 (by omega) e41 (by omega) (by omega) ?_
    simp -implicitDefEqProofs only [↓b161_0, ↓b161_4, ↓b161_7, ↓b161_16, ↓b161_18, ↓b161_25, ↓b161_29, ↓b161_32, ↓b161_42, ↓b161_50, ↓b161_57, ↓b161_58, ↓b161_72, ↓b161_82, ↓b161_87, ↓b161_93, b161_0, b161_4, b161_7, b161_16, b161_18, b161_25, b161_29, b161_32, b161_42, b161_50, b161_57, b161_58, b161_72, b161_82, b161_87, b161_93, nLE3, layE8, hk, k3_156, r156, n3_153, k3_154, r154, I32, ↓xb, xb, ps, lpad, lat, aok2, rd2, aaok, aav, alok, alen, aok, akk, csum, isLg, cmpI, clsE, Option.elim, eq_self, List.mem_cons, List.not_mem_nil, or_false, false_or, List.append_nil, List.nil_append, List.cons_append, List.append_eq, List.replicate, List.length_cons, List.length_nil, List.map_cons, List.map_nil, ↓reduceIte, reduceCtorEq, if_true, if_false, true_and, and_true, false_and, and_false, and_self, not_true_eq_false, not_false_eq_true, forall_const, true_implies, false_implies, implies_true, Nat.reduceAdd, Nat.reduceSub, Nat.reduceLT, Nat.reduceLeDiff, Nat.reduceEqDiff, Nat.reduceMul, Nat.reducePow, Nat.add_one_ne_zero, Nat.add_one_sub_one, Nat.add_zero, Nat.zero_add, Int.reduceLT, Int.reduceLE, Int.reduceNeg, Int.reduceAdd, Int.reduceSub, Int.reduceToNat, Int.reduceEq, Int.reduceMul, Int.reducePow, Int.cast_ofNat_Int, Int.toNat_natCast, ne_eq, Bool.false_eq_true, true_or, or_true, or_self, Nat.not_lt_zero, ite_e0, ite_e1, lc_lt, lc_ge, lc_gt, lc_le, lc_eq, Classical.not_not]
    with_reducible repeat' (first | (refine And.intro ?_ ?_) | intro _)
    all_goals try omega
    all_goals first | omega | skip
    all_goals simp -implicitDefEqProofs only [↓b171_0, ↓b171_4, ↓b171_16, ↓b171_21, ↓b171_24, ↓b171_25, ↓b171_34, ↓b171_40, ↓b171_46, b171_0, b171_4, b171_16, b171_21, b171_24, b171_25, b171_34, b171_40, b171_46, nLE3, layE8, fne, n3_155, n3_161, n3_153, I32, ↓xb, xb, ps, lpad, lat, aok2, rd2, aaok, aav, alok, alen, aok, akk, csum, isLg, cmpI, clsE, Option.elim, eq_self, List.mem_cons, List.not_mem_nil, or_false, false_or, List.append_nil, List.nil_append, List.cons_append, List.append_eq, List.replicate, List.length_cons, List.length_nil, List.map_cons, List.map_nil, ↓reduceIte, reduceCtorEq, if_true, if_false, true_and, and_true, false_and, and_false, and_self, not_true_eq_false, not_false_eq_true, forall_const, true_implies, false_implies, implies_true, Nat.reduceAdd, Nat.reduceSub, Nat.reduceLT, Nat.reduceLeDiff, Nat.reduceEqDiff, Nat.reduceMul, Nat.reducePow, Nat.add_one_ne_zero, Nat.add_one_sub_one, Nat.add_zero, Nat.zero_add, Int.reduceLT, Int.reduceLE, Int.reduceNeg, Int.reduceAdd, Int.reduceSub, Int.reduceToNat, Int.reduceEq, Int.reduceMul, Int.reducePow, Int.cast_ofNat_Int, Int.toNat_natCast, ne_eq, Bool.false_eq_true, true_or, or_true, or_self, Nat.not_lt_zero, ite_e0, ite_e1, lc_lt, lc_ge, lc_gt, lc_le, lc_eq, Classical.not_not]
    all_goals with_reducible repeat' (first | (refine And.intro ?_ ?_) | intro _)
    all_goals first | omega | exact r _
set_option maxRecDepth 100000 in
set_option maxHeartbeats 1000000 in
theorem kx_told_l (hk : 8 ≤ k) (hs7 : s ≤ 7) {Cs : List Cl} (e42 : σ 21 42 0 0 = ((s : Nat) : Int)) (hC : Cs.length ≤ 12) (hj : ∀ j, j < Cs.length → σ 21 53 0 (12 * s + j) = (Cs.getD j d0).1)
    (q : Q (some (vi (if hdB Cs = true then 1 else 0))) σ) :
    ∀ (m j : Nat) (a : Int), j ≤ Cs.length → Cs.length < j + m → (a = 0 ∨ a = 1) → (a = 1 ↔ ∃ i, i < j ∧ (Cs.getD i d0).1 = 3) → TT G w w w k (0, 0) 172 5 [some (vr 21 0 0), some (vi (Cs.length : Nat)), some (vi 3), some (vi a), some (vi j)] [] σ Q
  | 0, j, a, h0, h1, _, _ => by omega
  | m + 1, j, a, h0, h1, h01, ha => by
    have ih := kx_told_l hk hs7 e42 hC hj q m (j + 1)
    by_cases c : j < Cs.length
    · have ej := hj j c
      have ix : (12 * (s : Int) + (j : Int)).toNat = 12 * s + j := by omega
      by_cases a1 : a = 1
      · have r := ih 1 (by omega) (by omega) (Or.inr rfl) ⟨fun _ => by
          obtain ⟨i, hi, h3⟩ := ha.mp a1
          exact ⟨i, by omega, h3⟩, fun _ => rfl⟩
        rw [show (((j + 1 : Nat) : Int)) = (j : Int) + 1 by omega] at r
        subst a1
        refine TT_vb ok172 (sm3_ok G w) 60 [5] ?_
        simp -implicitDefEqProofs only [↓b172_0, ↓b172_5, ↓b172_11, ↓b172_15, ↓b172_34, ↓b172_38, ↓b172_39, ↓b172_46, b172_0, b172_5, b172_11, b172_15, b172_34, b172_38, b172_39, b172_46, nLE3, layE8, hk, I32, ↓xb, xb, ps, lpad, lat, aok2, rd2, aaok, aav, alok, alen, aok, akk, csum, isLg, cmpI, clsE, Option.elim, eq_self, List.mem_cons, List.not_mem_nil, or_false, false_or, List.append_nil, List.nil_append, List.cons_append, List.append_eq, List.replicate, List.length_cons, List.length_nil, List.map_cons, List.map_nil, ↓reduceIte, reduceCtorEq, if_true, if_false, true_and, and_true, false_and, and_false, and_self, not_true_eq_false, not_false_eq_true, forall_const, true_implies, false_implies, implies_true, Nat.reduceAdd, Nat.reduceSub, Nat.reduceLT, Nat.reduceLeDiff, Nat.reduceEqDiff, Nat.reduceMul, Nat.reducePow, Nat.add_one_ne_zero, Nat.add_one_sub_one, Nat.add_zero, Nat.zero_add, Int.reduceLT, Int.reduceLE, Int.reduceNeg, Int.reduceAdd, Int.reduceSub, Int.reduceToNat, Int.reduceEq, Int.reduceMul, Int.reducePow, Int.cast_ofNat_Int, Int.toNat_natCast, ne_eq, Bool.false_eq_true, true_or, or_true, or_self, Nat.not_lt_zero, ite_e0, ite_e1, lc_lt, lc_ge, lc_gt, lc_le, lc_eq, Classical.not_not]
        with_reducible repeat' (first | (refine And.intro ?_ ?_) | intro _)
        all_goals try omega
        all_goals first | omega | exact r
      · have a0 : a = 0 := by omega
        subst a0
        by_cases k3 : (Cs.getD j d0).1 = 3
        · have r := ih 1 (by omega) (by omega) (Or.inr rfl) ⟨fun _ => ⟨j, by omega, k3⟩, fun _ => rfl⟩
          rw [show (((j + 1 : Nat) : Int)) = (j : Int) + 1 by omega] at r
          rw [k3] at ej
          refine TT_vb ok172 (sm3_ok G w) 60 [5] ?_
          simp -implicitDefEqProofs only [↓b172_0, ↓b172_5, ↓b172_11, ↓b172_15, ↓b172_34, ↓b172_38, ↓b172_39, ↓b172_46, b172_0, b172_5, b172_11, b172_15, b172_34, b172_38, b172_39, b172_46, nLE3, layE8, e42, ix, ej, I32, ↓xb, xb, ps, lpad, lat, aok2, rd2, aaok, aav, alok, alen, aok, akk, csum, isLg, cmpI, clsE, Option.elim, eq_self, List.mem_cons, List.not_mem_nil, or_false, false_or, List.append_nil, List.nil_append, List.cons_append, List.append_eq, List.replicate, List.length_cons, List.length_nil, List.map_cons, List.map_nil, ↓reduceIte, reduceCtorEq, if_true, if_false, true_and, and_true, false_and, and_false, and_self, not_true_eq_false, not_false_eq_true, forall_const, true_implies, false_implies, implies_true, Nat.reduceAdd, Nat.reduceSub, Nat.reduceLT, Nat.reduceLeDiff, Nat.reduceEqDiff, Nat.reduceMul, Nat.reducePow, Nat.add_one_ne_zero, Nat.add_one_sub_one, Nat.add_zero, Nat.zero_add, Int.reduceLT, Int.reduceLE, Int.reduceNeg, Int.reduceAdd, Int.reduceSub, Int.reduceToNat, Int.reduceEq, Int.reduceMul, Int.reducePow, Int.cast_ofNat_Int, Int.toNat_natCast, ne_eq, Bool.false_eq_true, true_or, or_true, or_self, Nat.not_lt_zero, ite_e0, ite_e1, lc_lt, lc_ge, lc_gt, lc_le, lc_eq, Classical.not_not]
          with_reducible repeat' (first | (refine And.intro ?_ ?_) | intro _)
          all_goals try omega
          all_goals first | omega | exact r
        · have r := ih 0 (by omega) (by omega) (Or.inl rfl) ⟨fun z => absurd z (by omega), fun z => by
            obtain ⟨i, hi, h3⟩ := z
            by_cases ij : i = j
            · rw [ij] at h3; exact absurd h3 k3
            · have := ha.mpr ⟨i, by omega, h3⟩
              omega⟩
          rw [show (((j + 1 : Nat) : Int)) = (j : Int) + 1 by omega] at r
          have n3 : ¬ σ 21 53 0 (12 * s + j) = 3 := by rw [ej]; exact k3
          refine TT_vb ok172 (sm3_ok G w) 60 [5] ?_
          simp -implicitDefEqProofs only [↓b172_0, ↓b172_5, ↓b172_11, ↓b172_15, ↓b172_34, ↓b172_38, ↓b172_39, ↓b172_46, b172_0, b172_5, b172_11, b172_15, b172_34, b172_38, b172_39, b172_46, nLE3, layE8, e42, ix, n3, I32, ↓xb, xb, ps, lpad, lat, aok2, rd2, aaok, aav, alok, alen, aok, akk, csum, isLg, cmpI, clsE, Option.elim, eq_self, List.mem_cons, List.not_mem_nil, or_false, false_or, List.append_nil, List.nil_append, List.cons_append, List.append_eq, List.replicate, List.length_cons, List.length_nil, List.map_cons, List.map_nil, ↓reduceIte, reduceCtorEq, if_true, if_false, true_and, and_true, false_and, and_false, and_self, not_true_eq_false, not_false_eq_true, forall_const, true_implies, false_implies, implies_true, Nat.reduceAdd, Nat.reduceSub, Nat.reduceLT, Nat.reduceLeDiff, Nat.reduceEqDiff, Nat.reduceMul, Nat.reducePow, Nat.add_one_ne_zero, Nat.add_one_sub_one, Nat.add_zero, Nat.zero_add, Int.reduceLT, Int.reduceLE, Int.reduceNeg, Int.reduceAdd, Int.reduceSub, Int.reduceToNat, Int.reduceEq, Int.reduceMul, Int.reducePow, Int.cast_ofNat_Int, Int.toNat_natCast, ne_eq, Bool.false_eq_true, true_or, or_true, or_self, Nat.not_lt_zero, ite_e0, ite_e1, lc_lt, lc_ge, lc_gt, lc_le, lc_eq, Classical.not_not]
          with_reducible repeat' (first | (refine And.intro ?_ ?_) | intro _)
          all_goals try omega
          all_goals first | omega | exact r
    · have ea : a = (if hdB Cs = true then 1 else 0) := by
        have je : j = Cs.length := by omega
        rw [je] at ha
        by_cases z : hdB Cs = true
        · rw [if_pos z]; exact ha.mpr (hdB_iff.mp z)
        · rw [if_neg z]
          rcases h01 with h | h
          · exact h
          · exact absurd (hdB_iff.mpr (ha.mp h)) z
      rw [← ea] at q
      refine TT_vb ok172 (sm3_ok G w) 60 [5] ?_
      simp -implicitDefEqProofs only [↓b172_0, ↓b172_5, ↓b172_11, ↓b172_15, ↓b172_34, ↓b172_38, ↓b172_39, ↓b172_46, b172_0, b172_5, b172_11, b172_15, b172_34, b172_38, b172_39, b172_46, nLE3, layE8, hk, I32, ↓xb, xb, ps, lpad, lat, aok2, rd2, aaok, aav, alok, alen, aok, akk, csum, isLg, cmpI, clsE, Option.elim, eq_self, List.mem_cons, List.not_mem_nil, or_false, false_or, List.append_nil, List.nil_append, List.cons_append, List.append_eq, List.replicate, List.length_cons, List.length_nil, List.map_cons, List.map_nil, ↓reduceIte, reduceCtorEq, if_true, if_false, true_and, and_true, false_and, and_false, and_self, not_true_eq_false, not_false_eq_true, forall_const, true_implies, false_implies, implies_true, Nat.reduceAdd, Nat.reduceSub, Nat.reduceLT, Nat.reduceLeDiff, Nat.reduceEqDiff, Nat.reduceMul, Nat.reducePow, Nat.add_one_ne_zero, Nat.add_one_sub_one, Nat.add_zero, Nat.zero_add, Int.reduceLT, Int.reduceLE, Int.reduceNeg, Int.reduceAdd, Int.reduceSub, Int.reduceToNat, Int.reduceEq, Int.reduceMul, Int.reducePow, Int.cast_ofNat_Int, Int.toNat_natCast, ne_eq, Bool.false_eq_true, true_or, or_true, or_self, Nat.not_lt_zero, ite_e0, ite_e1, lc_lt, lc_ge, lc_gt, lc_le, lc_eq, Classical.not_not]
      with_reducible repeat' (first | (refine And.intro ?_ ?_) | intro _)
      all_goals try omega
      all_goals first | omega | exact q
set_option maxRecDepth 100000 in
set_option maxHeartbeats 1000000 in
theorem kx_told (hk : 10 ≤ k) (hs7 : s ≤ 7) {Cs : List Cl} (e42 : σ 21 42 0 0 = ((s : Nat) : Int)) (hC : Cs.length ≤ 12) (hj : ∀ j, j < Cs.length → σ 21 53 0 (12 * s + j) = (Cs.getD j d0).1)
    (q : Q (some (vi (if hdB Cs = true then 1 else 0))) σ) : CC G w w k (0, 0) 172 [vr 21 0 0, vi (Cs.length : Nat), vi 3] σ Q := by
  have g := kx_told_l (G := G) (w := w) (k := k) (by omega) hs7 e42 hC hj q (Cs.length + 1) 0 0 (Nat.zero_le _) (by omega) (Or.inl rfl) ⟨fun z => absurd z (by omega), fun z => by obtain ⟨i, hi, _⟩ := z; omega⟩
  refine CC_vb ok172 (by decide) (sm3_ok G w) 60 [5] (Nat.le_of_ble_eq_true rfl) ?_
  simp -implicitDefEqProofs only [↓b172_0, ↓b172_5, ↓b172_11, ↓b172_15, ↓b172_34, ↓b172_38, ↓b172_39, ↓b172_46, b172_0, b172_5, b172_11, b172_15, b172_34, b172_38, b172_39, b172_46, nLE3, layE8, hk, I32, ↓xb, xb, ps, lpad, lat, aok2, rd2, aaok, aav, alok, alen, aok, akk, csum, isLg, cmpI, clsE, Option.elim, eq_self, List.mem_cons, List.not_mem_nil, or_false, false_or, List.append_nil, List.nil_append, List.cons_append, List.append_eq, List.replicate, List.length_cons, List.length_nil, List.map_cons, List.map_nil, ↓reduceIte, reduceCtorEq, if_true, if_false, true_and, and_true, false_and, and_false, and_self, not_true_eq_false, not_false_eq_true, forall_const, true_implies, false_implies, implies_true, Nat.reduceAdd, Nat.reduceSub, Nat.reduceLT, Nat.reduceLeDiff, Nat.reduceEqDiff, Nat.reduceMul, Nat.reducePow, Nat.add_one_ne_zero, Nat.add_one_sub_one, Nat.add_zero, Nat.zero_add, Int.reduceLT, Int.reduceLE, Int.reduceNeg, Int.reduceAdd, Int.reduceSub, Int.reduceToNat, Int.reduceEq, Int.reduceMul, Int.reducePow, Int.cast_ofNat_Int, Int.toNat_natCast, ne_eq, Bool.false_eq_true, true_or, or_true, or_self, Nat.not_lt_zero, ite_e0, ite_e1, lc_lt, lc_ge, lc_gt, lc_le, lc_eq, Classical.not_not]
  with_reducible repeat' (first | (refine And.intro ?_ ?_) | intro _)
  all_goals try omega
  all_goals first | omega | exact g
end CLX

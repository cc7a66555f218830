/-! 97.factx: a fact begins (check) -/
theorem wd_iff {t : Nat → Int} {N b v : Nat} (ht : TR t) (hv : v < 23) : isW t b (le t N b) (wi v) ↔ tkB t N b = ((v : Nat) : Int) := by
  constructor
  · intro h
    exact (isW_tk hv h).2.2.1
  · intro h
    rcases tk_word ht hv h with z | z
    · exact z
    · omega
theorem pzV_bls {t : Nat → Int} {N p c : Nat} : pzV t N (bls t N p) c = pzV t N p c := by
  have e : ∀ p, pzV t N p c = (if tkB t N (bls t N p) = 31 then (if tvB t N (bls t N p) = -1 then .inl (1 + 8 * bls t N p + 1) else if 60 ≤ c then .inl (1 + 8 * bls t N p + 3) else .inr (teB t N (bls t N p), c + 1, [(0, tvB t N (bls t N p))])) else if tkB t N (bls t N p) < 15 then (if 60 ≤ c then .inl (1 + 8 * bls t N p + 3) else .inr (teB t N (bls t N p), c + 1, [(1, tkB t N (bls t N p))])) else .inl (1 + 8 * bls t N p)) := fun _ => rfl
  rw [e (bls t N p), e p, bls_bls]
theorem pzC_bls {t : Nat → Int} {N p c : Nat} : pzC t N (bls t N p) c = pzC t N p c := by
  unfold pzC pzS pzT
  rw [pzV_bls]
theorem tk_bls {t : Nat → Int} {N p q : Nat} (h : bls t N q = bls t N p) : tk t N q = tk t N p ∧ te t N q = te t N p := by
  constructor
  · show tkB t N (bls t N q) = tkB t N (bls t N p)
    rw [h]
  · show teB t N (bls t N q) = teB t N (bls t N p)
    rw [h]
section FCX
variable {G : Gl} {w : Wd} {k : Nat} {σ : Mem} {Q : Option AV → Mem → Prop} {t : Nat → Int} {N s : Nat}
theorem XTt.mv {p p' c d : Nat} {LL : List (Nat × Int)} {S : List Int} (X : XTt σ t N s p c LL d S) : XTt (up σ 21 40 0 0 ((p' : Nat) : Int)) t N s p' c LL d S :=
  X.of (same.refl.put rfl) (X.1.move (same.refl.put rfl) upp_eq (by rw [upp_nf (by decide)]; exact X.1.2.2.1))
theorem XTt.bl {p p' c d : Nat} {LL : List (Nat × Int)} {S : List Int} (X : XTt σ t N s p c LL d S) {σ' : Mem} (h : same S40 σ σ') (h0 : σ' 21 40 0 0 = ((p' : Nat) : Int)) : XTt σ' t N s p' c LL d S :=
  X.of (S401_q (S40_1 h)) (X.1.move (S40_1 h) h0 ((h 21 41 rfl 0 0).trans X.1.2.2.1))
set_option maxRecDepth 100000 in
set_option maxHeartbeats 1000000 in
theorem kx_fact (ht : TR t) (hk : 60 ≤ k) (hs7 : s ≤ 7) {p pp c d : Nat} {LL : List (Nat × Int)} {S : List Int} (X : XTt σ t N s pp c LL d S) (hpp : pp ≤ N) (hp : p ≤ N) (eb : bls t N pp = bls t N p) (hc : c ≤ 60) (hr : 3 * LL.length ≤ p + 4 * c) (hd : d ≤ 10) (hS : S.length ≤ 400)
    (qf : ∀ f : Int, ((tk t N p = 22 ∨ tk t N p = 191) ∧ 10 ≤ d ∧ f = 1 + 8 * bls t N p + 2) ∨ (tk t N p ≠ 22 ∧ tk t N p ≠ 191 ∧ pzC t N p c = .inl f) → ∀ rv σ', (rv = 0 ∨ rv = 1) → XFb σ' t N f 1000 → same SXT σ σ' → Q (some (vi rv)) σ')
    (qn : tk t N p = 22 → d < 10 → ∀ σ', XTt σ' t N s (te t N p) c LL (d + 1) (9 :: S) → same SXT σ σ' → Q (some (vi 0)) σ')
    (qb : tk t N p = 191 → d < 10 → ∀ σ', XTt σ' t N s (te t N p) c LL (d + 1) (12 :: S) → same SXT σ σ' → Q (some (vi 0)) σ')
    (qc : tk t N p ≠ 22 → tk t N p ≠ 191 → ∀ p1 c1 L1, pzC t N p c = .inr (p1, c1, L1) → p1 ≤ N → c1 ≤ 60 → ∀ σ', XTt σ' t N s (bls t N p1) c1 (LL ++ L1) d S → same SXT σ σ' → Q (some (vi 1)) σ') : CC G w w k (0, 0) 169 [vr 21 0 0] σ Q := by
  have t2 := X.1.1.2.1
  have bs : ∀ a : Int, band a 255 = a % 256 := fun a => band_255
  obtain ⟨b, hbb⟩ : ∃ b, bls t N p = b := ⟨_, rfl⟩
  have ek : tk t N p = tkB t N b := by rw [← hbb]; rfl
  have et : te t N p = teB t N b := by rw [← hbb]; rfl
  have ep : pzC t N b c = pzC t N p c := by rw [← hbb]; exact pzC_bls
  have pb := (bls_r (t := t) (N := N) (p := p)).1
  have bN := (bls_r (t := t) (N := N) (p := p)).2 hp
  rw [hbb] at pb bN qf
  refine CC_vb ok169 (by decide) (sm3_ok G w) 60 [] (Nat.le_of_ble_eq_true rfl) ?_
  simp -implicitDefEqProofs only [↓b169_0, ↓b169_4, ↓b169_11, ↓b169_14, ↓b169_20, ↓b169_32, ↓b169_36, ↓b169_41, ↓b169_47, ↓b169_59, ↓b169_63, b169_0, b169_4, b169_11, b169_14, b169_20, b169_32, b169_36, b169_41, b169_47, b169_59, b169_63, nLE3, layE8, hk, n3_155, n3_157, n3_167, k3_154, r154, n3_165, I32, ↓xb, xb, ps, lpad, lat, aok2, rd2, aaok, aav, alok, alen, aok, akk, csum, isLg, cmpI, clsE, Option.elim, eq_self, List.mem_cons, List.not_mem_nil, or_false, false_or, List.append_nil, List.nil_append, List.cons_append, List.append_eq, List.replicate, List.length_cons, List.length_nil, List.map_cons, List.map_nil, ↓reduceIte, reduceCtorEq, if_true, if_false, true_and, and_true, false_and, and_false, and_self, not_true_eq_false, not_false_eq_true, forall_const, true_implies, false_implies, implies_true, Nat.reduceAdd, Nat.reduceSub, Nat.reduceLT, Nat.reduceLeDiff, Nat.reduceEqDiff, Nat.reduceMul, Nat.reducePow, Nat.add_one_ne_zero, Nat.add_one_sub_one, Nat.add_zero, Nat.zero_add, Int.reduceLT, Int.reduceLE, Int.reduceNeg, Int.reduceAdd, Int.reduceSub, Int.reduceToNat, Int.reduceEq, Int.reduceMul, Int.reducePow, Int.cast_ofNat_Int, Int.toNat_natCast, ne_eq, Bool.false_eq_true, true_or, or_true, or_self, Nat.not_lt_zero, ite_e0, ite_e1, lc_lt, lc_ge, lc_gt, lc_le, lc_eq, Classical.not_not]
  with_reducible repeat' (first | (refine And.intro ?_ ?_) | intro _)
  all_goals try omega
  all_goals first | omega | skip
  refine kx_bl X.1.1 (by omega) hpp X.1.2.1 (fun σ1 h40 s1 => ?_)
  rw [eb, hbb] at h40
  have X1 := X.bl s1 h40
  have S1 := SXq_T (S401_q (S40_1 s1))
  have T1 := X1.1.1
  have t1 := T1.1
  simp -implicitDefEqProofs only [↓b169_0, ↓b169_4, ↓b169_11, ↓b169_14, ↓b169_20, ↓b169_32, ↓b169_36, ↓b169_41, ↓b169_47, ↓b169_59, ↓b169_63, b169_0, b169_4, b169_11, b169_14, b169_20, b169_32, b169_36, b169_41, b169_47, b169_59, b169_63, nLE3, layE8, hk, n3_155, n3_157, n3_167, k3_154, r154, n3_165, I32, ↓xb, xb, ps, lpad, lat, aok2, rd2, aaok, aav, alok, alen, aok, akk, csum, isLg, cmpI, clsE, Option.elim, eq_self, List.mem_cons, List.not_mem_nil, or_false, false_or, List.append_nil, List.nil_append, List.cons_append, List.append_eq, List.replicate, List.length_cons, List.length_nil, List.map_cons, List.map_nil, ↓reduceIte, reduceCtorEq, if_true, if_false, true_and, and_true, false_and, and_false, and_self, not_true_eq_false, not_false_eq_true, forall_const, true_implies, false_implies, implies_true, Nat.reduceAdd, Nat.reduceSub, Nat.reduceLT, Nat.reduceLeDiff, Nat.reduceEqDiff, Nat.reduceMul, Nat.reducePow, Nat.add_one_ne_zero, Nat.add_one_sub_one, Nat.add_zero, Nat.zero_add, Int.reduceLT, Int.reduceLE, Int.reduceNeg, Int.reduceAdd, Int.reduceSub, Int.reduceToNat, Int.reduceEq, Int.reduceMul, Int.reducePow, Int.cast_ofNat_Int, Int.toNat_natCast, ne_eq, Bool.false_eq_true, true_or, or_true, or_self, Nat.not_lt_zero, ite_e0, ite_e1, lc_lt, lc_ge, lc_gt, lc_le, lc_eq, Classical.not_not]
  with_reducible repeat' (first | (refine And.intro ?_ ?_) | intro _)
  all_goals try omega
  all_goals first | omega | skip
  have wd := wd_iff (N := N) (b := b) (v := 22) ht (by omega)
  refine kx_stands (i := 21) T1 (by omega) (by omega) bN h40 (fun y => ?_) (fun y => ?_)
  · have k22 : tk t N p = 22 := ek.trans (wd.mp y)
    have z := isW_tk (v := 22) (by omega) y
    have y1 := y.1
    have e3 : te t N p = b + 3 := by
      rw [et, z.2.2.2]
      have : strL.getD 21 0 = 3 := by decide
      omega
    simp -implicitDefEqProofs only [↓b169_0, ↓b169_4, ↓b169_11, ↓b169_14, ↓b169_20, ↓b169_32, ↓b169_36, ↓b169_41, ↓b169_47, ↓b169_59, ↓b169_63, b169_0, b169_4, b169_11, b169_14, b169_20, b169_32, b169_36, b169_41, b169_47, b169_59, b169_63, nLE3, layE8, hk, n3_155, n3_157, n3_167, k3_154, r154, n3_165, I32, ↓xb, xb, ps, lpad, lat, aok2, rd2, aaok, aav, alok, alen, aok, akk, csum, isLg, cmpI, clsE, Option.elim, eq_self, List.mem_cons, List.not_mem_nil, or_false, false_or, List.append_nil, List.nil_append, List.cons_append, List.append_eq, List.replicate, List.length_cons, List.length_nil, List.map_cons, List.map_nil, ↓reduceIte, reduceCtorEq, if_true, if_false, true_and, and_true, false_and, and_false, and_self, not_true_eq_false, not_false_eq_true, forall_const, true_implies, false_implies, implies_true, Nat.reduceAdd, Nat.reduceSub, Nat.reduceLT, Nat.reduceLeDiff, Nat.reduceEqDiff, Nat.reduceMul, Nat.reducePow, Nat.add_one_ne_zero, Nat.add_one_sub_one, Nat.add_zero, Nat.zero_add, Int.reduceLT, Int.reduceLE, Int.reduceNeg, Int.reduceAdd, Int.reduceSub, Int.reduceToNat, Int.reduceEq, Int.reduceMul, Int.reducePow, Int.cast_ofNat_Int, Int.toNat_natCast, ne_eq, Bool.false_eq_true, true_or, or_true, or_self, Nat.not_lt_zero, ite_e0, ite_e1, lc_lt, lc_ge, lc_gt, lc_le, lc_eq, Classical.not_not]
    with_reducible repeat' (first | (refine And.intro ?_ ?_) | intro _)
    all_goals try omega
    all_goals first | omega | skip
    refine kx_opens (x := 9) (by omega) X1 bN hc hd hS (by omega) (fun z _ _ _ => absurd z (by omega)) (fun _ hd2 σ2 X2 s2 => ?_) (fun _ hd2 σ2 F2 g40 s2 => ?_)
    · have g40 := X2.1.2.1
      have r := qn k22 hd2 _ (by rw [e3]; exact X2.mv (p' := b + 3)) ((S1.trans s2).trans (same.refl.put rfl))
      rw [show (((b + 3 : Nat) : Int)) = (b : Int) + 3 by omega] at r
      simp -implicitDefEqProofs only [↓b169_0, ↓b169_4, ↓b169_11, ↓b169_14, ↓b169_20, ↓b169_32, ↓b169_36, ↓b169_41, ↓b169_47, ↓b169_59, ↓b169_63, b169_0, b169_4, b169_11, b169_14, b169_20, b169_32, b169_36, b169_41, b169_47, b169_59, b169_63, nLE3, layE8, g40, n3_155, n3_157, n3_167, k3_154, r154, n3_165, I32, ↓xb, xb, ps, lpad, lat, aok2, rd2, aaok, aav, alok, alen, aok, akk, csum, isLg, cmpI, clsE, Option.elim, eq_self, List.mem_cons, List.not_mem_nil, or_false, false_or, List.append_nil, List.nil_append, List.cons_append, List.append_eq, List.replicate, List.length_cons, List.length_nil, List.map_cons, List.map_nil, ↓reduceIte, reduceCtorEq, if_true, if_false, true_and, and_true, false_and, and_false, and_self, not_true_eq_false, not_false_eq_true, forall_const, true_implies, false_implies, implies_true, Nat.reduceAdd, Nat.reduceSub, Nat.reduceLT, Nat.reduceLeDiff, Nat.reduceEqDiff, Nat.reduceMul, Nat.reducePow, Nat.add_one_ne_zero, Nat.add_one_sub_one, Nat.add_zero, Nat.zero_add, Int.reduceLT, Int.reduceLE, Int.reduceNeg, Int.reduceAdd, Int.reduceSub, Int.reduceToNat, Int.reduceEq, Int.reduceMul, Int.reducePow, Int.cast_ofNat_Int, Int.toNat_natCast, ne_eq, Bool.false_eq_true, true_or, or_true, or_self, Nat.not_lt_zero, ite_e0, ite_e1, lc_lt, lc_ge, lc_gt, lc_le, lc_eq, Classical.not_not]
      with_reducible repeat' (first | (refine And.intro ?_ ?_) | intro _)
      all_goals try omega
      all_goals first | omega | exact r
    · have r := qf _ (Or.inl ⟨Or.inl k22, hd2, rfl⟩) 0 _ (Or.inl rfl) (F2.p (v := (b : Int) + 3) (by omega)) ((S1.trans s2).trans (same.refl.put rfl))
      simp -implicitDefEqProofs only [↓b169_0, ↓b169_4, ↓b169_11, ↓b169_14, ↓b169_20, ↓b169_32, ↓b169_36, ↓b169_41, ↓b169_47, ↓b169_59, ↓b169_63, b169_0, b169_4, b169_11, b169_14, b169_20, b169_32, b169_36, b169_41, b169_47, b169_59, b169_63, nLE3, layE8, g40, n3_155, n3_157, n3_167, k3_154, r154, n3_165, I32, ↓xb, xb, ps, lpad, lat, aok2, rd2, aaok, aav, alok, alen, aok, akk, csum, isLg, cmpI, clsE, Option.elim, eq_self, List.mem_cons, List.not_mem_nil, or_false, false_or, List.append_nil, List.nil_append, List.cons_append, List.append_eq, List.replicate, List.length_cons, List.length_nil, List.map_cons, List.map_nil, ↓reduceIte, reduceCtorEq, if_true, if_false, true_and, and_true, false_and, and_false, and_self, not_true_eq_false, not_false_eq_true, forall_const, true_implies, false_implies, implies_true, Nat.reduceAdd, Nat.reduceSub, Nat.reduceLT, Nat.reduceLeDiff, Nat.reduceEqDiff, Nat.reduceMul, Nat.reducePow, Nat.add_one_ne_zero, Nat.add_one_sub_one, Nat.add_zero, Nat.zero_add, Int.reduceLT, Int.reduceLE, Int.reduceNeg, Int.reduceAdd, Int.reduceSub, Int.reduceToNat, Int.reduceEq, Int.reduceMul, Int.reducePow, Int.cast_ofNat_Int, Int.toNat_natCast, ne_eq, Bool.false_eq_true, true_or, or_true, or_self, Nat.not_lt_zero, ite_e0, ite_e1, lc_lt, lc_ge, lc_gt, lc_le, lc_eq, Classical.not_not]
      with_reducible repeat' (first | (refine And.intro ?_ ?_) | intro _)
      all_goals try omega
      all_goals first | omega | exact r
  · have k22 : tk t N p ≠ 22 := fun z => y (wd.mpr (ek.symm.trans z))
    have sg := sgn_tk (N := N) (b := b) ht (cc := 91) (by omega)
    by_cases cb : b < N ∧ t b = 91
    · have k191 : tk t N p = 191 := ek.trans (sg.1.mpr cb)
      have e1 := et.trans (sg.2 cb)
      have lt : (b : Int) < (N : Int) := by omega
      have et1 : σ1 21 49 0 b % 256 = 91 := (T1.2.2 b cb.1).1.trans cb.2
      simp -implicitDefEqProofs only [↓b169_0, ↓b169_4, ↓b169_11, ↓b169_14, ↓b169_20, ↓b169_32, ↓b169_36, ↓b169_41, ↓b169_47, ↓b169_59, ↓b169_63, b169_0, b169_4, b169_11, b169_14, b169_20, b169_32, b169_36, b169_41, b169_47, b169_59, b169_63, nLE3, layE8, h40, t1, bs, lt, et1, n3_155, n3_157, n3_167, k3_154, r154, n3_165, I32, ↓xb, xb, ps, lpad, lat, aok2, rd2, aaok, aav, alok, alen, aok, akk, csum, isLg, cmpI, clsE, Option.elim, eq_self, List.mem_cons, List.not_mem_nil, or_false, false_or, List.append_nil, List.nil_append, List.cons_append, List.append_eq, List.replicate, List.length_cons, List.length_nil, List.map_cons, List.map_nil, ↓reduceIte, reduceCtorEq, if_true, if_false, true_and, and_true, false_and, and_false, and_self, not_true_eq_false, not_false_eq_true, forall_const, true_implies, false_implies, implies_true, Nat.reduceAdd, Nat.reduceSub, Nat.reduceLT, Nat.reduceLeDiff, Nat.reduceEqDiff, Nat.reduceMul, Nat.reducePow, Nat.add_one_ne_zero, Nat.add_one_sub_one, Nat.add_zero, Nat.zero_add, Int.reduceLT, Int.reduceLE, Int.reduceNeg, Int.reduceAdd, Int.reduceSub, Int.reduceToNat, Int.reduceEq, Int.reduceMul, Int.reducePow, Int.cast_ofNat_Int, Int.toNat_natCast, ne_eq, Bool.false_eq_true, true_or, or_true, or_self, Nat.not_lt_zero, ite_e0, ite_e1, lc_lt, lc_ge, lc_gt, lc_le, lc_eq, Classical.not_not]
      with_reducible repeat' (first | (refine And.intro ?_ ?_) | intro _)
      all_goals try omega
      all_goals first | omega | skip
      refine kx_opens (x := 12) (by omega) X1 bN hc hd hS (by omega) (fun z _ _ _ => absurd z (by omega)) (fun _ hd2 σ2 X2 s2 => ?_) (fun _ hd2 σ2 F2 g40 s2 => ?_)
      · have g40 := X2.1.2.1
        have r := qb k191 hd2 _ (by rw [e1]; exact X2.mv (p' := b + 1)) ((S1.trans s2).trans (same.refl.put rfl))
        rw [show (((b + 1 : Nat) : Int)) = (b : Int) + 1 by omega] at r
        simp -implicitDefEqProofs only [↓b169_0, ↓b169_4, ↓b169_11, ↓b169_14, ↓b169_20, ↓b169_32, ↓b169_36, ↓b169_41, ↓b169_47, ↓b169_59, ↓b169_63, b169_0, b169_4, b169_11, b169_14, b169_20, b169_32, b169_36, b169_41, b169_47, b169_59, b169_63, nLE3, layE8, g40, n3_155, n3_157, n3_167, k3_154, r154, n3_165, I32, ↓xb, xb, ps, lpad, lat, aok2, rd2, aaok, aav, alok, alen, aok, akk, csum, isLg, cmpI, clsE, Option.elim, eq_self, List.mem_cons, List.not_mem_nil, or_false, false_or, List.append_nil, List.nil_append, List.cons_append, List.append_eq, List.replicate, List.length_cons, List.length_nil, List.map_cons, List.map_nil, ↓reduceIte, reduceCtorEq, if_true, if_false, true_and, and_true, false_and, and_false, and_self, not_true_eq_false, not_false_eq_true, forall_const, true_implies, false_implies, implies_true, Nat.reduceAdd, Nat.reduceSub, Nat.reduceLT, Nat.reduceLeDiff, Nat.reduceEqDiff, Nat.reduceMul, Nat.reducePow, Nat.add_one_ne_zero, Nat.add_one_sub_one, Nat.add_zero, Nat.zero_add, Int.reduceLT, Int.reduceLE, Int.reduceNeg, Int.reduceAdd, Int.reduceSub, Int.reduceToNat, Int.reduceEq, Int.reduceMul, Int.reducePow, Int.cast_ofNat_Int, Int.toNat_natCast, ne_eq, Bool.false_eq_true, true_or, or_true, or_self, Nat.not_lt_zero, ite_e0, ite_e1, lc_lt, lc_ge, lc_gt, lc_le, lc_eq, Classical.not_not]
        with_reducible repeat' (first | (refine And.intro ?_ ?_) | intro _)
        all_goals try omega
        all_goals first | omega | exact r
      · have r := qf _ (Or.inl ⟨Or.inr k191, hd2, rfl⟩) 0 _ (Or.inl rfl) (F2.p (v := (b : Int) + 1) (by omega)) ((S1.trans s2).trans (same.refl.put rfl))
        simp -implicitDefEqProofs only [↓b169_0, ↓b169_4, ↓b169_11, ↓b169_14, ↓b169_20, ↓b169_32, ↓b169_36, ↓b169_41, ↓b169_47, ↓b169_59, ↓b169_63, b169_0, b169_4, b169_11, b169_14, b169_20, b169_32, b169_36, b169_41, b169_47, b169_59, b169_63, nLE3, layE8, g40, n3_155, n3_157, n3_167, k3_154, r154, n3_165, I32, ↓xb, xb, ps, lpad, lat, aok2, rd2, aaok, aav, alok, alen, aok, akk, csum, isLg, cmpI, clsE, Option.elim, eq_self, List.mem_cons, List.not_mem_nil, or_false, false_or, List.append_nil, List.nil_append, List.cons_append, List.append_eq, List.replicate, List.length_cons, List.length_nil, List.map_cons, List.map_nil, ↓reduceIte, reduceCtorEq, if_true, if_false, true_and, and_true, false_and, and_false, and_self, not_true_eq_false, not_false_eq_true, forall_const, true_implies, false_implies, implies_true, Nat.reduceAdd, Nat.reduceSub, Nat.reduceLT, Nat.reduceLeDiff, Nat.reduceEqDiff, Nat.reduceMul, Nat.reducePow, Nat.add_one_ne_zero, Nat.add_one_sub_one, Nat.add_zero, Nat.zero_add, Int.reduceLT, Int.reduceLE, Int.reduceNeg, Int.reduceAdd, Int.reduceSub, Int.reduceToNat, Int.reduceEq, Int.reduceMul, Int.reducePow, Int.cast_ofNat_Int, Int.toNat_natCast, ne_eq, Bool.false_eq_true, true_or, or_true, or_self, Nat.not_lt_zero, ite_e0, ite_e1, lc_lt, lc_ge, lc_gt, lc_le, lc_eq, Classical.not_not]
        with_reducible repeat' (first | (refine And.intro ?_ ?_) | intro _)
        all_goals try omega
        all_goals first | omega | exact r
    · have k191 : tk t N p ≠ 191 := fun z => cb (sg.1.mp (ek.symm.trans z))
      have fl : (if (b : Int) < (N : Int) then σ1 21 49 0 b % 256 else -1) ≠ 91 := fun z => by
        split at z
        · exact cb ⟨by omega, (T1.2.2 b (by omega)).1.symm.trans z⟩
        · omega
      simp -implicitDefEqProofs only [↓b169_0, ↓b169_4, ↓b169_11, ↓b169_14, ↓b169_20, ↓b169_32, ↓b169_36, ↓b169_41, ↓b169_47, ↓b169_59, ↓b169_63, b169_0, b169_4, b169_11, b169_14, b169_20, b169_32, b169_36, b169_41, b169_47, b169_59, b169_63, nLE3, layE8, h40, t1, bs, fl, n3_155, n3_157, n3_167, k3_154, r154, n3_165, I32, ↓xb, xb, ps, lpad, lat, aok2, rd2, aaok, aav, alok, alen, aok, akk, csum, isLg, cmpI, clsE, Option.elim, eq_self, List.mem_cons, List.not_mem_nil, or_false, false_or, List.append_nil, List.nil_append, List.cons_append, List.append_eq, List.replicate, List.length_cons, List.length_nil, List.map_cons, List.map_nil, ↓reduceIte, reduceCtorEq, if_true, if_false, true_and, and_true, false_and, and_false, and_self, not_true_eq_false, not_false_eq_true, forall_const, true_implies, false_implies, implies_true, Nat.reduceAdd, Nat.reduceSub, Nat.reduceLT, Nat.reduceLeDiff, Nat.reduceEqDiff, Nat.reduceMul, Nat.reducePow, Nat.add_one_ne_zero, Nat.add_one_sub_one, Nat.add_zero, Nat.zero_add, Int.reduceLT, Int.reduceLE, Int.reduceNeg, Int.reduceAdd, Int.reduceSub, Int.reduceToNat, Int.reduceEq, Int.reduceMul, Int.reducePow, Int.cast_ofNat_Int, Int.toNat_natCast, ne_eq, Bool.false_eq_true, true_or, or_true, or_self, Nat.not_lt_zero, ite_e0, ite_e1, lc_lt, lc_ge, lc_gt, lc_le, lc_eq, Classical.not_not]
      with_reducible repeat' (first | (refine And.intro ?_ ?_) | intro _)
      all_goals try omega
      all_goals first | omega | skip
      refine kx_cmp ht (by omega) hs7 X1.1 bN hc (by omega) (fun f ef σ2 F2 s2 => ?_) (fun p1 c1 L1 e h1 h2 h3 σ2 Y2 s2 => ?_)
      · have r := qf f (Or.inr ⟨k22, k191, ep ▸ ef⟩) 1 _ (Or.inr rfl) F2 (S1.trans (SXq_T s2))
        simp -implicitDefEqProofs only [↓b169_0, ↓b169_4, ↓b169_11, ↓b169_14, ↓b169_20, ↓b169_32, ↓b169_36, ↓b169_41, ↓b169_47, ↓b169_59, ↓b169_63, b169_0, b169_4, b169_11, b169_14, b169_20, b169_32, b169_36, b169_41, b169_47, b169_59, b169_63, nLE3, layE8, hk, n3_155, n3_157, n3_167, k3_154, r154, n3_165, I32, ↓xb, xb, ps, lpad, lat, aok2, rd2, aaok, aav, alok, alen, aok, akk, csum, isLg, cmpI, clsE, Option.elim, eq_self, List.mem_cons, List.not_mem_nil, or_false, false_or, List.append_nil, List.nil_append, List.cons_append, List.append_eq, List.replicate, List.length_cons, List.length_nil, List.map_cons, List.map_nil, ↓reduceIte, reduceCtorEq, if_true, if_false, true_and, and_true, false_and, and_false, and_self, not_true_eq_false, not_false_eq_true, forall_const, true_implies, false_implies, implies_true, Nat.reduceAdd, Nat.reduceSub, Nat.reduceLT, Nat.reduceLeDiff, Nat.reduceEqDiff, Nat.reduceMul, Nat.reducePow, Nat.add_one_ne_zero, Nat.add_one_sub_one, Nat.add_zero, Nat.zero_add, Int.reduceLT, Int.reduceLE, Int.reduceNeg, Int.reduceAdd, Int.reduceSub, Int.reduceToNat, Int.reduceEq, Int.reduceMul, Int.reducePow, Int.cast_ofNat_Int, Int.toNat_natCast, ne_eq, Bool.false_eq_true, true_or, or_true, or_self, Nat.not_lt_zero, ite_e0, ite_e1, lc_lt, lc_ge, lc_gt, lc_le, lc_eq, Classical.not_not]
        with_reducible repeat' (first | (refine And.intro ?_ ?_) | intro _)
        all_goals try omega
        all_goals first | omega | exact r
      · have r := qc k22 k191 p1 c1 L1 (ep ▸ e) h1 h2 _ (X1.of s2 Y2) (S1.trans (SXq_T s2))
        simp -implicitDefEqProofs only [↓b169_0, ↓b169_4, ↓b169_11, ↓b169_14, ↓b169_20, ↓b169_32, ↓b169_36, ↓b169_41, ↓b169_47, ↓b169_59, ↓b169_63, b169_0, b169_4, b169_11, b169_14, b169_20, b169_32, b169_36, b169_41, b169_47, b169_59, b169_63, nLE3, layE8, hk, n3_155, n3_157, n3_167, k3_154, r154, n3_165, I32, ↓xb, xb, ps, lpad, lat, aok2, rd2, aaok, aav, alok, alen, aok, akk, csum, isLg, cmpI, clsE, Option.elim, eq_self, List.mem_cons, List.not_mem_nil, or_false, false_or, List.append_nil, List.nil_append, List.cons_append, List.append_eq, List.replicate, List.length_cons, List.length_nil, List.map_cons, List.map_nil, ↓reduceIte, reduceCtorEq, if_true, if_false, true_and, and_true, false_and, and_false, and_self, not_true_eq_false, not_false_eq_true, forall_const, true_implies, false_implies, implies_true, Nat.reduceAdd, Nat.reduceSub, Nat.reduceLT, Nat.reduceLeDiff, Nat.reduceEqDiff, Nat.reduceMul, Nat.reducePow, Nat.add_one_ne_zero, Nat.add_one_sub_one, Nat.add_zero, Nat.zero_add, Int.reduceLT, Int.reduceLE, Int.reduceNeg, Int.reduceAdd, Int.reduceSub, Int.reduceToNat, Int.reduceEq, Int.reduceMul, Int.reducePow, Int.cast_ofNat_Int, Int.toNat_natCast, ne_eq, Bool.false_eq_true, true_or, or_true, or_self, Nat.not_lt_zero, ite_e0, ite_e1, lc_lt, lc_ge, lc_gt, lc_le, lc_eq, Classical.not_not]
        with_reducible repeat' (first | (refine And.intro ?_ ?_) | intro _)
        all_goals try omega
        all_goals first | omega | exact r
end FCX

/-! 88.sumx: a term, a sum (check) -/
section SUX
variable {G : Gl} {w : Wd} {k : Nat} {σ : Mem} {Q : Option AV → Mem → Prop} {t : Nat → Int} {N s : Nat}
set_option maxRecDepth 100000 in
set_option maxHeartbeats 1000000 in
theorem kx_term (ht : TR t) (hk : 28 ≤ k) (hs7 : s ≤ 7) {p c : Nat} {LL : List (Nat × Int)} (X : XSt σ t N s p c LL) (hp : p ≤ N) (hc : c ≤ 60) (hr : 3 * LL.length ≤ p + 4 * c)
    (qf : ∀ f, pzT t N p c = .inl f → ∀ σ', XFt σ' t N f → same SXq σ σ' → Q none σ')
    (qk : ∀ p1 c1 L1, pzT t N p c = .inr (p1, c1, L1) → p1 ≤ N → c1 ≤ 60 → ∀ σ', XSt σ' t N s (bls t N p1) c1 (LL ++ L1) → same SXq σ σ' → Q none σ') : CC G w w k (0, 0) 163 [vr 21 0 0] σ Q := by
  have t2 := X.1.2.1
  refine CC_vb ok163 (by decide) (sm3_ok G w) 60 [8] (Nat.le_of_ble_eq_true rfl) ?_
  simp -implicitDefEqProofs only [↓b163_0, ↓b163_4, ↓b163_8, ↓b163_15, ↓b163_19, ↓b163_24, ↓b163_28, ↓b163_33, ↓b163_37, ↓b163_42, ↓b163_47, ↓b163_49, ↓b163_64, ↓b163_70, ↓b163_74, ↓b163_77, b163_0, b163_4, b163_8, b163_15, b163_19, b163_24, b163_28, b163_33, b163_37, b163_42, b163_47, b163_49, b163_64, b163_70, b163_74, b163_77, nLE3, layE8, hk, n3_162, n3_155, k3_154, r154, n3_159, I32, ↓xb, xb, ps, lpad, lat, aok2, rd2, aaok, aav, alok, alen, aok, akk, csum, isLg, cmpI, clsE, Option.elim, eq_self, List.mem_cons, List.not_mem_nil, or_false, false_or, List.append_nil, List.nil_append, List.cons_append, List.append_eq, List.replicate, List.length_cons, List.length_nil, List.map_cons, List.map_nil, ↓reduceIte, reduceCtorEq, if_true, if_false, true_and, and_true, false_and, and_false, and_self, not_true_eq_false, not_false_eq_true, forall_const, true_implies, false_implies, implies_true, Nat.reduceAdd, Nat.reduceSub, Nat.reduceLT, Nat.reduceLeDiff, Nat.reduceEqDiff, Nat.reduceMul, Nat.reducePow, Nat.add_one_ne_zero, Nat.add_one_sub_one, Nat.add_zero, Nat.zero_add, Int.reduceLT, Int.reduceLE, Int.reduceNeg, Int.reduceAdd, Int.reduceSub, Int.reduceToNat, Int.reduceEq, Int.reduceMul, Int.reducePow, Int.cast_ofNat_Int, Int.toNat_natCast, ne_eq, Bool.false_eq_true, true_or, or_true, or_self, Nat.not_lt_zero, ite_e0, ite_e1, lc_lt, lc_ge, lc_gt, lc_le, lc_eq, Classical.not_not]
  with_reducible repeat' (first | (refine And.intro ?_ ?_) | intro _)
  all_goals try omega
  all_goals first | omega | skip
  refine kx_value ht (by omega) hs7 X hp hc (by omega) (fun f ef σ1 F1 s1 => ?_) (fun p1 c1 L1 e1 σ1 X1 s1 => ?_)
  · have rr := qf f (bnd_inl ef)
    simp -implicitDefEqProofs only [↓b163_0, ↓b163_4, ↓b163_8, ↓b163_15, ↓b163_19, ↓b163_24, ↓b163_28, ↓b163_33, ↓b163_37, ↓b163_42, ↓b163_47, ↓b163_49, ↓b163_64, ↓b163_70, ↓b163_74, ↓b163_77, b163_0, b163_4, b163_8, b163_15, b163_19, b163_24, b163_28, b163_33, b163_37, b163_42, b163_47, b163_49, b163_64, b163_70, b163_74, b163_77, nLE3, layE8, hk, n3_162, n3_155, k3_154, r154, n3_159, I32, ↓xb, xb, ps, lpad, lat, aok2, rd2, aaok, aav, alok, alen, aok, akk, csum, isLg, cmpI, clsE, Option.elim, eq_self, List.mem_cons, List.not_mem_nil, or_false, false_or, List.append_nil, List.nil_append, List.cons_append, List.append_eq, List.replicate, List.length_cons, List.length_nil, List.map_cons, List.map_nil, ↓reduceIte, reduceCtorEq, if_true, if_false, true_and, and_true, false_and, and_false, and_self, not_true_eq_false, not_false_eq_true, forall_const, true_implies, false_implies, implies_true, Nat.reduceAdd, Nat.reduceSub, Nat.reduceLT, Nat.reduceLeDiff, Nat.reduceEqDiff, Nat.reduceMul, Nat.reducePow, Nat.add_one_ne_zero, Nat.add_one_sub_one, Nat.add_zero, Nat.zero_add, Int.reduceLT, Int.reduceLE, Int.reduceNeg, Int.reduceAdd, Int.reduceSub, Int.reduceToNat, Int.reduceEq, Int.reduceMul, Int.reducePow, Int.cast_ofNat_Int, Int.toNat_natCast, ne_eq, Bool.false_eq_true, true_or, or_true, or_self, Nat.not_lt_zero, ite_e0, ite_e1, lc_lt, lc_ge, lc_gt, lc_le, lc_eq, Classical.not_not]
    with_reducible repeat' (first | (refine And.intro ?_ ?_) | intro _)
    all_goals try omega
    all_goals first | omega | skip
    refine kx_blf (by omega) F1 (fun σ2 F2 s2 => ?_)
    have r := rr σ2 F2 (s1.trans s2)
    have f41 := F2.2.1
    have fne := F2.2.2.1
    simp -implicitDefEqProofs only [↓b163_0, ↓b163_4, ↓b163_8, ↓b163_15, ↓b163_19, ↓b163_24, ↓b163_28, ↓b163_33, ↓b163_37, ↓b163_42, ↓b163_47, ↓b163_49, ↓b163_64, ↓b163_70, ↓b163_74, ↓b163_77, b163_0, b163_4, b163_8, b163_15, b163_19, b163_24, b163_28, b163_33, b163_37, b163_42, b163_47, b163_49, b163_64, b163_70, b163_74, b163_77, nLE3, layE8, hk, n3_162, n3_155, k3_154, r154, n3_159, I32, ↓xb, xb, ps, lpad, lat, aok2, rd2, aaok, aav, alok, alen, aok, akk, csum, isLg, cmpI, clsE, Option.elim, eq_self, List.mem_cons, List.not_mem_nil, or_false, false_or, List.append_nil, List.nil_append, List.cons_append, List.append_eq, List.replicate, List.length_cons, List.length_nil, List.map_cons, List.map_nil, ↓reduceIte, reduceCtorEq, if_true, if_false, true_and, and_true, false_and, and_false, and_self, not_true_eq_false, not_false_eq_true, forall_const, true_implies, false_implies, implies_true, Nat.reduceAdd, Nat.reduceSub, Nat.reduceLT, Nat.reduceLeDiff, Nat.reduceEqDiff, Nat.reduceMul, Nat.reducePow, Nat.add_one_ne_zero, Nat.add_one_sub_one, Nat.add_zero, Nat.zero_add, Int.reduceLT, Int.reduceLE, Int.reduceNeg, Int.reduceAdd, Int.reduceSub, Int.reduceToNat, Int.reduceEq, Int.reduceMul, Int.reducePow, Int.cast_ofNat_Int, Int.toNat_natCast, ne_eq, Bool.false_eq_true, true_or, or_true, or_self, Nat.not_lt_zero, ite_e0, ite_e1, lc_lt, lc_ge, lc_gt, lc_le, lc_eq, Classical.not_not]
    with_reducible repeat' (first | (refine And.intro ?_ ?_) | intro _)
    all_goals try omega
    all_goals first | omega | skip
    refine TT_vb ok163 (sm3_ok G w) 60 [15] ?_
    simp -implicitDefEqProofs only [↓b163_0, ↓b163_4, ↓b163_8, ↓b163_15, ↓b163_19, ↓b163_24, ↓b163_28, ↓b163_33, ↓b163_37, ↓b163_42, ↓b163_47, ↓b163_49, ↓b163_64, ↓b163_70, ↓b163_74, ↓b163_77, b163_0, b163_4, b163_8, b163_15, b163_19, b163_24, b163_28, b163_33, b163_37, b163_42, b163_47, b163_49, b163_64, b163_70, b163_74, b163_77, nLE3, layE8, f41, fne, n3_162, n3_155, k3_154, r154, n3_159, I32, ↓xb, xb, ps, lpad, lat, aok2, rd2, aaok, aav, alok, alen, aok, akk, csum, isLg, cmpI, clsE, Option.elim, eq_self, List.mem_cons, List.not_mem_nil, or_false, false_or, List.append_nil, List.nil_append, List.cons_append, List.append_eq, List.replicate, List.length_cons, List.length_nil, List.map_cons, List.map_nil, ↓reduceIte, reduceCtorEq, if_true, if_false, true_and, and_true, false_and, and_false, and_self, not_true_eq_false, not_false_eq_true, forall_const, true_implies, false_implies, implies_true, Nat.reduceAdd, Nat.reduceSub, Nat.reduceLT, Nat.reduceLeDiff, Nat.reduceEqDiff, Nat.reduceMul, Nat.reducePow, Nat.add_one_ne_zero, Nat.add_one_sub_one, Nat.add_zero, Nat.zero_add, Int.reduceLT, Int.reduceLE, Int.reduceNeg, Int.reduceAdd, Int.reduceSub, Int.reduceToNat, Int.reduceEq, Int.reduceMul, Int.reducePow, Int.cast_ofNat_Int, Int.toNat_natCast, ne_eq, Bool.false_eq_true, true_or, or_true, or_self, Nat.not_lt_zero, ite_e0, ite_e1, lc_lt, lc_ge, lc_gt, lc_le, lc_eq, Classical.not_not]
    with_reducible repeat' (first | (refine And.intro ?_ ?_) | intro _)
    all_goals try omega
    all_goals first | omega | exact r
  · have ad := pzV_adv hp e1
    simp -implicitDefEqProofs only [↓b163_0, ↓b163_4, ↓b163_8, ↓b163_15, ↓b163_19, ↓b163_24, ↓b163_28, ↓b163_33, ↓b163_37, ↓b163_42, ↓b163_47, ↓b163_49, ↓b163_64, ↓b163_70, ↓b163_74, ↓b163_77, b163_0, b163_4, b163_8, b163_15, b163_19, b163_24, b163_28, b163_33, b163_37, b163_42, b163_47, b163_49, b163_64, b163_70, b163_74, b163_77, nLE3, layE8, hk, n3_162, n3_155, k3_154, r154, n3_159, I32, ↓xb, xb, ps, lpad, lat, aok2, rd2, aaok, aav, alok, alen, aok, akk, csum, isLg, cmpI, clsE, Option.elim, eq_self, List.mem_cons, List.not_mem_nil, or_false, false_or, List.append_nil, List.nil_append, List.cons_append, List.append_eq, List.replicate, List.length_cons, List.length_nil, List.map_cons, List.map_nil, ↓reduceIte, reduceCtorEq, if_true, if_false, true_and, and_true, false_and, and_false, and_self, not_true_eq_false, not_false_eq_true, forall_const, true_implies, false_implies, implies_true, Nat.reduceAdd, Nat.reduceSub, Nat.reduceLT, Nat.reduceLeDiff, Nat.reduceEqDiff, Nat.reduceMul, Nat.reducePow, Nat.add_one_ne_zero, Nat.add_one_sub_one, Nat.add_zero, Nat.zero_add, Int.reduceLT, Int.reduceLE, Int.reduceNeg, Int.reduceAdd, Int.reduceSub, Int.reduceToNat, Int.reduceEq, Int.reduceMul, Int.reducePow, Int.cast_ofNat_Int, Int.toNat_natCast, ne_eq, Bool.false_eq_true, true_or, or_true, or_self, Nat.not_lt_zero, ite_e0, ite_e1, lc_lt, lc_ge, lc_gt, lc_le, lc_eq, Classical.not_not]
    with_reducible repeat' (first | (refine And.intro ?_ ?_) | intro _)
    all_goals try omega
    all_goals first | omega | skip
    refine kx_bl X1.1 (by omega) ad.2.1 X1.2.1 (fun σ2 h40 s2 => ?_)
    have X2 := X1.move (S40_1 s2) h40 ((s2 21 41 rfl 0 0).trans X1.2.2.1)
    have er : pzT t N p c = pTe t N p1 c1 L1 := by unfold pzT; rw [e1]; rfl
    have l1 : (LL ++ L1).length = LL.length + 1 := by rw [List.length_append, ad.2.2.2.2]
    have g := fun l1 => kx_tm_l (G := G) (w := w) (k := k) (σ := σ) (Q := Q) (s := s) ht (by omega) hs7 qf (fun p3 c3 L3 e3 h1 h2 _ σ' X' s' => qk p3 c3 L3 e3 h1 h2 σ' X' s') (N + 1) p1 c1 L1 σ2 l1 ad.2.1 (by omega) ad.2.2.2.1 (by omega) X2 er.symm (s1.trans (S401_q (S40_1 s2)))
    simp -implicitDefEqProofs only [↓b163_0, ↓b163_4, ↓b163_8, ↓b163_15, ↓b163_19, ↓b163_24, ↓b163_28, ↓b163_33, ↓b163_37, ↓b163_42, ↓b163_47, ↓b163_49, ↓b163_64, ↓b163_70, ↓b163_74, ↓b163_77, b163_0, b163_4, b163_8, b163_15, b163_19, b163_24, b163_28, b163_33, b163_37, b163_42, b163_47, b163_49, b163_64, b163_70, b163_74, b163_77, nLE3, layE8, hk, n3_162, n3_155, k3_154, r154, n3_159, I32, ↓xb, xb, ps, lpad, lat, aok2, rd2, aaok, aav, alok, alen, aok, akk, csum, isLg, cmpI, clsE, Option.elim, eq_self, List.mem_cons, List.not_mem_nil, or_false, false_or, List.append_nil, List.nil_append, List.cons_append, List.append_eq, List.replicate, List.length_cons, List.length_nil, List.map_cons, List.map_nil, ↓reduceIte, reduceCtorEq, if_true, if_false, true_and, and_true, false_and, and_false, and_self, not_true_eq_false, not_false_eq_true, forall_const, true_implies, false_implies, implies_true, Nat.reduceAdd, Nat.reduceSub, Nat.reduceLT, Nat.reduceLeDiff, Nat.reduceEqDiff, Nat.reduceMul, Nat.reducePow, Nat.add_one_ne_zero, Nat.add_one_sub_one, Nat.add_zero, Nat.zero_add, Int.reduceLT, Int.reduceLE, Int.reduceNeg, Int.reduceAdd, Int.reduceSub, Int.reduceToNat, Int.reduceEq, Int.reduceMul, Int.reducePow, Int.cast_ofNat_Int, Int.toNat_natCast, ne_eq, Bool.false_eq_true, true_or, or_true, or_self, Nat.not_lt_zero, ite_e0, ite_e1, lc_lt, lc_ge, lc_gt, lc_le, lc_eq, Classical.not_not]
    with_reducible repeat' (first | (refine And.intro ?_ ?_) | intro _)
    all_goals try omega
    all_goals first | omega | exact g _
set_option maxRecDepth 100000 in
set_option maxHeartbeats 1000000 in
theorem kx_sm_l (ht : TR t) (hk : 32 ≤ k) (hs7 : s ≤ 7) {L0 : List (Nat × Int)} {RR : PR}
    (qf : ∀ f, RR = .inl f → ∀ σ', XFt σ' t N f → same SXq σ σ' → Q none σ')
    (qk : ∀ p1 c1 L1, RR = .inr (p1, c1, L1) → p1 ≤ N → c1 ≤ 60 → 3 * (L0 ++ L1).length + 2 ≤ p1 + 4 * c1 → ∀ σ', XSt σ' t N s (bls t N p1) c1 (L0 ++ L1) → same SXq σ σ' → Q none σ') :
    ∀ (m p c : Nat) (L : List (Nat × Int)) (σ' : Mem) (l1 : Option AV), p ≤ N → N < p + m → c ≤ 60 → 3 * (L0 ++ L).length + 2 ≤ p + 4 * c → XSt σ' t N s (bls t N p) c (L0 ++ L) → pSe t N p c L = RR → same SXq σ σ' →
      TT G w w w k (0, 0) 164 4 [some (vr 21 0 0), l1] [] σ' Q
  | 0, p, c, L, σ', l1, hp, h1, _, _, _, _, _ => by omega
  | m + 1, p, c, L, σ', l1, hp, h1, hc, hr, X, hR, hs => by
    have ih := kx_sm_l ht hk hs7 qf qk m
    have X' := X
    obtain ⟨T, e40, e41, e42, e44, e46, e48, e5⟩ := X
    have t1 := T.1
    have t2 := T.2.1
    have bb := (bls_r (t := t) (N := N) (p := p)).2 hp
    have bs : ∀ a : Int, band a 255 = a % 256 := fun a => band_255
    have s43 := sgn_tk (N := N) (b := bls t N p) ht (cc := 43) (by omega)
    have s45 := sgn_tk (N := N) (b := bls t N p) ht (cc := 45) (by omega)
    rw [pSe_eq hp] at hR
    by_cases q : tk t N p = 143 ∨ tk t N p = 145
    · rw [if_pos q] at hR
      have ta := te_adv (t := t) hp (by omega)
      have hb : bls t N p < N ∧ te t N p = bls t N p + 1 := by
        rcases q with q | q
        · have z := s43.1.mp q
          exact ⟨z.1, s43.2 z⟩
        · have z := s45.1.mp q
          exact ⟨z.1, s45.2 z⟩
      have lt : ((bls t N p : Nat) : Int) < (N : Int) := by omega
      have et0 := (T.2.2 (bls t N p) hb.1).1
      have ms : same S401 σ' (up σ' 21 40 0 0 (((bls t N p : Nat) : Int) + 1)) := same.refl.put rfl
      have X2 : XSt (up σ' 21 40 0 0 (((bls t N p : Nat) : Int) + 1)) t N s (te t N p) c (L0 ++ L) := X'.move ms (by rw [upp_eq, hb.2]; omega) (by rw [upp_nf (by decide)]; exact e41)
      have rest : ∀ (kd : Nat), ((tk t N p = 143 ∧ kd = 2) ∨ (tk t N p = 145 ∧ kd = 3)) → TT G w w w k (0, 0) 164 43 [some (vr 21 0 0), l1] [vi kd] σ' Q := fun kd hkd => by
        have ek : (if tk t N p = 143 then 2 else 3 : Nat) = kd := by rcases hkd with ⟨a, b⟩ | ⟨a, b⟩ <;> rw [a, b] <;> rfl
        rw [ek] at hR
        refine TT_vb ok164 (sm3_ok G w) 60 [4] ?_
        simp -implicitDefEqProofs only [↓b164_0, ↓b164_4, ↓b164_11, ↓b164_15, ↓b164_20, ↓b164_24, ↓b164_29, ↓b164_33, ↓b164_38, ↓b164_42, ↓b164_43, ↓b164_58, ↓b164_64, ↓b164_67, b164_0, b164_4, b164_11, b164_15, b164_20, b164_24, b164_29, b164_33, b164_38, b164_42, b164_43, b164_58, b164_64, b164_67, nLE3, layE8, e40, n3_163, k3_154, r154, n3_159, I32, ↓xb, xb, ps, lpad, lat, aok2, rd2, aaok, aav, alok, alen, aok, akk, csum, isLg, cmpI, clsE, Option.elim, eq_self, List.mem_cons, List.not_mem_nil, or_false, false_or, List.append_nil, List.nil_append, List.cons_append, List.append_eq, List.replicate, List.length_cons, List.length_nil, List.map_cons, List.map_nil, ↓reduceIte, reduceCtorEq, if_true, if_false, true_and, and_true, false_and, and_false, and_self, not_true_eq_false, not_false_eq_true, forall_const, true_implies, false_implies, implies_true, Nat.reduceAdd, Nat.reduceSub, Nat.reduceLT, Nat.reduceLeDiff, Nat.reduceEqDiff, Nat.reduceMul, Nat.reducePow, Nat.add_one_ne_zero, Nat.add_one_sub_one, Nat.add_zero, Nat.zero_add, Int.reduceLT, Int.reduceLE, Int.reduceNeg, Int.reduceAdd, Int.reduceSub, Int.reduceToNat, Int.reduceEq, Int.reduceMul, Int.reducePow, Int.cast_ofNat_Int, Int.toNat_natCast, ne_eq, Bool.false_eq_true, true_or, or_true, or_self, Nat.not_lt_zero, ite_e0, ite_e1, lc_lt, lc_ge, lc_gt, lc_le, lc_eq, Classical.not_not]
        with_reducible repeat' (first | (refine And.intro ?_ ?_) | intro _)
        all_goals try omega
        all_goals first | omega | skip
        refine kx_term ht (by omega) hs7 X2 ta.2 hc (by omega) (fun f ef σ3 F3 s3 => ?_) (fun p3 c3 L3 e3 h3 h4 σ3 X3 s3 => ?_)
        · have r := qf f (by rw [← hR]; exact bnd_inl ef) σ3 F3 ((hs.trans (S401_q ms)).trans s3)
          have f41 := F3.2.1
          have fne := F3.2.2.1
          simp -implicitDefEqProofs only [↓b164_0, ↓b164_4, ↓b164_11, ↓b164_15, ↓b164_20, ↓b164_24, ↓b164_29, ↓b164_33, ↓b164_38, ↓b164_42, ↓b164_43, ↓b164_58, ↓b164_64, ↓b164_67, b164_0, b164_4, b164_11, b164_15, b164_20, b164_24, b164_29, b164_33, b164_38, b164_42, b164_43, b164_58, b164_64, b164_67, nLE3, layE8, hk, n3_163, k3_154, r154, n3_159, I32, ↓xb, xb, ps, lpad, lat, aok2, rd2, aaok, aav, alok, alen, aok, akk, csum, isLg, cmpI, clsE, Option.elim, eq_self, List.mem_cons, List.not_mem_nil, or_false, false_or, List.append_nil, List.nil_append, List.cons_append, List.append_eq, List.replicate, List.length_cons, List.length_nil, List.map_cons, List.map_nil, ↓reduceIte, reduceCtorEq, if_true, if_false, true_and, and_true, false_and, and_false, and_self, not_true_eq_false, not_false_eq_true, forall_const, true_implies, false_implies, implies_true, Nat.reduceAdd, Nat.reduceSub, Nat.reduceLT, Nat.reduceLeDiff, Nat.reduceEqDiff, Nat.reduceMul, Nat.reducePow, Nat.add_one_ne_zero, Nat.add_one_sub_one, Nat.add_zero, Nat.zero_add, Int.reduceLT, Int.reduceLE, Int.reduceNeg, Int.reduceAdd, Int.reduceSub, Int.reduceToNat, Int.reduceEq, Int.reduceMul, Int.reducePow, Int.cast_ofNat_Int, Int.toNat_natCast, ne_eq, Bool.false_eq_true, true_or, or_true, or_self, Nat.not_lt_zero, ite_e0, ite_e1, lc_lt, lc_ge, lc_gt, lc_le, lc_eq, Classical.not_not]
          with_reducible repeat' (first | (refine And.intro ?_ ?_) | intro _)
          all_goals try omega
          all_goals first | omega | skip
          refine kx_entry1 (by omega) F3 ?_
          simp -implicitDefEqProofs only [↓b164_0, ↓b164_4, ↓b164_11, ↓b164_15, ↓b164_20, ↓b164_24, ↓b164_29, ↓b164_33, ↓b164_38, ↓b164_42, ↓b164_43, ↓b164_58, ↓b164_64, ↓b164_67, b164_0, b164_4, b164_11, b164_15, b164_20, b164_24, b164_29, b164_33, b164_38, b164_42, b164_43, b164_58, b164_64, b164_67, nLE3, layE8, hk, n3_163, k3_154, r154, n3_159, I32, ↓xb, xb, ps, lpad, lat, aok2, rd2, aaok, aav, alok, alen, aok, akk, csum, isLg, cmpI, clsE, Option.elim, eq_self, List.mem_cons, List.not_mem_nil, or_false, false_or, List.append_nil, List.nil_append, List.cons_append, List.append_eq, List.replicate, List.length_cons, List.length_nil, List.map_cons, List.map_nil, ↓reduceIte, reduceCtorEq, if_true, if_false, true_and, and_true, false_and, and_false, and_self, not_true_eq_false, not_false_eq_true, forall_const, true_implies, false_implies, implies_true, Nat.reduceAdd, Nat.reduceSub, Nat.reduceLT, Nat.reduceLeDiff, Nat.reduceEqDiff, Nat.reduceMul, Nat.reducePow, Nat.add_one_ne_zero, Nat.add_one_sub_one, Nat.add_zero, Nat.zero_add, Int.reduceLT, Int.reduceLE, Int.reduceNeg, Int.reduceAdd, Int.reduceSub, Int.reduceToNat, Int.reduceEq, Int.reduceMul, Int.reducePow, Int.cast_ofNat_Int, Int.toNat_natCast, ne_eq, Bool.false_eq_true, true_or, or_true, or_self, Nat.not_lt_zero, ite_e0, ite_e1, lc_lt, lc_ge, lc_gt, lc_le, lc_eq, Classical.not_not]
          with_reducible repeat' (first | (refine And.intro ?_ ?_) | intro _)
          all_goals try omega
          all_goals first | omega | skip
          refine TT_vb ok164 (sm3_ok G w) 60 [11] ?_
          simp -implicitDefEqProofs only [↓b164_0, ↓b164_4, ↓b164_11, ↓b164_15, ↓b164_20, ↓b164_24, ↓b164_29, ↓b164_33, ↓b164_38, ↓b164_42, ↓b164_43, ↓b164_58, ↓b164_64, ↓b164_67, b164_0, b164_4, b164_11, b164_15, b164_20, b164_24, b164_29, b164_33, b164_38, b164_42, b164_43, b164_58, b164_64, b164_67, nLE3, layE8, f41, fne, n3_163, k3_154, r154, n3_159, I32, ↓xb, xb, ps, lpad, lat, aok2, rd2, aaok, aav, alok, alen, aok, akk, csum, isLg, cmpI, clsE, Option.elim, eq_self, List.mem_cons, List.not_mem_nil, or_false, false_or, List.append_nil, List.nil_append, List.cons_append, List.append_eq, List.replicate, List.length_cons, List.length_nil, List.map_cons, List.map_nil, ↓reduceIte, reduceCtorEq, if_true, if_false, true_and, and_true, false_and, and_false, and_self, not_true_eq_false, not_false_eq_true, forall_const, true_implies, false_implies, implies_true, Nat.reduceAdd, Nat.reduceSub, Nat.reduceLT, Nat.reduceLeDiff, Nat.reduceEqDiff, Nat.reduceMul, Nat.reducePow, Nat.add_one_ne_zero, Nat.add_one_sub_one, Nat.add_zero, Nat.zero_add, Int.reduceLT, Int.reduceLE, Int.reduceNeg, Int.reduceAdd, Int.reduceSub, Int.reduceToNat, Int.reduceEq, Int.reduceMul, Int.reducePow, Int.cast_ofNat_Int, Int.toNat_natCast, ne_eq, Bool.false_eq_true, true_or, or_true, or_self, Nat.not_lt_zero, ite_e0, ite_e1, lc_lt, lc_ge, lc_gt, lc_le, lc_eq, Classical.not_not]
          with_reducible repeat' (first | (refine And.intro ?_ ?_) | intro _)
          all_goals try omega
          all_goals first | omega | exact r
        · have ad := pzT_adv ta.2 e3
          have rm := pzT_room ta.2 e3
          rw [e3] at hR
          have hR' : pSe t N p3 c3 (L ++ L3 ++ [(kd, 0)]) = RR := hR
          have l3 : (L0 ++ L ++ L3).length = (L0 ++ L).length + L3.length := List.length_append
          have ap : L0 ++ (L ++ L3 ++ [(kd, (0 : Int))]) = L0 ++ L ++ L3 ++ [(kd, 0)] := by simp [List.append_assoc]
          have bb3 := (bls_r (t := t) (N := N) (p := p3)).2 h3
          simp -implicitDefEqProofs only [↓b164_0, ↓b164_4, ↓b164_11, ↓b164_15, ↓b164_20, ↓b164_24, ↓b164_29, ↓b164_33, ↓b164_38, ↓b164_42, ↓b164_43, ↓b164_58, ↓b164_64, ↓b164_67, b164_0, b164_4, b164_11, b164_15, b164_20, b164_24, b164_29, b164_33, b164_38, b164_42, b164_43, b164_58, b164_64, b164_67, nLE3, layE8, hk, n3_163, k3_154, r154, n3_159, I32, ↓xb, xb, ps, lpad, lat, aok2, rd2, aaok, aav, alok, alen, aok, akk, csum, isLg, cmpI, clsE, Option.elim, eq_self, List.mem_cons, List.not_mem_nil, or_false, false_or, List.append_nil, List.nil_append, List.cons_append, List.append_eq, List.replicate, List.length_cons, List.length_nil, List.map_cons, List.map_nil, ↓reduceIte, reduceCtorEq, if_true, if_false, true_and, and_true, false_and, and_false, and_self, not_true_eq_false, not_false_eq_true, forall_const, true_implies, false_implies, implies_true, Nat.reduceAdd, Nat.reduceSub, Nat.reduceLT, Nat.reduceLeDiff, Nat.reduceEqDiff, Nat.reduceMul, Nat.reducePow, Nat.add_one_ne_zero, Nat.add_one_sub_one, Nat.add_zero, Nat.zero_add, Int.reduceLT, Int.reduceLE, Int.reduceNeg, Int.reduceAdd, Int.reduceSub, Int.reduceToNat, Int.reduceEq, Int.reduceMul, Int.reducePow, Int.cast_ofNat_Int, Int.toNat_natCast, ne_eq, Bool.false_eq_true, true_or, or_true, or_self, Nat.not_lt_zero, ite_e0, ite_e1, lc_lt, lc_ge, lc_gt, lc_le, lc_eq, Classical.not_not]
          with_reducible repeat' (first | (refine And.intro ?_ ?_) | intro _)
          all_goals try omega
          all_goals first | omega | skip
          refine kx_entry (a := kd) (by omega) hs7 X3 (by omega) (fun σ4 X4 s4 => ?_)
          have r := fun l1 => ih p3 c3 (L ++ L3 ++ [(kd, 0)]) σ4 l1 h3 (by omega) h4 (by
            rw [ap, List.length_append, l3]
            have : ([(kd, (0 : Int))] : List (Nat × Int)).length = 1 := rfl
            omega) (by rw [ap]; exact X4) hR' (((hs.trans (S401_q ms)).trans s3).trans s4)
          simp -implicitDefEqProofs only [↓b164_0, ↓b164_4, ↓b164_11, ↓b164_15, ↓b164_20, ↓b164_24, ↓b164_29, ↓b164_33, ↓b164_38, ↓b164_42, ↓b164_43, ↓b164_58, ↓b164_64, ↓b164_67, b164_0, b164_4, b164_11, b164_15, b164_20, b164_24, b164_29, b164_33, b164_38, b164_42, b164_43, b164_58, b164_64, b164_67, nLE3, layE8, hk, n3_163, k3_154, r154, n3_159, I32, ↓xb, xb, ps, lpad, lat, aok2, rd2, aaok, aav, alok, alen, aok, akk, csum, isLg, cmpI, clsE, Option.elim, eq_self, List.mem_cons, List.not_mem_nil, or_false, false_or, List.append_nil, List.nil_append, List.cons_append, List.append_eq, List.replicate, List.length_cons, List.length_nil, List.map_cons, List.map_nil, ↓reduceIte, reduceCtorEq, if_true, if_false, true_and, and_true, false_and, and_false, and_self, not_true_eq_false, not_false_eq_true, forall_const, true_implies, false_implies, implies_true, Nat.reduceAdd, Nat.reduceSub, Nat.reduceLT, Nat.reduceLeDiff, Nat.reduceEqDiff, Nat.reduceMul, Nat.reducePow, Nat.add_one_ne_zero, Nat.add_one_sub_one, Nat.add_zero, Nat.zero_add, Int.reduceLT, Int.reduceLE, Int.reduceNeg, Int.reduceAdd, Int.reduceSub, Int.reduceToNat, Int.reduceEq, Int.reduceMul, Int.reducePow, Int.cast_ofNat_Int, Int.toNat_natCast, ne_eq, Bool.false_eq_true, true_or, or_true, or_self, Nat.not_lt_zero, ite_e0, ite_e1, lc_lt, lc_ge, lc_gt, lc_le, lc_eq, Classical.not_not]
          with_reducible repeat' (first | (refine And.intro ?_ ?_) | intro _)
          all_goals try omega
          all_goals first | omega | exact r _
      rcases q with q | q
      · have z := s43.1.mp q
        have et : σ' 21 49 0 (bls t N p) % 256 = 43 := et0.trans z.2
        have r := rest 2 (Or.inl ⟨q, rfl⟩)
        refine TT_vb ok164 (sm3_ok G w) 60 [43] ?_
        simp -implicitDefEqProofs only [↓b164_0, ↓b164_4, ↓b164_11, ↓b164_15, ↓b164_20, ↓b164_24, ↓b164_29, ↓b164_33, ↓b164_38, ↓b164_42, ↓b164_43, ↓b164_58, ↓b164_64, ↓b164_67, b164_0, b164_4, b164_11, b164_15, b164_20, b164_24, b164_29, b164_33, b164_38, b164_42, b164_43, b164_58, b164_64, b164_67, nLE3, layE8, e40, e41, t1, bs, et, lt, n3_163, k3_154, r154, n3_159, I32, ↓xb, xb, ps, lpad, lat, aok2, rd2, aaok, aav, alok, alen, aok, akk, csum, isLg, cmpI, clsE, Option.elim, eq_self, List.mem_cons, List.not_mem_nil, or_false, false_or, List.append_nil, List.nil_append, List.cons_append, List.append_eq, List.replicate, List.length_cons, List.length_nil, List.map_cons, List.map_nil, ↓reduceIte, reduceCtorEq, if_true, if_false, true_and, and_true, false_and, and_false, and_self, not_true_eq_false, not_false_eq_true, forall_const, true_implies, false_implies, implies_true, Nat.reduceAdd, Nat.reduceSub, Nat.reduceLT, Nat.reduceLeDiff, Nat.reduceEqDiff, Nat.reduceMul, Nat.reducePow, Nat.add_one_ne_zero, Nat.add_one_sub_one, Nat.add_zero, Nat.zero_add, Int.reduceLT, Int.reduceLE, Int.reduceNeg, Int.reduceAdd, Int.reduceSub, Int.reduceToNat, Int.reduceEq, Int.reduceMul, Int.reducePow, Int.cast_ofNat_Int, Int.toNat_natCast, ne_eq, Bool.false_eq_true, true_or, or_true, or_self, Nat.not_lt_zero, ite_e0, ite_e1, lc_lt, lc_ge, lc_gt, lc_le, lc_eq, Classical.not_not]
        with_reducible repeat' (first | (refine And.intro ?_ ?_) | intro _)
        all_goals try omega
        all_goals first | omega | exact r
      · have z := s45.1.mp q
        have et : σ' 21 49 0 (bls t N p) % 256 = 45 := et0.trans z.2
        have r := rest 3 (Or.inr ⟨q, rfl⟩)
        refine TT_vb ok164 (sm3_ok G w) 60 [43] ?_
        simp -implicitDefEqProofs only [↓b164_0, ↓b164_4, ↓b164_11, ↓b164_15, ↓b164_20, ↓b164_24, ↓b164_29, ↓b164_33, ↓b164_38, ↓b164_42, ↓b164_43, ↓b164_58, ↓b164_64, ↓b164_67, b164_0, b164_4, b164_11, b164_15, b164_20, b164_24, b164_29, b164_33, b164_38, b164_42, b164_43, b164_58, b164_64, b164_67, nLE3, layE8, e40, e41, t1, bs, et, lt, n3_163, k3_154, r154, n3_159, I32, ↓xb, xb, ps, lpad, lat, aok2, rd2, aaok, aav, alok, alen, aok, akk, csum, isLg, cmpI, clsE, Option.elim, eq_self, List.mem_cons, List.not_mem_nil, or_false, false_or, List.append_nil, List.nil_append, List.cons_append, List.append_eq, List.replicate, List.length_cons, List.length_nil, List.map_cons, List.map_nil, ↓reduceIte, reduceCtorEq, if_true, if_false, true_and, and_true, false_and, and_false, and_self, not_true_eq_false, not_false_eq_true, forall_const, true_implies, false_implies, implies_true, Nat.reduceAdd, Nat.reduceSub, Nat.reduceLT, Nat.reduceLeDiff, Nat.reduceEqDiff, Nat.reduceMul, Nat.reducePow, Nat.add_one_ne_zero, Nat.add_one_sub_one, Nat.add_zero, Nat.zero_add, Int.reduceLT, Int.reduceLE, Int.reduceNeg, Int.reduceAdd, Int.reduceSub, Int.reduceToNat, Int.reduceEq, Int.reduceMul, Int.reducePow, Int.cast_ofNat_Int, Int.toNat_natCast, ne_eq, Bool.false_eq_true, true_or, or_true, or_self, Nat.not_lt_zero, ite_e0, ite_e1, lc_lt, lc_ge, lc_gt, lc_le, lc_eq, Classical.not_not]
        with_reducible repeat' (first | (refine And.intro ?_ ?_) | intro _)
        all_goals try omega
        all_goals first | omega | exact r
    · rw [if_neg q] at hR
      have r := qk p c L hR.symm hp hc hr σ' X' hs
      by_cases lt : bls t N p < N
      · have lt' : ((bls t N p : Nat) : Int) < (N : Int) := by omega
        have et : σ' 21 49 0 (bls t N p) % 256 = t (bls t N p) := (T.2.2 (bls t N p) lt).1
        have n1 : ¬ t (bls t N p) = 43 := fun z => q (Or.inl (s43.1.mpr ⟨lt, z⟩))
        have n2 : ¬ t (bls t N p) = 45 := fun z => q (Or.inr (s45.1.mpr ⟨lt, z⟩))
        refine TT_vb ok164 (sm3_ok G w) 60 [43] ?_
        simp -implicitDefEqProofs only [↓b164_0, ↓b164_4, ↓b164_11, ↓b164_15, ↓b164_20, ↓b164_24, ↓b164_29, ↓b164_33, ↓b164_38, ↓b164_42, ↓b164_43, ↓b164_58, ↓b164_64, ↓b164_67, b164_0, b164_4, b164_11, b164_15, b164_20, b164_24, b164_29, b164_33, b164_38, b164_42, b164_43, b164_58, b164_64, b164_67, nLE3, layE8, e40, e41, t1, bs, et, lt', n1, n2, n3_163, k3_154, r154, n3_159, I32, ↓xb, xb, ps, lpad, lat, aok2, rd2, aaok, aav, alok, alen, aok, akk, csum, isLg, cmpI, clsE, Option.elim, eq_self, List.mem_cons, List.not_mem_nil, or_false, false_or, List.append_nil, List.nil_append, List.cons_append, List.append_eq, List.replicate, List.length_cons, List.length_nil, List.map_cons, List.map_nil, ↓reduceIte, reduceCtorEq, if_true, if_false, true_and, and_true, false_and, and_false, and_self, not_true_eq_false, not_false_eq_true, forall_const, true_implies, false_implies, implies_true, Nat.reduceAdd, Nat.reduceSub, Nat.reduceLT, Nat.reduceLeDiff, Nat.reduceEqDiff, Nat.reduceMul, Nat.reducePow, Nat.add_one_ne_zero, Nat.add_one_sub_one, Nat.add_zero, Nat.zero_add, Int.reduceLT, Int.reduceLE, Int.reduceNeg, Int.reduceAdd, Int.reduceSub, Int.reduceToNat, Int.reduceEq, Int.reduceMul, Int.reducePow, Int.cast_ofNat_Int, Int.toNat_natCast, ne_eq, Bool.false_eq_true, true_or, or_true, or_self, Nat.not_lt_zero, ite_e0, ite_e1, lc_lt, lc_ge, lc_gt, lc_le, lc_eq, Classical.not_not]
        with_reducible repeat' (first | (refine And.intro ?_ ?_) | intro _)
        all_goals try omega
        all_goals first | omega | exact r
      · have lt' : ¬ ((bls t N p : Nat) : Int) < (N : Int) := by omega
        refine TT_vb ok164 (sm3_ok G w) 60 [43] ?_
        simp -implicitDefEqProofs only [↓b164_0, ↓b164_4, ↓b164_11, ↓b164_15, ↓b164_20, ↓b164_24, ↓b164_29, ↓b164_33, ↓b164_38, ↓b164_42, ↓b164_43, ↓b164_58, ↓b164_64, ↓b164_67, b164_0, b164_4, b164_11, b164_15, b164_20, b164_24, b164_29, b164_33, b164_38, b164_42, b164_43, b164_58, b164_64, b164_67, nLE3, layE8, e40, e41, t1, lt', n3_163, k3_154, r154, n3_159, I32, ↓xb, xb, ps, lpad, lat, aok2, rd2, aaok, aav, alok, alen, aok, akk, csum, isLg, cmpI, clsE, Option.elim, eq_self, List.mem_cons, List.not_mem_nil, or_false, false_or, List.append_nil, List.nil_append, List.cons_append, List.append_eq, List.replicate, List.length_cons, List.length_nil, List.map_cons, List.map_nil, ↓reduceIte, reduceCtorEq, if_true, if_false, true_and, and_true, false_and, and_false, and_self, not_true_eq_false, not_false_eq_true, forall_const, true_implies, false_implies, implies_true, Nat.reduceAdd, Nat.reduceSub, Nat.reduceLT, Nat.reduceLeDiff, Nat.reduceEqDiff, Nat.reduceMul, Nat.reducePow, Nat.add_one_ne_zero, Nat.add_one_sub_one, Nat.add_zero, Nat.zero_add, Int.reduceLT, Int.reduceLE, Int.reduceNeg, Int.reduceAdd, Int.reduceSub, Int.reduceToNat, Int.reduceEq, Int.reduceMul, Int.reducePow, Int.cast_ofNat_Int, Int.toNat_natCast, ne_eq, Bool.false_eq_true, true_or, or_true, or_self, Nat.not_lt_zero, ite_e0, ite_e1, lc_lt, lc_ge, lc_gt, lc_le, lc_eq, Classical.not_not]
        with_reducible repeat' (first | (refine And.intro ?_ ?_) | intro _)
        all_goals try omega
        all_goals first | omega | exact r
set_option maxRecDepth 100000 in
set_option maxHeartbeats 1000000 in
theorem kx_rs (ht : TR t) (hk : 36 ≤ k) (hs7 : s ≤ 7) {p c : Nat} {LL : List (Nat × Int)} (X : XSt σ t N s p c LL) (hp : p ≤ N) (hc : c ≤ 60) (hr : 3 * LL.length ≤ p + 4 * c)
    (qf : ∀ f, pzS t N p c = .inl f → ∀ σ', XFt σ' t N f → same SXq σ σ' → Q none σ')
    (qk : ∀ p1 c1 L1, pzS t N p c = .inr (p1, c1, L1) → p1 ≤ N → c1 ≤ 60 → 3 * (LL ++ L1).length + 2 ≤ p1 + 4 * c1 → ∀ σ', XSt σ' t N s (bls t N p1) c1 (LL ++ L1) → same SXq σ σ' → Q none σ') : CC G w w k (0, 0) 164 [vr 21 0 0] σ Q := by
  refine CC_vb ok164 (by decide) (sm3_ok G w) 60 [4] (Nat.le_of_ble_eq_true rfl) ?_
  simp -implicitDefEqProofs only [↓b164_0, ↓b164_4, ↓b164_11, ↓b164_15, ↓b164_20, ↓b164_24, ↓b164_29, ↓b164_33, ↓b164_38, ↓b164_42, ↓b164_43, ↓b164_58, ↓b164_64, ↓b164_67, b164_0, b164_4, b164_11, b164_15, b164_20, b164_24, b164_29, b164_33, b164_38, b164_42, b164_43, b164_58, b164_64, b164_67, nLE3, layE8, hk, n3_163, k3_154, r154, n3_159, I32, ↓xb, xb, ps, lpad, lat, aok2, rd2, aaok, aav, alok, alen, aok, akk, csum, isLg, cmpI, clsE, Option.elim, eq_self, List.mem_cons, List.not_mem_nil, or_false, false_or, List.append_nil, List.nil_append, List.cons_append, List.append_eq, List.replicate, List.length_cons, List.length_nil, List.map_cons, List.map_nil, ↓reduceIte, reduceCtorEq, if_true, if_false, true_and, and_true, false_and, and_false, and_self, not_true_eq_false, not_false_eq_true, forall_const, true_implies, false_implies, implies_true, Nat.reduceAdd, Nat.reduceSub, Nat.reduceLT, Nat.reduceLeDiff, Nat.reduceEqDiff, Nat.reduceMul, Nat.reducePow, Nat.add_one_ne_zero, Nat.add_one_sub_one, Nat.add_zero, Nat.zero_add, Int.reduceLT, Int.reduceLE, Int.reduceNeg, Int.reduceAdd, Int.reduceSub, Int.reduceToNat, Int.reduceEq, Int.reduceMul, Int.reducePow, Int.cast_ofNat_Int, Int.toNat_natCast, ne_eq, Bool.false_eq_true, true_or, or_true, or_self, Nat.not_lt_zero, ite_e0, ite_e1, lc_lt, lc_ge, lc_gt, lc_le, lc_eq, Classical.not_not]
  with_reducible repeat' (first | (refine And.intro ?_ ?_) | intro _)
  all_goals try omega
  all_goals first | omega | skip
  refine kx_term ht (by omega) hs7 X hp hc hr (fun f ef σ1 F1 s1 => ?_) (fun p1 c1 L1 e1 h1 h2 σ1 X1 s1 => ?_)
  · have r := qf f (bnd_inl ef) σ1 F1 s1
    have f41 := F1.2.1
    have fne := F1.2.2.1
    simp -implicitDefEqProofs only [↓b164_0, ↓b164_4, ↓b164_11, ↓b164_15, ↓b164_20, ↓b164_24, ↓b164_29, ↓b164_33, ↓b164_38, ↓b164_42, ↓b164_43, ↓b164_58, ↓b164_64, ↓b164_67, b164_0, b164_4, b164_11, b164_15, b164_20, b164_24, b164_29, b164_33, b164_38, b164_42, b164_43, b164_58, b164_64, b164_67, nLE3, layE8, hk, n3_163, k3_154, r154, n3_159, I32, ↓xb, xb, ps, lpad, lat, aok2, rd2, aaok, aav, alok, alen, aok, akk, csum, isLg, cmpI, clsE, Option.elim, eq_self, List.mem_cons, List.not_mem_nil, or_false, false_or, List.append_nil, List.nil_append, List.cons_append, List.append_eq, List.replicate, List.length_cons, List.length_nil, List.map_cons, List.map_nil, ↓reduceIte, reduceCtorEq, if_true, if_false, true_and, and_true, false_and, and_false, and_self, not_true_eq_false, not_false_eq_true, forall_const, true_implies, false_implies, implies_true, Nat.reduceAdd, Nat.reduceSub, Nat.reduceLT, Nat.reduceLeDiff, Nat.reduceEqDiff, Nat.reduceMul, Nat.reducePow, Nat.add_one_ne_zero, Nat.add_one_sub_one, Nat.add_zero, Nat.zero_add, Int.reduceLT, Int.reduceLE, Int.reduceNeg, Int.reduceAdd, Int.reduceSub, Int.reduceToNat, Int.reduceEq, Int.reduceMul, Int.reducePow, Int.cast_ofNat_Int, Int.toNat_natCast, ne_eq, Bool.false_eq_true, true_or, or_true, or_self, Nat.not_lt_zero, ite_e0, ite_e1, lc_lt, lc_ge, lc_gt, lc_le, lc_eq, Classical.not_not]
    with_reducible repeat' (first | (refine And.intro ?_ ?_) | intro _)
    all_goals try omega
    all_goals first | omega | skip
    refine TT_vb ok164 (sm3_ok G w) 60 [11] ?_
    simp -implicitDefEqProofs only [↓b164_0, ↓b164_4, ↓b164_11, ↓b164_15, ↓b164_20, ↓b164_24, ↓b164_29, ↓b164_33, ↓b164_38, ↓b164_42, ↓b164_43, ↓b164_58, ↓b164_64, ↓b164_67, b164_0, b164_4, b164_11, b164_15, b164_20, b164_24, b164_29, b164_33, b164_38, b164_42, b164_43, b164_58, b164_64, b164_67, nLE3, layE8, f41, fne, n3_163, k3_154, r154, n3_159, I32, ↓xb, xb, ps, lpad, lat, aok2, rd2, aaok, aav, alok, alen, aok, akk, csum, isLg, cmpI, clsE, Option.elim, eq_self, List.mem_cons, List.not_mem_nil, or_false, false_or, List.append_nil, List.nil_append, List.cons_append, List.append_eq, List.replicate, List.length_cons, List.length_nil, List.map_cons, List.map_nil, ↓reduceIte, reduceCtorEq, if_true, if_false, true_and, and_true, false_and, and_false, and_self, not_true_eq_false, not_false_eq_true, forall_const, true_implies, false_implies, implies_true, Nat.reduceAdd, Nat.reduceSub, Nat.reduceLT, Nat.reduceLeDiff, Nat.reduceEqDiff, Nat.reduceMul, Nat.reducePow, Nat.add_one_ne_zero, Nat.add_one_sub_one, Nat.add_zero, Nat.zero_add, Int.reduceLT, Int.reduceLE, Int.reduceNeg, Int.reduceAdd, Int.reduceSub, Int.reduceToNat, Int.reduceEq, Int.reduceMul, Int.reducePow, Int.cast_ofNat_Int, Int.toNat_natCast, ne_eq, Bool.false_eq_true, true_or, or_true, or_self, Nat.not_lt_zero, ite_e0, ite_e1, lc_lt, lc_ge, lc_gt, lc_le, lc_eq, Classical.not_not]
    with_reducible repeat' (first | (refine And.intro ?_ ?_) | intro _)
    all_goals try omega
    all_goals first | omega | exact r
  · have rm := pzT_room hp e1
    have er : pzS t N p c = pSe t N p1 c1 L1 := by unfold pzS; rw [e1]; rfl
    have l1 : (LL ++ L1).length = LL.length + L1.length := List.length_append
    have g := fun l1 => kx_sm_l (G := G) (w := w) (k := k) (σ := σ) (Q := Q) (s := s) ht (by omega) hs7 qf qk (N + 1) p1 c1 L1 σ1 l1 h1 (by omega) h2 (by omega) X1 er.symm s1
    simp -implicitDefEqProofs only [↓b164_0, ↓b164_4, ↓b164_11, ↓b164_15, ↓b164_20, ↓b164_24, ↓b164_29, ↓b164_33, ↓b164_38, ↓b164_42, ↓b164_43, ↓b164_58, ↓b164_64, ↓b164_67, b164_0, b164_4, b164_11, b164_15, b164_20, b164_24, b164_29, b164_33, b164_38, b164_42, b164_43, b164_58, b164_64, b164_67, nLE3, layE8, hk, n3_163, k3_154, r154, n3_159, I32, ↓xb, xb, ps, lpad, lat, aok2, rd2, aaok, aav, alok, alen, aok, akk, csum, isLg, cmpI, clsE, Option.elim, eq_self, List.mem_cons, List.not_mem_nil, or_false, false_or, List.append_nil, List.nil_append, List.cons_append, List.append_eq, List.replicate, List.length_cons, List.length_nil, List.map_cons, List.map_nil, ↓reduceIte, reduceCtorEq, if_true, if_false, true_and, and_true, false_and, and_false, and_self, not_true_eq_false, not_false_eq_true, forall_const, true_implies, false_implies, implies_true, Nat.reduceAdd, Nat.reduceSub, Nat.reduceLT, Nat.reduceLeDiff, Nat.reduceEqDiff, Nat.reduceMul, Nat.reducePow, Nat.add_one_ne_zero, Nat.add_one_sub_one, Nat.add_zero, Nat.zero_add, Int.reduceLT, Int.reduceLE, Int.reduceNeg, Int.reduceAdd, Int.reduceSub, Int.reduceToNat, Int.reduceEq, Int.reduceMul, Int.reducePow, Int.cast_ofNat_Int, Int.toNat_natCast, ne_eq, Bool.false_eq_true, true_or, or_true, or_self, Nat.not_lt_zero, ite_e0, ite_e1, lc_lt, lc_ge, lc_gt, lc_le, lc_eq, Classical.not_not]
    with_reducible repeat' (first | (refine And.intro ?_ ?_) | intro _)
    all_goals try omega
    all_goals first | omega | exact g _
end SUX

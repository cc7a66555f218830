/-! 87.terx: a term (check), its loop -/
section TRY
variable {G : Gl} {w : Wd} {k : Nat} {σ : Mem} {Q : Option AV → Mem → Prop} {t : Nat → Int} {N s : Nat}
theorem bnd_inl {f : Int} {r : PR} {g : Nat → Nat → List (Nat × Int) → PR} (h : r = .inl f) : bnd r g = .inl f := by rw [h]; rfl
set_option maxRecDepth 100000 in
set_option maxHeartbeats 1000000 in
theorem kx_tm_l (ht : TR t) (hk : 24 ≤ k) (hs7 : s ≤ 7) {L0 : List (Nat × Int)} {RR : PR}
    (qf : ∀ f, RR = .inl f → ∀ σ', XFt σ' t N f → same SXq σ σ' → Q none σ')
    (qk : ∀ p1 c1 L1, RR = .inr (p1, c1, L1) → p1 ≤ N → c1 ≤ 60 → 3 * (L0 ++ L1).length ≤ p1 + 4 * c1 → ∀ σ', XSt σ' t N s (bls t N p1) c1 (L0 ++ L1) → same SXq σ σ' → Q none σ') :
    ∀ (m p c : Nat) (L : List (Nat × Int)) (σ' : Mem) (l1 : Option AV), p ≤ N → N < p + m → c ≤ 60 → 3 * (L0 ++ L).length ≤ p + 4 * c → XSt σ' t N s (bls t N p) c (L0 ++ L) → pTe t N p c L = RR → same SXq σ σ' →
      TT G w w w k (0, 0) 163 8 [some (vr 21 0 0), l1] [] σ' Q
  | 0, p, c, L, σ', l1, hp, h1, _, _, _, _, _ => by omega
  | m + 1, p, c, L, σ', l1, hp, h1, hc, hr, X, hR, hs => by
    have ih := kx_tm_l ht hk hs7 qf qk m
    have X' := X
    obtain ⟨T, e40, e41, e42, e44, e46, e48, e5⟩ := X
    have t1 := T.1
    have t2 := T.2.1
    have bb := (bls_r (t := t) (N := N) (p := p)).2 hp
    have pb := (bls_r (t := t) (N := N) (p := p)).1
    have bs : ∀ a : Int, band a 255 = a % 256 := fun a => band_255
    have s42 := sgn_tk (N := N) (b := bls t N p) ht (cc := 42) (by omega)
    have s47 := sgn_tk (N := N) (b := bls t N p) ht (cc := 47) (by omega)
    rw [pTe_eq hp] at hR
    by_cases q : tk t N p = 142 ∨ tk t N p = 147
    · rw [if_pos q] at hR
      have ta := te_adv (t := t) hp (by omega)
      have hb : bls t N p < N ∧ te t N p = bls t N p + 1 := by
        rcases q with q | q
        · have z := s42.1.mp q
          exact ⟨z.1, s42.2 z⟩
        · have z := s47.1.mp q
          exact ⟨z.1, s47.2 z⟩
      have lt : ((bls t N p : Nat) : Int) < (N : Int) := by omega
      have et0 := (T.2.2 (bls t N p) hb.1).1
      have ms : same S401 σ' (up σ' 21 40 0 0 (((bls t N p : Nat) : Int) + 1)) := same.refl.put rfl
      have X2 : XSt (up σ' 21 40 0 0 (((bls t N p : Nat) : Int) + 1)) t N s (te t N p) c (L0 ++ L) := X'.move ms (by rw [upp_eq, hb.2]; omega) (by rw [upp_nf (by decide)]; exact e41)
      have rest : ∀ (kd : Nat), ((tk t N p = 142 ∧ kd = 13) ∨ (tk t N p = 147 ∧ kd = 14)) → TT G w w w k (0, 0) 163 49 [some (vr 21 0 0), l1] [vi kd] σ' Q := fun kd hkd => by
        have ek : (if tk t N p = 142 then 13 else 14 : Nat) = kd := by rcases hkd with ⟨a, b⟩ | ⟨a, b⟩ <;> rw [a, b] <;> rfl
        rw [ek] at hR
        refine TT_vb ok163 (sm3_ok G w) 60 [8] ?_
        simp -implicitDefEqProofs only [↓b163_0, ↓b163_4, ↓b163_8, ↓b163_15, ↓b163_19, ↓b163_24, ↓b163_28, ↓b163_33, ↓b163_37, ↓b163_42, ↓b163_47, ↓b163_49, ↓b163_64, ↓b163_70, ↓b163_74, ↓b163_77, b163_0, b163_4, b163_8, b163_15, b163_19, b163_24, b163_28, b163_33, b163_37, b163_42, b163_47, b163_49, b163_64, b163_70, b163_74, b163_77, nLE3, layE8, e40, n3_162, n3_155, k3_154, r154, n3_159, I32, ↓xb, xb, ps, lpad, lat, aok2, rd2, aaok, aav, alok, alen, aok, akk, csum, isLg, cmpI, clsE, Option.elim, eq_self, List.mem_cons, List.not_mem_nil, or_false, false_or, List.append_nil, List.nil_append, List.cons_append, List.append_eq, List.replicate, List.length_cons, List.length_nil, List.map_cons, List.map_nil, ↓reduceIte, reduceCtorEq, if_true, if_false, true_and, and_true, false_and, and_false, and_self, not_true_eq_false, not_false_eq_true, forall_const, true_implies, false_implies, implies_true, Nat.reduceAdd, Nat.reduceSub, Nat.reduceLT, Nat.reduceLeDiff, Nat.reduceEqDiff, Nat.reduceMul, Nat.reducePow, Nat.add_one_ne_zero, Nat.add_one_sub_one, Nat.add_zero, Nat.zero_add, Int.reduceLT, Int.reduceLE, Int.reduceNeg, Int.reduceAdd, Int.reduceSub, Int.reduceToNat, Int.reduceEq, Int.reduceMul, Int.reducePow, Int.cast_ofNat_Int, Int.toNat_natCast, ne_eq, Bool.false_eq_true, true_or, or_true, or_self, Nat.not_lt_zero, ite_e0, ite_e1, lc_lt, lc_ge, lc_gt, lc_le, lc_eq, Classical.not_not]
        with_reducible repeat' (first | (refine And.intro ?_ ?_) | intro _)
        all_goals try omega
        all_goals first | omega | skip
        refine kx_value ht (by omega) hs7 X2 ta.2 hc (by omega) (fun f ef σ3 F3 s3 => ?_) (fun p3 c3 L3 e3 σ3 X3 s3 => ?_)
        · have rr := qf f (by rw [← hR]; exact bnd_inl ef)
          simp -implicitDefEqProofs only [↓b163_0, ↓b163_4, ↓b163_8, ↓b163_15, ↓b163_19, ↓b163_24, ↓b163_28, ↓b163_33, ↓b163_37, ↓b163_42, ↓b163_47, ↓b163_49, ↓b163_64, ↓b163_70, ↓b163_74, ↓b163_77, b163_0, b163_4, b163_8, b163_15, b163_19, b163_24, b163_28, b163_33, b163_37, b163_42, b163_47, b163_49, b163_64, b163_70, b163_74, b163_77, nLE3, layE8, hk, n3_162, n3_155, k3_154, r154, n3_159, I32, ↓xb, xb, ps, lpad, lat, aok2, rd2, aaok, aav, alok, alen, aok, akk, csum, isLg, cmpI, clsE, Option.elim, eq_self, List.mem_cons, List.not_mem_nil, or_false, false_or, List.append_nil, List.nil_append, List.cons_append, List.append_eq, List.replicate, List.length_cons, List.length_nil, List.map_cons, List.map_nil, ↓reduceIte, reduceCtorEq, if_true, if_false, true_and, and_true, false_and, and_false, and_self, not_true_eq_false, not_false_eq_true, forall_const, true_implies, false_implies, implies_true, Nat.reduceAdd, Nat.reduceSub, Nat.reduceLT, Nat.reduceLeDiff, Nat.reduceEqDiff, Nat.reduceMul, Nat.reducePow, Nat.add_one_ne_zero, Nat.add_one_sub_one, Nat.add_zero, Nat.zero_add, Int.reduceLT, Int.reduceLE, Int.reduceNeg, Int.reduceAdd, Int.reduceSub, Int.reduceToNat, Int.reduceEq, Int.reduceMul, Int.reducePow, Int.cast_ofNat_Int, Int.toNat_natCast, ne_eq, Bool.false_eq_true, true_or, or_true, or_self, Nat.not_lt_zero, ite_e0, ite_e1, lc_lt, lc_ge, lc_gt, lc_le, lc_eq, Classical.not_not]
          with_reducible repeat' (first | (refine And.intro ?_ ?_) | intro _)
          all_goals try omega
          all_goals first | omega | skip
          refine kx_entry1 (by omega) F3 ?_
          simp -implicitDefEqProofs only [↓b163_0, ↓b163_4, ↓b163_8, ↓b163_15, ↓b163_19, ↓b163_24, ↓b163_28, ↓b163_33, ↓b163_37, ↓b163_42, ↓b163_47, ↓b163_49, ↓b163_64, ↓b163_70, ↓b163_74, ↓b163_77, b163_0, b163_4, b163_8, b163_15, b163_19, b163_24, b163_28, b163_33, b163_37, b163_42, b163_47, b163_49, b163_64, b163_70, b163_74, b163_77, nLE3, layE8, hk, n3_162, n3_155, k3_154, r154, n3_159, I32, ↓xb, xb, ps, lpad, lat, aok2, rd2, aaok, aav, alok, alen, aok, akk, csum, isLg, cmpI, clsE, Option.elim, eq_self, List.mem_cons, List.not_mem_nil, or_false, false_or, List.append_nil, List.nil_append, List.cons_append, List.append_eq, List.replicate, List.length_cons, List.length_nil, List.map_cons, List.map_nil, ↓reduceIte, reduceCtorEq, if_true, if_false, true_and, and_true, false_and, and_false, and_self, not_true_eq_false, not_false_eq_true, forall_const, true_implies, false_implies, implies_true, Nat.reduceAdd, Nat.reduceSub, Nat.reduceLT, Nat.reduceLeDiff, Nat.reduceEqDiff, Nat.reduceMul, Nat.reducePow, Nat.add_one_ne_zero, Nat.add_one_sub_one, Nat.add_zero, Nat.zero_add, Int.reduceLT, Int.reduceLE, Int.reduceNeg, Int.reduceAdd, Int.reduceSub, Int.reduceToNat, Int.reduceEq, Int.reduceMul, Int.reducePow, Int.cast_ofNat_Int, Int.toNat_natCast, ne_eq, Bool.false_eq_true, true_or, or_true, or_self, Nat.not_lt_zero, ite_e0, ite_e1, lc_lt, lc_ge, lc_gt, lc_le, lc_eq, Classical.not_not]
          with_reducible repeat' (first | (refine And.intro ?_ ?_) | intro _)
          all_goals try omega
          all_goals first | omega | skip
          refine kx_blf (by omega) F3 (fun σ4 F4 s4 => ?_)
          have r := rr σ4 F4 (((hs.trans (S401_q ms)).trans s3).trans s4)
          have f41 := F4.2.1
          have fne := F4.2.2.1
          simp -implicitDefEqProofs only [↓b163_0, ↓b163_4, ↓b163_8, ↓b163_15, ↓b163_19, ↓b163_24, ↓b163_28, ↓b163_33, ↓b163_37, ↓b163_42, ↓b163_47, ↓b163_49, ↓b163_64, ↓b163_70, ↓b163_74, ↓b163_77, b163_0, b163_4, b163_8, b163_15, b163_19, b163_24, b163_28, b163_33, b163_37, b163_42, b163_47, b163_49, b163_64, b163_70, b163_74, b163_77, nLE3, layE8, hk, n3_162, n3_155, k3_154, r154, n3_159, I32, ↓xb, xb, ps, lpad, lat, aok2, rd2, aaok, aav, alok, alen, aok, akk, csum, isLg, cmpI, clsE, Option.elim, eq_self, List.mem_cons, List.not_mem_nil, or_false, false_or, List.append_nil, List.nil_append, List.cons_append, List.append_eq, List.replicate, List.length_cons, List.length_nil, List.map_cons, List.map_nil, ↓reduceIte, reduceCtorEq, if_true, if_false, true_and, and_true, false_and, and_false, and_self, not_true_eq_false, not_false_eq_true, forall_const, true_implies, false_implies, implies_true, Nat.reduceAdd, Nat.reduceSub, Nat.reduceLT, Nat.reduceLeDiff, Nat.reduceEqDiff, Nat.reduceMul, Nat.reducePow, Nat.add_one_ne_zero, Nat.add_one_sub_one, Nat.add_zero, Nat.zero_add, Int.reduceLT, Int.reduceLE, Int.reduceNeg, Int.reduceAdd, Int.reduceSub, Int.reduceToNat, Int.reduceEq, Int.reduceMul, Int.reducePow, Int.cast_ofNat_Int, Int.toNat_natCast, ne_eq, Bool.false_eq_true, true_or, or_true, or_self, Nat.not_lt_zero, ite_e0, ite_e1, lc_lt, lc_ge, lc_gt, lc_le, lc_eq, Classical.not_not]
          with_reducible repeat' (first | (refine And.intro ?_ ?_) | intro _)
          all_goals try omega
          all_goals first | omega | skip
          refine TT_vb ok163 (sm3_ok G w) 60 [15] ?_
          simp -implicitDefEqProofs only [↓b163_0, ↓b163_4, ↓b163_8, ↓b163_15, ↓b163_19, ↓b163_24, ↓b163_28, ↓b163_33, ↓b163_37, ↓b163_42, ↓b163_47, ↓b163_49, ↓b163_64, ↓b163_70, ↓b163_74, ↓b163_77, b163_0, b163_4, b163_8, b163_15, b163_19, b163_24, b163_28, b163_33, b163_37, b163_42, b163_47, b163_49, b163_64, b163_70, b163_74, b163_77, nLE3, layE8, f41, fne, n3_162, n3_155, k3_154, r154, n3_159, I32, ↓xb, xb, ps, lpad, lat, aok2, rd2, aaok, aav, alok, alen, aok, akk, csum, isLg, cmpI, clsE, Option.elim, eq_self, List.mem_cons, List.not_mem_nil, or_false, false_or, List.append_nil, List.nil_append, List.cons_append, List.append_eq, List.replicate, List.length_cons, List.length_nil, List.map_cons, List.map_nil, ↓reduceIte, reduceCtorEq, if_true, if_false, true_and, and_true, false_and, and_false, and_self, not_true_eq_false, not_false_eq_true, forall_const, true_implies, false_implies, implies_true, Nat.reduceAdd, Nat.reduceSub, Nat.reduceLT, Nat.reduceLeDiff, Nat.reduceEqDiff, Nat.reduceMul, Nat.reducePow, Nat.add_one_ne_zero, Nat.add_one_sub_one, Nat.add_zero, Nat.zero_add, Int.reduceLT, Int.reduceLE, Int.reduceNeg, Int.reduceAdd, Int.reduceSub, Int.reduceToNat, Int.reduceEq, Int.reduceMul, Int.reducePow, Int.cast_ofNat_Int, Int.toNat_natCast, ne_eq, Bool.false_eq_true, true_or, or_true, or_self, Nat.not_lt_zero, ite_e0, ite_e1, lc_lt, lc_ge, lc_gt, lc_le, lc_eq, Classical.not_not]
          with_reducible repeat' (first | (refine And.intro ?_ ?_) | intro _)
          all_goals try omega
          all_goals first | omega | exact r
        · have ad := pzV_adv ta.2 e3
          rw [e3] at hR
          have hR' : pTe t N p3 c3 (L ++ L3 ++ [(kd, 0)]) = RR := hR
          simp -implicitDefEqProofs only [↓b163_0, ↓b163_4, ↓b163_8, ↓b163_15, ↓b163_19, ↓b163_24, ↓b163_28, ↓b163_33, ↓b163_37, ↓b163_42, ↓b163_47, ↓b163_49, ↓b163_64, ↓b163_70, ↓b163_74, ↓b163_77, b163_0, b163_4, b163_8, b163_15, b163_19, b163_24, b163_28, b163_33, b163_37, b163_42, b163_47, b163_49, b163_64, b163_70, b163_74, b163_77, nLE3, layE8, hk, n3_162, n3_155, k3_154, r154, n3_159, I32, ↓xb, xb, ps, lpad, lat, aok2, rd2, aaok, aav, alok, alen, aok, akk, csum, isLg, cmpI, clsE, Option.elim, eq_self, List.mem_cons, List.not_mem_nil, or_false, false_or, List.append_nil, List.nil_append, List.cons_append, List.append_eq, List.replicate, List.length_cons, List.length_nil, List.map_cons, List.map_nil, ↓reduceIte, reduceCtorEq, if_true, if_false, true_and, and_true, false_and, and_false, and_self, not_true_eq_false, not_false_eq_true, forall_const, true_implies, false_implies, implies_true, Nat.reduceAdd, Nat.reduceSub, Nat.reduceLT, Nat.reduceLeDiff, Nat.reduceEqDiff, Nat.reduceMul, Nat.reducePow, Nat.add_one_ne_zero, Nat.add_one_sub_one, Nat.add_zero, Nat.zero_add, Int.reduceLT, Int.reduceLE, Int.reduceNeg, Int.reduceAdd, Int.reduceSub, Int.reduceToNat, Int.reduceEq, Int.reduceMul, Int.reducePow, Int.cast_ofNat_Int, Int.toNat_natCast, ne_eq, Bool.false_eq_true, true_or, or_true, or_self, Nat.not_lt_zero, ite_e0, ite_e1, lc_lt, lc_ge, lc_gt, lc_le, lc_eq, Classical.not_not]
          with_reducible repeat' (first | (refine And.intro ?_ ?_) | intro _)
          all_goals try omega
          all_goals first | omega | skip
          have l3 : (L0 ++ L ++ L3).length = (L0 ++ L).length + 1 := by rw [List.length_append, ad.2.2.2.2]
          refine kx_entry (a := kd) (by omega) hs7 X3 (by omega) (fun σ4 X4 s4 => ?_)
          simp -implicitDefEqProofs only [↓b163_0, ↓b163_4, ↓b163_8, ↓b163_15, ↓b163_19, ↓b163_24, ↓b163_28, ↓b163_33, ↓b163_37, ↓b163_42, ↓b163_47, ↓b163_49, ↓b163_64, ↓b163_70, ↓b163_74, ↓b163_77, b163_0, b163_4, b163_8, b163_15, b163_19, b163_24, b163_28, b163_33, b163_37, b163_42, b163_47, b163_49, b163_64, b163_70, b163_74, b163_77, nLE3, layE8, hk, n3_162, n3_155, k3_154, r154, n3_159, I32, ↓xb, xb, ps, lpad, lat, aok2, rd2, aaok, aav, alok, alen, aok, akk, csum, isLg, cmpI, clsE, Option.elim, eq_self, List.mem_cons, List.not_mem_nil, or_false, false_or, List.append_nil, List.nil_append, List.cons_append, List.append_eq, List.replicate, List.length_cons, List.length_nil, List.map_cons, List.map_nil, ↓reduceIte, reduceCtorEq, if_true, if_false, true_and, and_true, false_and, and_false, and_self, not_true_eq_false, not_false_eq_true, forall_const, true_implies, false_implies, implies_true, Nat.reduceAdd, Nat.reduceSub, Nat.reduceLT, Nat.reduceLeDiff, Nat.reduceEqDiff, Nat.reduceMul, Nat.reducePow, Nat.add_one_ne_zero, Nat.add_one_sub_one, Nat.add_zero, Nat.zero_add, Int.reduceLT, Int.reduceLE, Int.reduceNeg, Int.reduceAdd, Int.reduceSub, Int.reduceToNat, Int.reduceEq, Int.reduceMul, Int.reducePow, Int.cast_ofNat_Int, Int.toNat_natCast, ne_eq, Bool.false_eq_true, true_or, or_true, or_self, Nat.not_lt_zero, ite_e0, ite_e1, lc_lt, lc_ge, lc_gt, lc_le, lc_eq, Classical.not_not]
          with_reducible repeat' (first | (refine And.intro ?_ ?_) | intro _)
          all_goals try omega
          all_goals first | omega | skip
          refine kx_bl X4.1 (by omega) ad.2.1 X4.2.1 (fun σ5 h40 s5 => ?_)
          have ap : L0 ++ (L ++ L3 ++ [(kd, (0 : Int))]) = L0 ++ L ++ L3 ++ [(kd, 0)] := by simp [List.append_assoc]
          have X5 := X4.move (S40_1 s5) h40 ((s5 21 41 rfl 0 0).trans X4.2.2.1)
          have r := fun l1 => ih p3 c3 (L ++ L3 ++ [(kd, 0)]) σ5 l1 ad.2.1 (by omega) ad.2.2.2.1 (by
            rw [ap, List.length_append, l3]
            have : ([(kd, (0 : Int))] : List (Nat × Int)).length = 1 := rfl
            omega) (by rw [ap]; exact X5) hR' ((((hs.trans (S401_q ms)).trans s3).trans s4).trans (S401_q (S40_1 s5)))
          simp -implicitDefEqProofs only [↓b163_0, ↓b163_4, ↓b163_8, ↓b163_15, ↓b163_19, ↓b163_24, ↓b163_28, ↓b163_33, ↓b163_37, ↓b163_42, ↓b163_47, ↓b163_49, ↓b163_64, ↓b163_70, ↓b163_74, ↓b163_77, b163_0, b163_4, b163_8, b163_15, b163_19, b163_24, b163_28, b163_33, b163_37, b163_42, b163_47, b163_49, b163_64, b163_70, b163_74, b163_77, nLE3, layE8, hk, n3_162, n3_155, k3_154, r154, n3_159, I32, ↓xb, xb, ps, lpad, lat, aok2, rd2, aaok, aav, alok, alen, aok, akk, csum, isLg, cmpI, clsE, Option.elim, eq_self, List.mem_cons, List.not_mem_nil, or_false, false_or, List.append_nil, List.nil_append, List.cons_append, List.append_eq, List.replicate, List.length_cons, List.length_nil, List.map_cons, List.map_nil, ↓reduceIte, reduceCtorEq, if_true, if_false, true_and, and_true, false_and, and_false, and_self, not_true_eq_false, not_false_eq_true, forall_const, true_implies, false_implies, implies_true, Nat.reduceAdd, Nat.reduceSub, Nat.reduceLT, Nat.reduceLeDiff, Nat.reduceEqDiff, Nat.reduceMul, Nat.reducePow, Nat.add_one_ne_zero, Nat.add_one_sub_one, Nat.add_zero, Nat.zero_add, Int.reduceLT, Int.reduceLE, Int.reduceNeg, Int.reduceAdd, Int.reduceSub, Int.reduceToNat, Int.reduceEq, Int.reduceMul, Int.reducePow, Int.cast_ofNat_Int, Int.toNat_natCast, ne_eq, Bool.false_eq_true, true_or, or_true, or_self, Nat.not_lt_zero, ite_e0, ite_e1, lc_lt, lc_ge, lc_gt, lc_le, lc_eq, Classical.not_not]
          with_reducible repeat' (first | (refine And.intro ?_ ?_) | intro _)
          all_goals try omega
          all_goals first | omega | exact r _
      rcases q with q | q
      · have z := s42.1.mp q
        have et : σ' 21 49 0 (bls t N p) % 256 = 42 := et0.trans z.2
        have r := rest 13 (Or.inl ⟨q, rfl⟩)
        refine TT_vb ok163 (sm3_ok G w) 60 [49] ?_
        simp -implicitDefEqProofs only [↓b163_0, ↓b163_4, ↓b163_8, ↓b163_15, ↓b163_19, ↓b163_24, ↓b163_28, ↓b163_33, ↓b163_37, ↓b163_42, ↓b163_47, ↓b163_49, ↓b163_64, ↓b163_70, ↓b163_74, ↓b163_77, b163_0, b163_4, b163_8, b163_15, b163_19, b163_24, b163_28, b163_33, b163_37, b163_42, b163_47, b163_49, b163_64, b163_70, b163_74, b163_77, nLE3, layE8, e40, e41, t1, bs, et, lt, n3_162, n3_155, k3_154, r154, n3_159, I32, ↓xb, xb, ps, lpad, lat, aok2, rd2, aaok, aav, alok, alen, aok, akk, csum, isLg, cmpI, clsE, Option.elim, eq_self, List.mem_cons, List.not_mem_nil, or_false, false_or, List.append_nil, List.nil_append, List.cons_append, List.append_eq, List.replicate, List.length_cons, List.length_nil, List.map_cons, List.map_nil, ↓reduceIte, reduceCtorEq, if_true, if_false, true_and, and_true, false_and, and_false, and_self, not_true_eq_false, not_false_eq_true, forall_const, true_implies, false_implies, implies_true, Nat.reduceAdd, Nat.reduceSub, Nat.reduceLT, Nat.reduceLeDiff, Nat.reduceEqDiff, Nat.reduceMul, Nat.reducePow, Nat.add_one_ne_zero, Nat.add_one_sub_one, Nat.add_zero, Nat.zero_add, Int.reduceLT, Int.reduceLE, Int.reduceNeg, Int.reduceAdd, Int.reduceSub, Int.reduceToNat, Int.reduceEq, Int.reduceMul, Int.reducePow, Int.cast_ofNat_Int, Int.toNat_natCast, ne_eq, Bool.false_eq_true, true_or, or_true, or_self, Nat.not_lt_zero, ite_e0, ite_e1, lc_lt, lc_ge, lc_gt, lc_le, lc_eq, Classical.not_not]
        with_reducible repeat' (first | (refine And.intro ?_ ?_) | intro _)
        all_goals try omega
        all_goals first | omega | exact r
      · have z := s47.1.mp q
        have et : σ' 21 49 0 (bls t N p) % 256 = 47 := et0.trans z.2
        have r := rest 14 (Or.inr ⟨q, rfl⟩)
        refine TT_vb ok163 (sm3_ok G w) 60 [49] ?_
        simp -implicitDefEqProofs only [↓b163_0, ↓b163_4, ↓b163_8, ↓b163_15, ↓b163_19, ↓b163_24, ↓b163_28, ↓b163_33, ↓b163_37, ↓b163_42, ↓b163_47, ↓b163_49, ↓b163_64, ↓b163_70, ↓b163_74, ↓b163_77, b163_0, b163_4, b163_8, b163_15, b163_19, b163_24, b163_28, b163_33, b163_37, b163_42, b163_47, b163_49, b163_64, b163_70, b163_74, b163_77, nLE3, layE8, e40, e41, t1, bs, et, lt, n3_162, n3_155, k3_154, r154, n3_159, I32, ↓xb, xb, ps, lpad, lat, aok2, rd2, aaok, aav, alok, alen, aok, akk, csum, isLg, cmpI, clsE, Option.elim, eq_self, List.mem_cons, List.not_mem_nil, or_false, false_or, List.append_nil, List.nil_append, List.cons_append, List.append_eq, List.replicate, List.length_cons, List.length_nil, List.map_cons, List.map_nil, ↓reduceIte, reduceCtorEq, if_true, if_false, true_and, and_true, false_and, and_false, and_self, not_true_eq_false, not_false_eq_true, forall_const, true_implies, false_implies, implies_true, Nat.reduceAdd, Nat.reduceSub, Nat.reduceLT, Nat.reduceLeDiff, Nat.reduceEqDiff, Nat.reduceMul, Nat.reducePow, Nat.add_one_ne_zero, Nat.add_one_sub_one, Nat.add_zero, Nat.zero_add, Int.reduceLT, Int.reduceLE, Int.reduceNeg, Int.reduceAdd, Int.reduceSub, Int.reduceToNat, Int.reduceEq, Int.reduceMul, Int.reducePow, Int.cast_ofNat_Int, Int.toNat_natCast, ne_eq, Bool.false_eq_true, true_or, or_true, or_self, Nat.not_lt_zero, ite_e0, ite_e1, lc_lt, lc_ge, lc_gt, lc_le, lc_eq, Classical.not_not]
        with_reducible repeat' (first | (refine And.intro ?_ ?_) | intro _)
        all_goals try omega
        all_goals first | omega | exact r
    · rw [if_neg q] at hR
      have r := qk p c L hR.symm hp hc hr σ' X' hs
      by_cases lt : bls t N p < N
      · have lt' : ((bls t N p : Nat) : Int) < (N : Int) := by omega
        have et : σ' 21 49 0 (bls t N p) % 256 = t (bls t N p) := (T.2.2 (bls t N p) lt).1
        have n1 : ¬ t (bls t N p) = 42 := fun z => q (Or.inl (s42.1.mpr ⟨lt, z⟩))
        have n2 : ¬ t (bls t N p) = 47 := fun z => q (Or.inr (s47.1.mpr ⟨lt, z⟩))
        refine TT_vb ok163 (sm3_ok G w) 60 [49] ?_
        simp -implicitDefEqProofs only [↓b163_0, ↓b163_4, ↓b163_8, ↓b163_15, ↓b163_19, ↓b163_24, ↓b163_28, ↓b163_33, ↓b163_37, ↓b163_42, ↓b163_47, ↓b163_49, ↓b163_64, ↓b163_70, ↓b163_74, ↓b163_77, b163_0, b163_4, b163_8, b163_15, b163_19, b163_24, b163_28, b163_33, b163_37, b163_42, b163_47, b163_49, b163_64, b163_70, b163_74, b163_77, nLE3, layE8, e40, e41, t1, bs, et, lt', n1, n2, n3_162, n3_155, k3_154, r154, n3_159, I32, ↓xb, xb, ps, lpad, lat, aok2, rd2, aaok, aav, alok, alen, aok, akk, csum, isLg, cmpI, clsE, Option.elim, eq_self, List.mem_cons, List.not_mem_nil, or_false, false_or, List.append_nil, List.nil_append, List.cons_append, List.append_eq, List.replicate, List.length_cons, List.length_nil, List.map_cons, List.map_nil, ↓reduceIte, reduceCtorEq, if_true, if_false, true_and, and_true, false_and, and_false, and_self, not_true_eq_false, not_false_eq_true, forall_const, true_implies, false_implies, implies_true, Nat.reduceAdd, Nat.reduceSub, Nat.reduceLT, Nat.reduceLeDiff, Nat.reduceEqDiff, Nat.reduceMul, Nat.reducePow, Nat.add_one_ne_zero, Nat.add_one_sub_one, Nat.add_zero, Nat.zero_add, Int.reduceLT, Int.reduceLE, Int.reduceNeg, Int.reduceAdd, Int.reduceSub, Int.reduceToNat, Int.reduceEq, Int.reduceMul, Int.reducePow, Int.cast_ofNat_Int, Int.toNat_natCast, ne_eq, Bool.false_eq_true, true_or, or_true, or_self, Nat.not_lt_zero, ite_e0, ite_e1, lc_lt, lc_ge, lc_gt, lc_le, lc_eq, Classical.not_not]
        with_reducible repeat' (first | (refine And.intro ?_ ?_) | intro _)
        all_goals try omega
        all_goals first | omega | exact r
      · have lt' : ¬ ((bls t N p : Nat) : Int) < (N : Int) := by omega
        refine TT_vb ok163 (sm3_ok G w) 60 [49] ?_
        simp -implicitDefEqProofs only [↓b163_0, ↓b163_4, ↓b163_8, ↓b163_15, ↓b163_19, ↓b163_24, ↓b163_28, ↓b163_33, ↓b163_37, ↓b163_42, ↓b163_47, ↓b163_49, ↓b163_64, ↓b163_70, ↓b163_74, ↓b163_77, b163_0, b163_4, b163_8, b163_15, b163_19, b163_24, b163_28, b163_33, b163_37, b163_42, b163_47, b163_49, b163_64, b163_70, b163_74, b163_77, nLE3, layE8, e40, e41, t1, lt', n3_162, n3_155, k3_154, r154, n3_159, I32, ↓xb, xb, ps, lpad, lat, aok2, rd2, aaok, aav, alok, alen, aok, akk, csum, isLg, cmpI, clsE, Option.elim, eq_self, List.mem_cons, List.not_mem_nil, or_false, false_or, List.append_nil, List.nil_append, List.cons_append, List.append_eq, List.replicate, List.length_cons, List.length_nil, List.map_cons, List.map_nil, ↓reduceIte, reduceCtorEq, if_true, if_false, true_and, and_true, false_and, and_false, and_self, not_true_eq_false, not_false_eq_true, forall_const, true_implies, false_implies, implies_true, Nat.reduceAdd, Nat.reduceSub, Nat.reduceLT, Nat.reduceLeDiff, Nat.reduceEqDiff, Nat.reduceMul, Nat.reducePow, Nat.add_one_ne_zero, Nat.add_one_sub_one, Nat.add_zero, Nat.zero_add, Int.reduceLT, Int.reduceLE, Int.reduceNeg, Int.reduceAdd, Int.reduceSub, Int.reduceToNat, Int.reduceEq, Int.reduceMul, Int.reducePow, Int.cast_ofNat_Int, Int.toNat_natCast, ne_eq, Bool.false_eq_true, true_or, or_true, or_self, Nat.not_lt_zero, ite_e0, ite_e1, lc_lt, lc_ge, lc_gt, lc_le, lc_eq, Classical.not_not]
        with_reducible repeat' (first | (refine And.intro ?_ ?_) | intro _)
        all_goals try omega
        all_goals first | omega | exact r
end TRY

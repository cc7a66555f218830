/-! 9ea.rulec2: a rule whole (class): its loop; begin -/
section RLD
variable {G : Gl} {w : Wd} {k : Nat} {σ : Mem} {Q : Option AV → Mem → Prop} {t : Nat → Int} {N o : Nat}
theorem pzR_eq {m p c : Nat} {Cs : List Cl} : pzR t N (m + 1) p c Cs = (match pzK t N p c Cs.length (hdB Cs) with
    | .inl f => .inl f
    | .inr (p1, c1, x) => if tk t N p1 = 159 then pzR t N m (te t N p1) c1 (Cs ++ [x]) else if tk t N p1 = 32 then .inr (Cs ++ [x]) else .inl (1 + 8 * bls t N p1)) := rfl
set_option maxRecDepth 100000 in
set_option maxHeartbeats 1000000 in
theorem kc_rl (ht : TR t) (ho : 12 ≤ o ∧ o ≤ 20) (hw : o = 12 ∨ w o = true) (hk : 120 ≤ k) {n3 : Int} {RR : Int ⊕ List Cl}
    (qf : ∀ f, RR = .inl f → ∀ σ', same (SRk o) σ σ' → Q (some (vi f)) σ')
    (qk : ∀ Cs, RR = .inr Cs → ∀ σ', RcF σ' o Cs → same (SRk o) σ σ' → Q (some (vi 0)) σ') :
    ∀ (m p c : Nat) (Cs : List Cl) (LL : List (Nat × Int)) (σ' : Mem) (l1 l2 l7 : Option AV), p ≤ N → c ≤ 60 → LL.length ≤ p → Cs.length ≤ 12 → 13 ≤ Cs.length + m → RSt σ' t N o p c LL → RcC σ' o LL (smC Cs) → σ' o 1 0 0 = hdV Cs → pzR t N m p c Cs = RR → same (SRk o) σ σ' →
      TT G w w w k (0, 0) 19 55 [some (vr 7 0 0), l1, l2, some (vi n3), some (vi (if hdB Cs = true then 1 else 0)), some (vi 1), some (vi (Cs.length : Nat)), l7] [] σ' Q
  | 0, p, c, Cs, LL, σ', l1, l2, l7, hp, hc, hl, hC, hm, R, C, h1, hR, hs => by omega
  | m + 1, p, c, Cs, LL, σ', l1, l2, l7, hp, hc, hl, hC, hm, R, C, h1, hR, hs => by
    have ih := kc_rl ht ho hw hk (n3 := n3) qf qk m
    have hN := R.lim
    have e4 := R.tok
    have e5 : σ' 7 5 0 0 = ((bls t N p : Nat) : Int) := R.2.1.2.2.1
    have bN := (bls_r (t := t) (N := N) (p := p)).2 hp
    rw [pzR_eq] at hR
    have n13 : ¬ (12 : Int) < (Cs.length : Int) := by omega
    have a01 : (if hdB Cs = true then (1 : Int) else 0) = 0 ∨ (if hdB Cs = true then (1 : Int) else 0) = 1 := by split <;> simp
    generalize ea : (if hdB Cs = true then (1 : Int) else 0) = a at a01 ⊢
    -- a fault was told
    have bad : ∀ f : Int, pzK t N p c Cs.length (hdB Cs) = .inl f → ∀ σ2, σ2 7 8 0 0 = f → same (SRk o) σ' σ2 → ∀ z : Int, TT G w w w k (0, 0) 19 152 [some (vr 7 0 0), l1, l2, some (vi n3), some (vi a), some (vi 1), some (vi (Cs.length : Nat)), some (vi z)] [] σ2 Q := fun f ef σ2 h8 s2 z => by
      have fp := pzK_pos hp hc ef
      rw [ef] at hR
      exact kc_r152f (by omega) (f := f) (by omega) h8 (qf f hR.symm σ2 (hs.trans s2)) (by omega)
    -- a clause was read
    have good : ∀ p1 c1 x, pzK t N p c Cs.length (hdB Cs) = .inr (p1, c1, x) → ∀ (LL' : List (Nat × Int)) σ2, RSt σ2 t N o p1 c1 LL' → LL'.length ≤ p1 → RcC σ2 o LL' (smC (Cs ++ [x])) → σ2 o 1 0 0 = hdV (Cs ++ [x]) → same (SRk o) σ' σ2 → ∀ z : Int, z = (if x.1 = 3 then 1 else 0) → TT G w w w k (0, 0) 19 152 [some (vr 7 0 0), l1, l2, some (vi n3), some (vi a), some (vi 1), some (vi (Cs.length : Nat)), some (vi z)] [] σ2 Q := fun p1 c1 x ex LL' σ2 R2 hl2 C2 v2 s2 z hz => by
      have ad := pzK_adv hp hc ex
      rw [ex] at hR
      have hR' : (if tk t N p1 = 159 then pzR t N m (te t N p1) c1 (Cs ++ [x]) else if tk t N p1 = 32 then .inr (Cs ++ [x]) else .inl (1 + 8 * bls t N p1) : Int ⊕ List Cl) = RR := hR
      have la : (Cs ++ [x]).length = Cs.length + 1 := by rw [List.length_append]; rfl
      have oo : ∀ f, S7n o f = false := fun f => by show (o == 7 && _) = false; rw [show (o == 7) = false by simp; omega]; rfl
      have eb : (if a = 1 ∨ z = 1 then (1 : Int) else 0) = (if hdB (Cs ++ [x]) = true then 1 else 0) := by
        rw [hdB_add, ← ea, hz]
        cases hdB Cs
        · by_cases x3 : x.1 = 3
          · simp [x3]
          · simp [x3]
        · simp
      refine kc_r152 ht ho (by omega) R2 ad.2.1 a01 (by rw [hz]; split <;> simp) (by omega) (fun k159 σ3 R3 s3 => ?_) (fun k32 => ?_) (fun n159 n32 => ?_)
      · have ta := te_adv (t := t) ad.2.1 (show tk t N p1 ≠ 32 by omega)
        rw [if_pos k159] at hR'
        have s3' : same (SRk o) σ2 σ3 := s3.mono (fun a' f z => by
          have z' : (a' == 7 && (f == 3 || f == 4 || f == 5 || f == 6)) = true := z
          show ((a' == 7 && (f == 3 || f == 4 || f == 5 || f == 6 || f == 7 || f == 8)) || (a' == o && (f == 1 || f == 2 || f == 3 || f == 4 || f == 5 || f == 6 || f == 7 || f == 8))) = true
          simp only [Bool.and_eq_true, Bool.or_eq_true] at z' ⊢
          exact Or.inl ⟨z'.1, Or.inl (Or.inl z'.2)⟩)
        have r := ih (te t N p1) c1 (Cs ++ [x]) LL' σ3 l1 l2 (some (vi z)) ta.2 ad.2.2.1 (by omega) (by omega) (by omega) R3 (by
          have c3 := C2.kp (M := []) (σ' := σ3) (fun f _ c => s3 o f (oo f) 0 c)
          rw [List.append_nil] at c3
          exact c3) ((s3 o 1 (oo 1) 0 0).trans v2) hR' ((hs.trans s2).trans s3')
        rw [eb]
        rw [la, show (((Cs.length + 1 : Nat) : Int)) = (Cs.length : Int) + 1 by omega] at r
        exact r
      · rw [if_neg (by omega), if_pos k32] at hR'
        exact qk _ hR'.symm σ2 ⟨LL', by omega, R2.2.2.2.2.2.1, C2, v2⟩ (hs.trans s2)
      · rw [if_neg n159, if_neg n32] at hR'
        exact qf _ hR'.symm _ ((hs.trans s2).trans (same.refl.put (S := SRk o) rfl))
    by_cases kin : 15 ≤ tk t N p ∧ tk t N p ≤ 18
    · have n15 : ¬ tk t N p < 15 := by omega
      by_cases full : Cs.length = 12 ∨ (tk t N p = 18 ∧ hdB Cs = true)
      · have ef : pzK t N p c Cs.length (hdB Cs) = .inl (1 + 8 * bls t N p + 4) := by unfold pzK; rw [if_pos kin, if_pos full]
        have r := bad _ ef _ upp_eq (same.refl.put (S := SRk o) rfl)
        have g132 : ∀ z : Int, TT G w w w k (0, 0) 19 132 [some (vr 7 0 0), l1, l2, some (vi n3), some (vi a), some (vi 1), some (vi (Cs.length : Nat)), some (vi z)] [vi 0] (up σ' 7 8 0 0 (1 + 8 * ((bls t N p : Nat) : Int) + 4)) Q := fun z => by
          refine TT_vn ok19 (sm3_ok G w) 60 2 [152] ?_
          simp -implicitDefEqProofs only [↓b19_0, ↓b19_12, ↓b19_39, ↓b19_42, ↓b19_52, ↓b19_55, ↓b19_60, ↓b19_67, ↓b19_76, ↓b19_80, ↓b19_81, ↓b19_92, ↓b19_101, ↓b19_110, ↓b19_117, ↓b19_122, ↓b19_127, ↓b19_136, ↓b19_141, ↓b19_145, ↓b19_148, ↓b19_152, ↓b19_157, ↓b19_162, ↓b19_166, ↓b19_167, ↓b19_176, ↓b19_180, ↓b19_183, ↓b19_187, ↓b19_188, ↓b19_196, ↓b19_106, ↓b19_132, b19_0, b19_12, b19_39, b19_42, b19_52, b19_55, b19_60, b19_67, b19_76, b19_80, b19_81, b19_92, b19_101, b19_110, b19_117, b19_122, b19_127, b19_136, b19_141, b19_145, b19_148, b19_152, b19_157, b19_162, b19_166, b19_167, b19_176, b19_180, b19_183, b19_187, b19_188, b19_196, b19_106, b19_132, nLE0, layE2, layE3, hk, n3_34, n3_29, n3_21, n3_22, n3_23, n3_20, I32, ↓xb, xb, ps, lpad, lat, aok2, rd2, aaok, aav, alok, alen, aok, akk, csum, isLg, cmpI, clsE, Option.elim, eq_self, List.mem_cons, List.not_mem_nil, or_false, false_or, List.append_nil, List.nil_append, List.cons_append, List.append_eq, List.replicate, List.length_cons, List.length_nil, List.map_cons, List.map_nil, ↓reduceIte, reduceCtorEq, if_true, if_false, true_and, and_true, false_and, and_false, and_self, not_true_eq_false, not_false_eq_true, forall_const, true_implies, false_implies, implies_true, Nat.reduceAdd, Nat.reduceSub, Nat.reduceLT, Nat.reduceLeDiff, Nat.reduceEqDiff, Nat.reduceMul, Nat.reducePow, Nat.add_one_ne_zero, Nat.add_one_sub_one, Nat.add_zero, Nat.zero_add, Int.reduceLT, Int.reduceLE, Int.reduceNeg, Int.reduceAdd, Int.reduceSub, Int.reduceToNat, Int.reduceEq, Int.reduceMul, Int.reducePow, Int.cast_ofNat_Int, Int.toNat_natCast, ne_eq, Bool.false_eq_true, true_or, or_true, or_self, Nat.not_lt_zero, ite_e0, ite_e1, lc_lt, lc_ge, lc_gt, lc_le, lc_eq, Classical.not_not]
          with_reducible repeat' (first | (refine And.intro ?_ ?_) | intro _)
          all_goals try omega
          all_goals first | omega | exact r z | rfl
        have g127 : ∀ z : Int, TT G w w w k (0, 0) 19 127 [some (vr 7 0 0), l1, l2, some (vi n3), some (vi a), some (vi 1), some (vi (Cs.length : Nat)), some (vi z)] [] σ' Q := fun z => by
          refine TT_vb ok19 (sm3_ok G w) 60 [132] ?_
          simp -implicitDefEqProofs only [↓b19_0, ↓b19_12, ↓b19_39, ↓b19_42, ↓b19_52, ↓b19_55, ↓b19_60, ↓b19_67, ↓b19_76, ↓b19_80, ↓b19_81, ↓b19_92, ↓b19_101, ↓b19_110, ↓b19_117, ↓b19_122, ↓b19_127, ↓b19_136, ↓b19_141, ↓b19_145, ↓b19_148, ↓b19_152, ↓b19_157, ↓b19_162, ↓b19_166, ↓b19_167, ↓b19_176, ↓b19_180, ↓b19_183, ↓b19_187, ↓b19_188, ↓b19_196, ↓b19_106, ↓b19_132, b19_0, b19_12, b19_39, b19_42, b19_52, b19_55, b19_60, b19_67, b19_76, b19_80, b19_81, b19_92, b19_101, b19_110, b19_117, b19_122, b19_127, b19_136, b19_141, b19_145, b19_148, b19_152, b19_157, b19_162, b19_166, b19_167, b19_176, b19_180, b19_183, b19_187, b19_188, b19_196, b19_106, b19_132, nLE0, layE2, layE3, hk, n3_34, n3_29, n3_21, n3_22, n3_23, n3_20, I32, ↓xb, xb, ps, lpad, lat, aok2, rd2, aaok, aav, alok, alen, aok, akk, csum, isLg, cmpI, clsE, Option.elim, eq_self, List.mem_cons, List.not_mem_nil, or_false, false_or, List.append_nil, List.nil_append, List.cons_append, List.append_eq, List.replicate, List.length_cons, List.length_nil, List.map_cons, List.map_nil, ↓reduceIte, reduceCtorEq, if_true, if_false, true_and, and_true, false_and, and_false, and_self, not_true_eq_false, not_false_eq_true, forall_const, true_implies, false_implies, implies_true, Nat.reduceAdd, Nat.reduceSub, Nat.reduceLT, Nat.reduceLeDiff, Nat.reduceEqDiff, Nat.reduceMul, Nat.reducePow, Nat.add_one_ne_zero, Nat.add_one_sub_one, Nat.add_zero, Nat.zero_add, Int.reduceLT, Int.reduceLE, Int.reduceNeg, Int.reduceAdd, Int.reduceSub, Int.reduceToNat, Int.reduceEq, Int.reduceMul, Int.reducePow, Int.cast_ofNat_Int, Int.toNat_natCast, ne_eq, Bool.false_eq_true, true_or, or_true, or_self, Nat.not_lt_zero, ite_e0, ite_e1, lc_lt, lc_ge, lc_gt, lc_le, lc_eq, Classical.not_not]
          with_reducible repeat' (first | (refine And.intro ?_ ?_) | intro _)
          all_goals try omega
          all_goals first | omega | skip
          refine kc_refuse (b := bls t N p) (by omega) (by omega) e5 (by omega) ?_
          simp -implicitDefEqProofs only [↓b19_0, ↓b19_12, ↓b19_39, ↓b19_42, ↓b19_52, ↓b19_55, ↓b19_60, ↓b19_67, ↓b19_76, ↓b19_80, ↓b19_81, ↓b19_92, ↓b19_101, ↓b19_110, ↓b19_117, ↓b19_122, ↓b19_127, ↓b19_136, ↓b19_141, ↓b19_145, ↓b19_148, ↓b19_152, ↓b19_157, ↓b19_162, ↓b19_166, ↓b19_167, ↓b19_176, ↓b19_180, ↓b19_183, ↓b19_187, ↓b19_188, ↓b19_196, ↓b19_106, ↓b19_132, b19_0, b19_12, b19_39, b19_42, b19_52, b19_55, b19_60, b19_67, b19_76, b19_80, b19_81, b19_92, b19_101, b19_110, b19_117, b19_122, b19_127, b19_136, b19_141, b19_145, b19_148, b19_152, b19_157, b19_162, b19_166, b19_167, b19_176, b19_180, b19_183, b19_187, b19_188, b19_196, b19_106, b19_132, nLE0, layE2, layE3, hk, n3_34, n3_29, n3_21, n3_22, n3_23, n3_20, I32, ↓xb, xb, ps, lpad, lat, aok2, rd2, aaok, aav, alok, alen, aok, akk, csum, isLg, cmpI, clsE, Option.elim, eq_self, List.mem_cons, List.not_mem_nil, or_false, false_or, List.append_nil, List.nil_append, List.cons_append, List.append_eq, List.replicate, List.length_cons, List.length_nil, List.map_cons, List.map_nil, ↓reduceIte, reduceCtorEq, if_true, if_false, true_and, and_true, false_and, and_false, and_self, not_true_eq_false, not_false_eq_true, forall_const, true_implies, false_implies, implies_true, Nat.reduceAdd, Nat.reduceSub, Nat.reduceLT, Nat.reduceLeDiff, Nat.reduceEqDiff, Nat.reduceMul, Nat.reducePow, Nat.add_one_ne_zero, Nat.add_one_sub_one, Nat.add_zero, Nat.zero_add, Int.reduceLT, Int.reduceLE, Int.reduceNeg, Int.reduceAdd, Int.reduceSub, Int.reduceToNat, Int.reduceEq, Int.reduceMul, Int.reducePow, Int.cast_ofNat_Int, Int.toNat_natCast, ne_eq, Bool.false_eq_true, true_or, or_true, or_self, Nat.not_lt_zero, ite_e0, ite_e1, lc_lt, lc_ge, lc_gt, lc_le, lc_eq, Classical.not_not]
          with_reducible repeat' (first | (refine And.intro ?_ ?_) | intro _)
          all_goals try omega
          all_goals first | omega | exact g132 z
        by_cases k18 : tk t N p = 18
        · rw [k18] at e4
          have full' : (Cs.length : Int) = 12 ∨ a = 1 := by
            rcases full with q | q
            · exact Or.inl (by omega)
            · right; rw [← ea, if_pos q.2]
          rcases a01 with a0 | a1
          · have c12 : (Cs.length : Int) = 12 := by omega
            refine TT_vb ok19 (sm3_ok G w) 60 [101, 127, 136] ?_
            simp -implicitDefEqProofs only [↓b19_0, ↓b19_12, ↓b19_39, ↓b19_42, ↓b19_52, ↓b19_55, ↓b19_60, ↓b19_67, ↓b19_76, ↓b19_80, ↓b19_81, ↓b19_92, ↓b19_101, ↓b19_110, ↓b19_117, ↓b19_122, ↓b19_127, ↓b19_136, ↓b19_141, ↓b19_145, ↓b19_148, ↓b19_152, ↓b19_157, ↓b19_162, ↓b19_166, ↓b19_167, ↓b19_176, ↓b19_180, ↓b19_183, ↓b19_187, ↓b19_188, ↓b19_196, ↓b19_106, ↓b19_132, b19_0, b19_12, b19_39, b19_42, b19_52, b19_55, b19_60, b19_67, b19_76, b19_80, b19_81, b19_92, b19_101, b19_110, b19_117, b19_122, b19_127, b19_136, b19_141, b19_145, b19_148, b19_152, b19_157, b19_162, b19_166, b19_167, b19_176, b19_180, b19_183, b19_187, b19_188, b19_196, b19_106, b19_132, nLE0, layE2, layE3, n13, e4, n3_34, n3_29, n3_21, n3_22, n3_23, n3_20, I32, ↓xb, xb, ps, lpad, lat, aok2, rd2, aaok, aav, alok, alen, aok, akk, csum, isLg, cmpI, clsE, Option.elim, eq_self, List.mem_cons, List.not_mem_nil, or_false, false_or, List.append_nil, List.nil_append, List.cons_append, List.append_eq, List.replicate, List.length_cons, List.length_nil, List.map_cons, List.map_nil, ↓reduceIte, reduceCtorEq, if_true, if_false, true_and, and_true, false_and, and_false, and_self, not_true_eq_false, not_false_eq_true, forall_const, true_implies, false_implies, implies_true, Nat.reduceAdd, Nat.reduceSub, Nat.reduceLT, Nat.reduceLeDiff, Nat.reduceEqDiff, Nat.reduceMul, Nat.reducePow, Nat.add_one_ne_zero, Nat.add_one_sub_one, Nat.add_zero, Nat.zero_add, Int.reduceLT, Int.reduceLE, Int.reduceNeg, Int.reduceAdd, Int.reduceSub, Int.reduceToNat, Int.reduceEq, Int.reduceMul, Int.reducePow, Int.cast_ofNat_Int, Int.toNat_natCast, ne_eq, Bool.false_eq_true, true_or, or_true, or_self, Nat.not_lt_zero, ite_e0, ite_e1, lc_lt, lc_ge, lc_gt, lc_le, lc_eq, Classical.not_not]
            with_reducible repeat' (first | (refine And.intro ?_ ?_) | intro _)
            all_goals try omega
            all_goals first | omega | exact g127 1
          · subst a1
            refine TT_vb ok19 (sm3_ok G w) 60 [101, 127, 136] ?_
            simp -implicitDefEqProofs only [↓b19_0, ↓b19_12, ↓b19_39, ↓b19_42, ↓b19_52, ↓b19_55, ↓b19_60, ↓b19_67, ↓b19_76, ↓b19_80, ↓b19_81, ↓b19_92, ↓b19_101, ↓b19_110, ↓b19_117, ↓b19_122, ↓b19_127, ↓b19_136, ↓b19_141, ↓b19_145, ↓b19_148, ↓b19_152, ↓b19_157, ↓b19_162, ↓b19_166, ↓b19_167, ↓b19_176, ↓b19_180, ↓b19_183, ↓b19_187, ↓b19_188, ↓b19_196, ↓b19_106, ↓b19_132, b19_0, b19_12, b19_39, b19_42, b19_52, b19_55, b19_60, b19_67, b19_76, b19_80, b19_81, b19_92, b19_101, b19_110, b19_117, b19_122, b19_127, b19_136, b19_141, b19_145, b19_148, b19_152, b19_157, b19_162, b19_166, b19_167, b19_176, b19_180, b19_183, b19_187, b19_188, b19_196, b19_106, b19_132, nLE0, layE2, layE3, n13, e4, n3_34, n3_29, n3_21, n3_22, n3_23, n3_20, I32, ↓xb, xb, ps, lpad, lat, aok2, rd2, aaok, aav, alok, alen, aok, akk, csum, isLg, cmpI, clsE, Option.elim, eq_self, List.mem_cons, List.not_mem_nil, or_false, false_or, List.append_nil, List.nil_append, List.cons_append, List.append_eq, List.replicate, List.length_cons, List.length_nil, List.map_cons, List.map_nil, ↓reduceIte, reduceCtorEq, if_true, if_false, true_and, and_true, false_and, and_false, and_self, not_true_eq_false, not_false_eq_true, forall_const, true_implies, false_implies, implies_true, Nat.reduceAdd, Nat.reduceSub, Nat.reduceLT, Nat.reduceLeDiff, Nat.reduceEqDiff, Nat.reduceMul, Nat.reducePow, Nat.add_one_ne_zero, Nat.add_one_sub_one, Nat.add_zero, Nat.zero_add, Int.reduceLT, Int.reduceLE, Int.reduceNeg, Int.reduceAdd, Int.reduceSub, Int.reduceToNat, Int.reduceEq, Int.reduceMul, Int.reducePow, Int.cast_ofNat_Int, Int.toNat_natCast, ne_eq, Bool.false_eq_true, true_or, or_true, or_self, Nat.not_lt_zero, ite_e0, ite_e1, lc_lt, lc_ge, lc_gt, lc_le, lc_eq, Classical.not_not]
            with_reducible repeat' (first | (refine And.intro ?_ ?_) | intro _)
            all_goals try omega
            all_goals first | omega | exact g127 1
        · have c12 : (Cs.length : Int) = 12 := by rcases full with q | q <;> omega
          have le18 : tk t N p ≤ 18 := kin.2
          refine TT_vb ok19 (sm3_ok G w) 60 [101, 127, 136] ?_
          simp -implicitDefEqProofs only [↓b19_0, ↓b19_12, ↓b19_39, ↓b19_42, ↓b19_52, ↓b19_55, ↓b19_60, ↓b19_67, ↓b19_76, ↓b19_80, ↓b19_81, ↓b19_92, ↓b19_101, ↓b19_110, ↓b19_117, ↓b19_122, ↓b19_127, ↓b19_136, ↓b19_141, ↓b19_145, ↓b19_148, ↓b19_152, ↓b19_157, ↓b19_162, ↓b19_166, ↓b19_167, ↓b19_176, ↓b19_180, ↓b19_183, ↓b19_187, ↓b19_188, ↓b19_196, ↓b19_106, ↓b19_132, b19_0, b19_12, b19_39, b19_42, b19_52, b19_55, b19_60, b19_67, b19_76, b19_80, b19_81, b19_92, b19_101, b19_110, b19_117, b19_122, b19_127, b19_136, b19_141, b19_145, b19_148, b19_152, b19_157, b19_162, b19_166, b19_167, b19_176, b19_180, b19_183, b19_187, b19_188, b19_196, b19_106, b19_132, nLE0, layE2, layE3, n13, e4, k18, n15, le18, n3_34, n3_29, n3_21, n3_22, n3_23, n3_20, I32, ↓xb, xb, ps, lpad, lat, aok2, rd2, aaok, aav, alok, alen, aok, akk, csum, isLg, cmpI, clsE, Option.elim, eq_self, List.mem_cons, List.not_mem_nil, or_false, false_or, List.append_nil, List.nil_append, List.cons_append, List.append_eq, List.replicate, List.length_cons, List.length_nil, List.map_cons, List.map_nil, ↓reduceIte, reduceCtorEq, if_true, if_false, true_and, and_true, false_and, and_false, and_self, not_true_eq_false, not_false_eq_true, forall_const, true_implies, false_implies, implies_true, Nat.reduceAdd, Nat.reduceSub, Nat.reduceLT, Nat.reduceLeDiff, Nat.reduceEqDiff, Nat.reduceMul, Nat.reducePow, Nat.add_one_ne_zero, Nat.add_one_sub_one, Nat.add_zero, Nat.zero_add, Int.reduceLT, Int.reduceLE, Int.reduceNeg, Int.reduceAdd, Int.reduceSub, Int.reduceToNat, Int.reduceEq, Int.reduceMul, Int.reducePow, Int.cast_ofNat_Int, Int.toNat_natCast, ne_eq, Bool.false_eq_true, true_or, or_true, or_self, Nat.not_lt_zero, ite_e0, ite_e1, lc_lt, lc_ge, lc_gt, lc_le, lc_eq, Classical.not_not]
          with_reducible repeat' (first | (refine And.intro ?_ ?_) | intro _)
          all_goals try omega
          all_goals first | omega | exact g127 0
      · have c12 : ¬ (Cs.length : Int) = 12 := by omega
        by_cases k18 : tk t N p = 18
        · have ek : pzK t N p c Cs.length (hdB Cs) = pzH t N (te t N p) c := by unfold pzK; rw [if_pos kin, if_neg full, if_pos k18]
          have a0 : a = 0 := by
            rw [← ea]
            exact if_neg (fun y => full (Or.inr ⟨k18, y⟩))
          subst a0
          rw [k18] at e4
          refine TT_vb ok19 (sm3_ok G w) 60 [152] ?_
          simp -implicitDefEqProofs only [↓b19_0, ↓b19_12, ↓b19_39, ↓b19_42, ↓b19_52, ↓b19_55, ↓b19_60, ↓b19_67, ↓b19_76, ↓b19_80, ↓b19_81, ↓b19_92, ↓b19_101, ↓b19_110, ↓b19_117, ↓b19_122, ↓b19_127, ↓b19_136, ↓b19_141, ↓b19_145, ↓b19_148, ↓b19_152, ↓b19_157, ↓b19_162, ↓b19_166, ↓b19_167, ↓b19_176, ↓b19_180, ↓b19_183, ↓b19_187, ↓b19_188, ↓b19_196, ↓b19_106, ↓b19_132, b19_0, b19_12, b19_39, b19_42, b19_52, b19_55, b19_60, b19_67, b19_76, b19_80, b19_81, b19_92, b19_101, b19_110, b19_117, b19_122, b19_127, b19_136, b19_141, b19_145, b19_148, b19_152, b19_157, b19_162, b19_166, b19_167, b19_176, b19_180, b19_183, b19_187, b19_188, b19_196, b19_106, b19_132, nLE0, layE2, layE3, n13, e4, c12, n3_34, n3_29, n3_21, n3_22, n3_23, n3_20, I32, ↓xb, xb, ps, lpad, lat, aok2, rd2, aaok, aav, alok, alen, aok, akk, csum, isLg, cmpI, clsE, Option.elim, eq_self, List.mem_cons, List.not_mem_nil, or_false, false_or, List.append_nil, List.nil_append, List.cons_append, List.append_eq, List.replicate, List.length_cons, List.length_nil, List.map_cons, List.map_nil, ↓reduceIte, reduceCtorEq, if_true, if_false, true_and, and_true, false_and, and_false, and_self, not_true_eq_false, not_false_eq_true, forall_const, true_implies, false_implies, implies_true, Nat.reduceAdd, Nat.reduceSub, Nat.reduceLT, Nat.reduceLeDiff, Nat.reduceEqDiff, Nat.reduceMul, Nat.reducePow, Nat.add_one_ne_zero, Nat.add_one_sub_one, Nat.add_zero, Nat.zero_add, Int.reduceLT, Int.reduceLE, Int.reduceNeg, Int.reduceAdd, Int.reduceSub, Int.reduceToNat, Int.reduceEq, Int.reduceMul, Int.reducePow, Int.cast_ofNat_Int, Int.toNat_natCast, ne_eq, Bool.false_eq_true, true_or, or_true, or_self, Nat.not_lt_zero, ite_e0, ite_e1, lc_lt, lc_ge, lc_gt, lc_le, lc_eq, Classical.not_not]
          with_reducible repeat' (first | (refine And.intro ?_ ?_) | intro _)
          all_goals try omega
          all_goals first | omega | skip
          refine kc_hold ht ho hw (by omega) R hp k18 (fun f ef σ2 h8 s2 => ?_) (fun p1 c1 x ex σ2 R2 v2 fr s2 => ?_)
          · have r := bad f (ek.trans ef) σ2 h8 s2 1
            simp -implicitDefEqProofs only [↓b19_0, ↓b19_12, ↓b19_39, ↓b19_42, ↓b19_52, ↓b19_55, ↓b19_60, ↓b19_67, ↓b19_76, ↓b19_80, ↓b19_81, ↓b19_92, ↓b19_101, ↓b19_110, ↓b19_117, ↓b19_122, ↓b19_127, ↓b19_136, ↓b19_141, ↓b19_145, ↓b19_148, ↓b19_152, ↓b19_157, ↓b19_162, ↓b19_166, ↓b19_167, ↓b19_176, ↓b19_180, ↓b19_183, ↓b19_187, ↓b19_188, ↓b19_196, ↓b19_106, ↓b19_132, b19_0, b19_12, b19_39, b19_42, b19_52, b19_55, b19_60, b19_67, b19_76, b19_80, b19_81, b19_92, b19_101, b19_110, b19_117, b19_122, b19_127, b19_136, b19_141, b19_145, b19_148, b19_152, b19_157, b19_162, b19_166, b19_167, b19_176, b19_180, b19_183, b19_187, b19_188, b19_196, b19_106, b19_132, nLE0, layE2, layE3, hk, n3_34, n3_29, n3_21, n3_22, n3_23, n3_20, I32, ↓xb, xb, ps, lpad, lat, aok2, rd2, aaok, aav, alok, alen, aok, akk, csum, isLg, cmpI, clsE, Option.elim, eq_self, List.mem_cons, List.not_mem_nil, or_false, false_or, List.append_nil, List.nil_append, List.cons_append, List.append_eq, List.replicate, List.length_cons, List.length_nil, List.map_cons, List.map_nil, ↓reduceIte, reduceCtorEq, if_true, if_false, true_and, and_true, false_and, and_false, and_self, not_true_eq_false, not_false_eq_true, forall_const, true_implies, false_implies, implies_true, Nat.reduceAdd, Nat.reduceSub, Nat.reduceLT, Nat.reduceLeDiff, Nat.reduceEqDiff, Nat.reduceMul, Nat.reducePow, Nat.add_one_ne_zero, Nat.add_one_sub_one, Nat.add_zero, Nat.zero_add, Int.reduceLT, Int.reduceLE, Int.reduceNeg, Int.reduceAdd, Int.reduceSub, Int.reduceToNat, Int.reduceEq, Int.reduceMul, Int.reducePow, Int.cast_ofNat_Int, Int.toNat_natCast, ne_eq, Bool.false_eq_true, true_or, or_true, or_self, Nat.not_lt_zero, ite_e0, ite_e1, lc_lt, lc_ge, lc_gt, lc_le, lc_eq, Classical.not_not]
            with_reducible repeat' (first | (refine And.intro ?_ ?_) | intro _)
            all_goals try omega
            all_goals first | omega | exact r
          · have ta := te_adv (t := t) hp (show tk t N p ≠ 32 by omega)
            have z := pzH_adv ta.2 ex
            have ec : c1 = c := z.2.2.1
            subst ec
            have r := good p1 c1 x (ek.trans ex) LL σ2 R2 (by omega) (by
              rw [smC_add, if_pos z.2.2.2.1]
              have c3 := C.kp (M := []) (σ' := σ2) (fun f hf c => fr f (by omega) (by omega) c)
              rw [List.append_nil] at c3
              exact c3) (by rw [hdV_add, if_pos z.2.2.2.1]; exact v2) s2 1 (by rw [if_pos z.2.2.2.1])
            simp -implicitDefEqProofs only [↓b19_0, ↓b19_12, ↓b19_39, ↓b19_42, ↓b19_52, ↓b19_55, ↓b19_60, ↓b19_67, ↓b19_76, ↓b19_80, ↓b19_81, ↓b19_92, ↓b19_101, ↓b19_110, ↓b19_117, ↓b19_122, ↓b19_127, ↓b19_136, ↓b19_141, ↓b19_145, ↓b19_148, ↓b19_152, ↓b19_157, ↓b19_162, ↓b19_166, ↓b19_167, ↓b19_176, ↓b19_180, ↓b19_183, ↓b19_187, ↓b19_188, ↓b19_196, ↓b19_106, ↓b19_132, b19_0, b19_12, b19_39, b19_42, b19_52, b19_55, b19_60, b19_67, b19_76, b19_80, b19_81, b19_92, b19_101, b19_110, b19_117, b19_122, b19_127, b19_136, b19_141, b19_145, b19_148, b19_152, b19_157, b19_162, b19_166, b19_167, b19_176, b19_180, b19_183, b19_187, b19_188, b19_196, b19_106, b19_132, nLE0, layE2, layE3, hk, n3_34, n3_29, n3_21, n3_22, n3_23, n3_20, I32, ↓xb, xb, ps, lpad, lat, aok2, rd2, aaok, aav, alok, alen, aok, akk, csum, isLg, cmpI, clsE, Option.elim, eq_self, List.mem_cons, List.not_mem_nil, or_false, false_or, List.append_nil, List.nil_append, List.cons_append, List.append_eq, List.replicate, List.length_cons, List.length_nil, List.map_cons, List.map_nil, ↓reduceIte, reduceCtorEq, if_true, if_false, true_and, and_true, false_and, and_false, and_self, not_true_eq_false, not_false_eq_true, forall_const, true_implies, false_implies, implies_true, Nat.reduceAdd, Nat.reduceSub, Nat.reduceLT, Nat.reduceLeDiff, Nat.reduceEqDiff, Nat.reduceMul, Nat.reducePow, Nat.add_one_ne_zero, Nat.add_one_sub_one, Nat.add_zero, Nat.zero_add, Int.reduceLT, Int.reduceLE, Int.reduceNeg, Int.reduceAdd, Int.reduceSub, Int.reduceToNat, Int.reduceEq, Int.reduceMul, Int.reducePow, Int.cast_ofNat_Int, Int.toNat_natCast, ne_eq, Bool.false_eq_true, true_or, or_true, or_self, Nat.not_lt_zero, ite_e0, ite_e1, lc_lt, lc_ge, lc_gt, lc_le, lc_eq, Classical.not_not]
            with_reducible repeat' (first | (refine And.intro ?_ ?_) | intro _)
            all_goals try omega
            all_goals first | omega | exact r
        · have ek : pzK t N p c Cs.length (hdB Cs) = (match pzS t N (te t N p) c with
              | .inl f => .inl f
              | .inr (p1, c1, L1) => pzI t N (tk t N p - 15) p1 c1 L1) := by
            unfold pzK
            rw [if_pos kin, if_neg full, if_neg k18]
            all_goals (cases pzS t N (te t N p) c <;> rfl)
          have le18 : tk t N p ≤ 18 := kin.2
          have sl := smC_le (Cs := Cs)
          refine TT_vb ok19 (sm3_ok G w) 60 [152] ?_
          simp -implicitDefEqProofs only [↓b19_0, ↓b19_12, ↓b19_39, ↓b19_42, ↓b19_52, ↓b19_55, ↓b19_60, ↓b19_67, ↓b19_76, ↓b19_80, ↓b19_81, ↓b19_92, ↓b19_101, ↓b19_110, ↓b19_117, ↓b19_122, ↓b19_127, ↓b19_136, ↓b19_141, ↓b19_145, ↓b19_148, ↓b19_152, ↓b19_157, ↓b19_162, ↓b19_166, ↓b19_167, ↓b19_176, ↓b19_180, ↓b19_183, ↓b19_187, ↓b19_188, ↓b19_196, ↓b19_106, ↓b19_132, b19_0, b19_12, b19_39, b19_42, b19_52, b19_55, b19_60, b19_67, b19_76, b19_80, b19_81, b19_92, b19_101, b19_110, b19_117, b19_122, b19_127, b19_136, b19_141, b19_145, b19_148, b19_152, b19_157, b19_162, b19_166, b19_167, b19_176, b19_180, b19_183, b19_187, b19_188, b19_196, b19_106, b19_132, nLE0, layE2, layE3, n13, e4, k18, n15, le18, c12, n3_34, n3_29, n3_21, n3_22, n3_23, n3_20, I32, ↓xb, xb, ps, lpad, lat, aok2, rd2, aaok, aav, alok, alen, aok, akk, csum, isLg, cmpI, clsE, Option.elim, eq_self, List.mem_cons, List.not_mem_nil, or_false, false_or, List.append_nil, List.nil_append, List.cons_append, List.append_eq, List.replicate, List.length_cons, List.length_nil, List.map_cons, List.map_nil, ↓reduceIte, reduceCtorEq, if_true, if_false, true_and, and_true, false_and, and_false, and_self, not_true_eq_false, not_false_eq_true, forall_const, true_implies, false_implies, implies_true, Nat.reduceAdd, Nat.reduceSub, Nat.reduceLT, Nat.reduceLeDiff, Nat.reduceEqDiff, Nat.reduceMul, Nat.reducePow, Nat.add_one_ne_zero, Nat.add_one_sub_one, Nat.add_zero, Nat.zero_add, Int.reduceLT, Int.reduceLE, Int.reduceNeg, Int.reduceAdd, Int.reduceSub, Int.reduceToNat, Int.reduceEq, Int.reduceMul, Int.reducePow, Int.cast_ofNat_Int, Int.toNat_natCast, ne_eq, Bool.false_eq_true, true_or, or_true, or_self, Nat.not_lt_zero, ite_e0, ite_e1, lc_lt, lc_ge, lc_gt, lc_le, lc_eq, Classical.not_not]
          with_reducible repeat' (first | (refine And.intro ?_ ?_) | intro _)
          all_goals try omega
          all_goals first | omega | skip
          refine kc_clause ht ho hw (by omega) R C hp hc hl (by omega) (by omega) (fun f hf σ2 h8 s2 => ?_) (fun p1 c1 L1 e p2 c2 x ex σ2 R2 C2 v2 s2 => ?_)
          · have r := bad f (by
              rw [ek]
              rcases hf with e | ⟨p1, c1, L1, e, ei⟩
              · rw [e]
              · rw [e]; exact ei) σ2 h8 s2 0
            simp -implicitDefEqProofs only [↓b19_0, ↓b19_12, ↓b19_39, ↓b19_42, ↓b19_52, ↓b19_55, ↓b19_60, ↓b19_67, ↓b19_76, ↓b19_80, ↓b19_81, ↓b19_92, ↓b19_101, ↓b19_110, ↓b19_117, ↓b19_122, ↓b19_127, ↓b19_136, ↓b19_141, ↓b19_145, ↓b19_148, ↓b19_152, ↓b19_157, ↓b19_162, ↓b19_166, ↓b19_167, ↓b19_176, ↓b19_180, ↓b19_183, ↓b19_187, ↓b19_188, ↓b19_196, ↓b19_106, ↓b19_132, b19_0, b19_12, b19_39, b19_42, b19_52, b19_55, b19_60, b19_67, b19_76, b19_80, b19_81, b19_92, b19_101, b19_110, b19_117, b19_122, b19_127, b19_136, b19_141, b19_145, b19_148, b19_152, b19_157, b19_162, b19_166, b19_167, b19_176, b19_180, b19_183, b19_187, b19_188, b19_196, b19_106, b19_132, nLE0, layE2, layE3, hk, n3_34, n3_29, n3_21, n3_22, n3_23, n3_20, I32, ↓xb, xb, ps, lpad, lat, aok2, rd2, aaok, aav, alok, alen, aok, akk, csum, isLg, cmpI, clsE, Option.elim, eq_self, List.mem_cons, List.not_mem_nil, or_false, false_or, List.append_nil, List.nil_append, List.cons_append, List.append_eq, List.replicate, List.length_cons, List.length_nil, List.map_cons, List.map_nil, ↓reduceIte, reduceCtorEq, if_true, if_false, true_and, and_true, false_and, and_false, and_self, not_true_eq_false, not_false_eq_true, forall_const, true_implies, false_implies, implies_true, Nat.reduceAdd, Nat.reduceSub, Nat.reduceLT, Nat.reduceLeDiff, Nat.reduceEqDiff, Nat.reduceMul, Nat.reducePow, Nat.add_one_ne_zero, Nat.add_one_sub_one, Nat.add_zero, Nat.zero_add, Int.reduceLT, Int.reduceLE, Int.reduceNeg, Int.reduceAdd, Int.reduceSub, Int.reduceToNat, Int.reduceEq, Int.reduceMul, Int.reducePow, Int.cast_ofNat_Int, Int.toNat_natCast, ne_eq, Bool.false_eq_true, true_or, or_true, or_self, Nat.not_lt_zero, ite_e0, ite_e1, lc_lt, lc_ge, lc_gt, lc_le, lc_eq, Classical.not_not]
            with_reducible repeat' (first | (refine And.intro ?_ ?_) | intro _)
            all_goals try omega
            all_goals first | omega | exact r
          · have ex' : pzK t N p c Cs.length (hdB Cs) = .inr (p2, c2, x) := by rw [ek, e]; exact ex
            have ad := pzK_adv hp hc ex'
            have ln := (pzK_len ht hp hc ex').1
            have ta := te_adv (t := t) hp (show tk t N p ≠ 32 by omega)
            have y := pzS_adv ta.2 e
            have x1 : x.1 = tk t N p - 15 := (pzI_adv y.2.1 y.2.2 ex).2.2.2
            have n3' : ¬ x.1 = 3 := by omega
            have r := good p2 c2 x ex' _ σ2 R2 (by rw [List.length_append, List.length_append]; omega) (by rw [smC_add, if_neg n3']; exact C2) (by rw [hdV_add, if_neg n3', v2]; exact h1) s2 0 (by rw [if_neg n3'])
            simp -implicitDefEqProofs only [↓b19_0, ↓b19_12, ↓b19_39, ↓b19_42, ↓b19_52, ↓b19_55, ↓b19_60, ↓b19_67, ↓b19_76, ↓b19_80, ↓b19_81, ↓b19_92, ↓b19_101, ↓b19_110, ↓b19_117, ↓b19_122, ↓b19_127, ↓b19_136, ↓b19_141, ↓b19_145, ↓b19_148, ↓b19_152, ↓b19_157, ↓b19_162, ↓b19_166, ↓b19_167, ↓b19_176, ↓b19_180, ↓b19_183, ↓b19_187, ↓b19_188, ↓b19_196, ↓b19_106, ↓b19_132, b19_0, b19_12, b19_39, b19_42, b19_52, b19_55, b19_60, b19_67, b19_76, b19_80, b19_81, b19_92, b19_101, b19_110, b19_117, b19_122, b19_127, b19_136, b19_141, b19_145, b19_148, b19_152, b19_157, b19_162, b19_166, b19_167, b19_176, b19_180, b19_183, b19_187, b19_188, b19_196, b19_106, b19_132, nLE0, layE2, layE3, hk, n3_34, n3_29, n3_21, n3_22, n3_23, n3_20, I32, ↓xb, xb, ps, lpad, lat, aok2, rd2, aaok, aav, alok, alen, aok, akk, csum, isLg, cmpI, clsE, Option.elim, eq_self, List.mem_cons, List.not_mem_nil, or_false, false_or, List.append_nil, List.nil_append, List.cons_append, List.append_eq, List.replicate, List.length_cons, List.length_nil, List.map_cons, List.map_nil, ↓reduceIte, reduceCtorEq, if_true, if_false, true_and, and_true, false_and, and_false, and_self, not_true_eq_false, not_false_eq_true, forall_const, true_implies, false_implies, implies_true, Nat.reduceAdd, Nat.reduceSub, Nat.reduceLT, Nat.reduceLeDiff, Nat.reduceEqDiff, Nat.reduceMul, Nat.reducePow, Nat.add_one_ne_zero, Nat.add_one_sub_one, Nat.add_zero, Nat.zero_add, Int.reduceLT, Int.reduceLE, Int.reduceNeg, Int.reduceAdd, Int.reduceSub, Int.reduceToNat, Int.reduceEq, Int.reduceMul, Int.reducePow, Int.cast_ofNat_Int, Int.toNat_natCast, ne_eq, Bool.false_eq_true, true_or, or_true, or_self, Nat.not_lt_zero, ite_e0, ite_e1, lc_lt, lc_ge, lc_gt, lc_le, lc_eq, Classical.not_not]
            with_reducible repeat' (first | (refine And.intro ?_ ?_) | intro _)
            all_goals try omega
            all_goals first | omega | exact r
    · have ef : pzK t N p c Cs.length (hdB Cs) = .inl (1 + 8 * bls t N p) := by unfold pzK; rw [if_neg kin]
      have r := bad _ ef (up σ' 7 8 0 0 (1 + 8 * ((bls t N p : Nat) : Int))) upp_eq (same.refl.put (S := SRk o) rfl)
      have g101 : ∀ z : Int, TT G w w w k (0, 0) 19 101 [some (vr 7 0 0), l1, l2, some (vi n3), some (vi a), some (vi 1), some (vi (Cs.length : Nat)), some (vi z)] [] σ' Q := fun z => by
        refine TT_vb ok19 (sm3_ok G w) 60 [106] ?_
        simp -implicitDefEqProofs only [↓b19_0, ↓b19_12, ↓b19_39, ↓b19_42, ↓b19_52, ↓b19_55, ↓b19_60, ↓b19_67, ↓b19_76, ↓b19_80, ↓b19_81, ↓b19_92, ↓b19_101, ↓b19_110, ↓b19_117, ↓b19_122, ↓b19_127, ↓b19_136, ↓b19_141, ↓b19_145, ↓b19_148, ↓b19_152, ↓b19_157, ↓b19_162, ↓b19_166, ↓b19_167, ↓b19_176, ↓b19_180, ↓b19_183, ↓b19_187, ↓b19_188, ↓b19_196, ↓b19_106, ↓b19_132, b19_0, b19_12, b19_39, b19_42, b19_52, b19_55, b19_60, b19_67, b19_76, b19_80, b19_81, b19_92, b19_101, b19_110, b19_117, b19_122, b19_127, b19_136, b19_141, b19_145, b19_148, b19_152, b19_157, b19_162, b19_166, b19_167, b19_176, b19_180, b19_183, b19_187, b19_188, b19_196, b19_106, b19_132, nLE0, layE2, layE3, hk, n3_34, n3_29, n3_21, n3_22, n3_23, n3_20, I32, ↓xb, xb, ps, lpad, lat, aok2, rd2, aaok, aav, alok, alen, aok, akk, csum, isLg, cmpI, clsE, Option.elim, eq_self, List.mem_cons, List.not_mem_nil, or_false, false_or, List.append_nil, List.nil_append, List.cons_append, List.append_eq, List.replicate, List.length_cons, List.length_nil, List.map_cons, List.map_nil, ↓reduceIte, reduceCtorEq, if_true, if_false, true_and, and_true, false_and, and_false, and_self, not_true_eq_false, not_false_eq_true, forall_const, true_implies, false_implies, implies_true, Nat.reduceAdd, Nat.reduceSub, Nat.reduceLT, Nat.reduceLeDiff, Nat.reduceEqDiff, Nat.reduceMul, Nat.reducePow, Nat.add_one_ne_zero, Nat.add_one_sub_one, Nat.add_zero, Nat.zero_add, Int.reduceLT, Int.reduceLE, Int.reduceNeg, Int.reduceAdd, Int.reduceSub, Int.reduceToNat, Int.reduceEq, Int.reduceMul, Int.reducePow, Int.cast_ofNat_Int, Int.toNat_natCast, ne_eq, Bool.false_eq_true, true_or, or_true, or_self, Nat.not_lt_zero, ite_e0, ite_e1, lc_lt, lc_ge, lc_gt, lc_le, lc_eq, Classical.not_not]
        with_reducible repeat' (first | (refine And.intro ?_ ?_) | intro _)
        all_goals try omega
        all_goals first | omega | skip
        refine kc_refuse (x := 0) (b := bls t N p) (by omega) (by omega) e5 (by omega) ?_
        rw [Int.add_zero]
        simp -implicitDefEqProofs only [↓b19_0, ↓b19_12, ↓b19_39, ↓b19_42, ↓b19_52, ↓b19_55, ↓b19_60, ↓b19_67, ↓b19_76, ↓b19_80, ↓b19_81, ↓b19_92, ↓b19_101, ↓b19_110, ↓b19_117, ↓b19_122, ↓b19_127, ↓b19_136, ↓b19_141, ↓b19_145, ↓b19_148, ↓b19_152, ↓b19_157, ↓b19_162, ↓b19_166, ↓b19_167, ↓b19_176, ↓b19_180, ↓b19_183, ↓b19_187, ↓b19_188, ↓b19_196, ↓b19_106, ↓b19_132, b19_0, b19_12, b19_39, b19_42, b19_52, b19_55, b19_60, b19_67, b19_76, b19_80, b19_81, b19_92, b19_101, b19_110, b19_117, b19_122, b19_127, b19_136, b19_141, b19_145, b19_148, b19_152, b19_157, b19_162, b19_166, b19_167, b19_176, b19_180, b19_183, b19_187, b19_188, b19_196, b19_106, b19_132, nLE0, layE2, layE3, hk, n3_34, n3_29, n3_21, n3_22, n3_23, n3_20, I32, ↓xb, xb, ps, lpad, lat, aok2, rd2, aaok, aav, alok, alen, aok, akk, csum, isLg, cmpI, clsE, Option.elim, eq_self, List.mem_cons, List.not_mem_nil, or_false, false_or, List.append_nil, List.nil_append, List.cons_append, List.append_eq, List.replicate, List.length_cons, List.length_nil, List.map_cons, List.map_nil, ↓reduceIte, reduceCtorEq, if_true, if_false, true_and, and_true, false_and, and_false, and_self, not_true_eq_false, not_false_eq_true, forall_const, true_implies, false_implies, implies_true, Nat.reduceAdd, Nat.reduceSub, Nat.reduceLT, Nat.reduceLeDiff, Nat.reduceEqDiff, Nat.reduceMul, Nat.reducePow, Nat.add_one_ne_zero, Nat.add_one_sub_one, Nat.add_zero, Nat.zero_add, Int.reduceLT, Int.reduceLE, Int.reduceNeg, Int.reduceAdd, Int.reduceSub, Int.reduceToNat, Int.reduceEq, Int.reduceMul, Int.reducePow, Int.cast_ofNat_Int, Int.toNat_natCast, ne_eq, Bool.false_eq_true, true_or, or_true, or_self, Nat.not_lt_zero, ite_e0, ite_e1, lc_lt, lc_ge, lc_gt, lc_le, lc_eq, Classical.not_not]
        with_reducible repeat' (first | (refine And.intro ?_ ?_) | intro _)
        all_goals try omega
        all_goals first | omega | skip
        refine TT_vn ok19 (sm3_ok G w) 60 2 [152] ?_
        simp -implicitDefEqProofs only [↓b19_0, ↓b19_12, ↓b19_39, ↓b19_42, ↓b19_52, ↓b19_55, ↓b19_60, ↓b19_67, ↓b19_76, ↓b19_80, ↓b19_81, ↓b19_92, ↓b19_101, ↓b19_110, ↓b19_117, ↓b19_122, ↓b19_127, ↓b19_136, ↓b19_141, ↓b19_145, ↓b19_148, ↓b19_152, ↓b19_157, ↓b19_162, ↓b19_166, ↓b19_167, ↓b19_176, ↓b19_180, ↓b19_183, ↓b19_187, ↓b19_188, ↓b19_196, ↓b19_106, ↓b19_132, b19_0, b19_12, b19_39, b19_42, b19_52, b19_55, b19_60, b19_67, b19_76, b19_80, b19_81, b19_92, b19_101, b19_110, b19_117, b19_122, b19_127, b19_136, b19_141, b19_145, b19_148, b19_152, b19_157, b19_162, b19_166, b19_167, b19_176, b19_180, b19_183, b19_187, b19_188, b19_196, b19_106, b19_132, nLE0, layE2, layE3, hk, n3_34, n3_29, n3_21, n3_22, n3_23, n3_20, I32, ↓xb, xb, ps, lpad, lat, aok2, rd2, aaok, aav, alok, alen, aok, akk, csum, isLg, cmpI, clsE, Option.elim, eq_self, List.mem_cons, List.not_mem_nil, or_false, false_or, List.append_nil, List.nil_append, List.cons_append, List.append_eq, List.replicate, List.length_cons, List.length_nil, List.map_cons, List.map_nil, ↓reduceIte, reduceCtorEq, if_true, if_false, true_and, and_true, false_and, and_false, and_self, not_true_eq_false, not_false_eq_true, forall_const, true_implies, false_implies, implies_true, Nat.reduceAdd, Nat.reduceSub, Nat.reduceLT, Nat.reduceLeDiff, Nat.reduceEqDiff, Nat.reduceMul, Nat.reducePow, Nat.add_one_ne_zero, Nat.add_one_sub_one, Nat.add_zero, Nat.zero_add, Int.reduceLT, Int.reduceLE, Int.reduceNeg, Int.reduceAdd, Int.reduceSub, Int.reduceToNat, Int.reduceEq, Int.reduceMul, Int.reducePow, Int.cast_ofNat_Int, Int.toNat_natCast, ne_eq, Bool.false_eq_true, true_or, or_true, or_self, Nat.not_lt_zero, ite_e0, ite_e1, lc_lt, lc_ge, lc_gt, lc_le, lc_eq, Classical.not_not]
        with_reducible repeat' (first | (refine And.intro ?_ ?_) | intro _)
        all_goals try omega
        all_goals first | omega | exact r z | rfl
      have k18 : ¬ tk t N p = 18 := by omega
      by_cases l15 : tk t N p < 15
      · refine TT_vb ok19 (sm3_ok G w) 60 [101, 110] ?_
        simp -implicitDefEqProofs only [↓b19_0, ↓b19_12, ↓b19_39, ↓b19_42, ↓b19_52, ↓b19_55, ↓b19_60, ↓b19_67, ↓b19_76, ↓b19_80, ↓b19_81, ↓b19_92, ↓b19_101, ↓b19_110, ↓b19_117, ↓b19_122, ↓b19_127, ↓b19_136, ↓b19_141, ↓b19_145, ↓b19_148, ↓b19_152, ↓b19_157, ↓b19_162, ↓b19_166, ↓b19_167, ↓b19_176, ↓b19_180, ↓b19_183, ↓b19_187, ↓b19_188, ↓b19_196, ↓b19_106, ↓b19_132, b19_0, b19_12, b19_39, b19_42, b19_52, b19_55, b19_60, b19_67, b19_76, b19_80, b19_81, b19_92, b19_101, b19_110, b19_117, b19_122, b19_127, b19_136, b19_141, b19_145, b19_148, b19_152, b19_157, b19_162, b19_166, b19_167, b19_176, b19_180, b19_183, b19_187, b19_188, b19_196, b19_106, b19_132, nLE0, layE2, layE3, n13, e4, k18, l15, n3_34, n3_29, n3_21, n3_22, n3_23, n3_20, I32, ↓xb, xb, ps, lpad, lat, aok2, rd2, aaok, aav, alok, alen, aok, akk, csum, isLg, cmpI, clsE, Option.elim, eq_self, List.mem_cons, List.not_mem_nil, or_false, false_or, List.append_nil, List.nil_append, List.cons_append, List.append_eq, List.replicate, List.length_cons, List.length_nil, List.map_cons, List.map_nil, ↓reduceIte, reduceCtorEq, if_true, if_false, true_and, and_true, false_and, and_false, and_self, not_true_eq_false, not_false_eq_true, forall_const, true_implies, false_implies, implies_true, Nat.reduceAdd, Nat.reduceSub, Nat.reduceLT, Nat.reduceLeDiff, Nat.reduceEqDiff, Nat.reduceMul, Nat.reducePow, Nat.add_one_ne_zero, Nat.add_one_sub_one, Nat.add_zero, Nat.zero_add, Int.reduceLT, Int.reduceLE, Int.reduceNeg, Int.reduceAdd, Int.reduceSub, Int.reduceToNat, Int.reduceEq, Int.reduceMul, Int.reducePow, Int.cast_ofNat_Int, Int.toNat_natCast, ne_eq, Bool.false_eq_true, true_or, or_true, or_self, Nat.not_lt_zero, ite_e0, ite_e1, lc_lt, lc_ge, lc_gt, lc_le, lc_eq, Classical.not_not]
        with_reducible repeat' (first | (refine And.intro ?_ ?_) | intro _)
        all_goals try omega
        all_goals first | omega | exact g101 0
      · have g18 : ¬ tk t N p ≤ 18 := by omega
        refine TT_vb ok19 (sm3_ok G w) 60 [101, 110] ?_
        simp -implicitDefEqProofs only [↓b19_0, ↓b19_12, ↓b19_39, ↓b19_42, ↓b19_52, ↓b19_55, ↓b19_60, ↓b19_67, ↓b19_76, ↓b19_80, ↓b19_81, ↓b19_92, ↓b19_101, ↓b19_110, ↓b19_117, ↓b19_122, ↓b19_127, ↓b19_136, ↓b19_141, ↓b19_145, ↓b19_148, ↓b19_152, ↓b19_157, ↓b19_162, ↓b19_166, ↓b19_167, ↓b19_176, ↓b19_180, ↓b19_183, ↓b19_187, ↓b19_188, ↓b19_196, ↓b19_106, ↓b19_132, b19_0, b19_12, b19_39, b19_42, b19_52, b19_55, b19_60, b19_67, b19_76, b19_80, b19_81, b19_92, b19_101, b19_110, b19_117, b19_122, b19_127, b19_136, b19_141, b19_145, b19_148, b19_152, b19_157, b19_162, b19_166, b19_167, b19_176, b19_180, b19_183, b19_187, b19_188, b19_196, b19_106, b19_132, nLE0, layE2, layE3, n13, e4, k18, l15, g18, n3_34, n3_29, n3_21, n3_22, n3_23, n3_20, I32, ↓xb, xb, ps, lpad, lat, aok2, rd2, aaok, aav, alok, alen, aok, akk, csum, isLg, cmpI, clsE, Option.elim, eq_self, List.mem_cons, List.not_mem_nil, or_false, false_or, List.append_nil, List.nil_append, List.cons_append, List.append_eq, List.replicate, List.length_cons, List.length_nil, List.map_cons, List.map_nil, ↓reduceIte, reduceCtorEq, if_true, if_false, true_and, and_true, false_and, and_false, and_self, not_true_eq_false, not_false_eq_true, forall_const, true_implies, false_implies, implies_true, Nat.reduceAdd, Nat.reduceSub, Nat.reduceLT, Nat.reduceLeDiff, Nat.reduceEqDiff, Nat.reduceMul, Nat.reducePow, Nat.add_one_ne_zero, Nat.add_one_sub_one, Nat.add_zero, Nat.zero_add, Int.reduceLT, Int.reduceLE, Int.reduceNeg, Int.reduceAdd, Int.reduceSub, Int.reduceToNat, Int.reduceEq, Int.reduceMul, Int.reducePow, Int.cast_ofNat_Int, Int.toNat_natCast, ne_eq, Bool.false_eq_true, true_or, or_true, or_self, Nat.not_lt_zero, ite_e0, ite_e1, lc_lt, lc_ge, lc_gt, lc_le, lc_eq, Classical.not_not]
        with_reducible repeat' (first | (refine And.intro ?_ ?_) | intro _)
        all_goals try omega
        all_goals first | omega | exact g101 0
abbrev SRr (o : Nat) : Nat → Nat → Bool := fun a f => (a == 7) || (a == o && (f == 1 || f == 2 || f == 3 || f == 4 || f == 5 || f == 6 || f == 7 || f == 8))
set_option maxRecDepth 100000 in
set_option maxHeartbeats 1000000 in
theorem kc_rule (ht : TR t) (ho : 12 ≤ o ∧ o ≤ 20) (hw : o = 12 ∨ w o = true) (hk : 125 ≤ k) (hN : N ≤ 400) (hb : ∀ i, i < N → σ 0 6 0 i = t i)
    (qf : ∀ f, pzR t N 13 0 0 [] = .inl f → ∀ σ', same (SRr o) σ σ' → dec (σ' 7 1 0 0) = vr 0 6 0 → dec (σ' 7 9 0 0) = vr o 0 0 → Q (some (vi f)) σ')
    (qk : ∀ Cs, pzR t N 13 0 0 [] = .inr Cs → ∀ σ', RcF σ' o Cs → same (SRr o) σ σ' → dec (σ' 7 1 0 0) = vr 0 6 0 → dec (σ' 7 9 0 0) = vr o 0 0 → Q (some (vi 0)) σ') : CC G w w k (0, 0) 19 [vr 7 0 0, vr o 0 0, vr 0 6 0, vi N] σ Q := by
  have wf9 := wfo (o := o) (w := w) ho hw
  have h22 : o < 22 := by omega
  have hcl := ro_cls ho
  have wf6 : wfv w (vr 0 6 0) := wf06
  have mn : min (N : Int) 400 = N := by omega
  have deo : dec (enc o 0 0) = vr o 0 0 := dec_enc o 0 0 (by omega) (by omega)
  have de6 : dec (enc 0 6 0) = vr 0 6 0 := dec_enc 0 6 0 (by omega) (by omega)
  have e7 : ∀ (M : Mem) (f : Nat), up (up (up M o 1 0 0 0) o 2 0 0 0) o 3 0 0 0 7 f 0 0 = M 7 f 0 0 := fun M f => by
    unfold up
    rw [if_neg (by omega), if_neg (by omega), if_neg (by omega)]
  have e0 : ∀ (M : Mem) (i : Nat), up (up (up M o 1 0 0 0) o 2 0 0 0) o 3 0 0 0 0 6 0 i = M 0 6 0 i := fun M f => by
    unfold up
    rw [if_neg (by omega), if_neg (by omega), if_neg (by omega)]
  have oo : ∀ f, S7n o f = false := fun f => by show (o == 7 && _) = false; rw [show (o == 7) = false by simp; omega]; rfl
  have go : ∀ M : Mem, (∀ a f, a ≠ 7 → ∀ r c, M a f r c = σ a f r c) → dec (M 7 1 0 0) = vr 0 6 0 → M 7 2 0 0 = N → M 7 3 0 0 = 0 → M 7 7 0 0 = 0 → M 7 8 0 0 = 0 → dec (M 7 9 0 0) = vr o 0 0 → ∀ σ3, TKs σ3 t N (bls t N 0) → same S7n (up (up (up M o 1 0 0 0) o 2 0 0 0) o 3 0 0 0) σ3 → TT G w w w k (0, 0) 19 55 [some (vr 7 0 0), some (vr o 0 0), some (vr 0 6 0), some (vi N), some (vi 0), some (vi 1), some (vi 0), none] [] σ3 Q := fun M hM m1 m2 m3 m7 m8 m9 σ3 K3 s3 => by
    have hs : same (SRr o) σ σ3 := fun a f hf r c => by
      have z' : ((a == 7) || (a == o && (f == 1 || f == 2 || f == 3 || f == 4 || f == 5 || f == 6 || f == 7 || f == 8))) = false := hf
      simp only [Bool.or_eq_false_iff, Bool.and_eq_false_iff, beq_eq_false_iff_ne, ne_eq] at z'
      rw [s3 a f (by show (a == 7 && _) = false; rw [show (a == 7) = false by simp; exact z'.1]; rfl)]
      unfold up
      rw [if_neg (by omega), if_neg (by omega), if_neg (by omega), hM a f z'.1]
    have kr : ∀ σ4, same (SRk o) σ3 σ4 → same (SRr o) σ σ4 := fun σ4 s4 => hs.trans (s4.mono (fun a f z => by
      have z' : ((a == 7 && (f == 3 || f == 4 || f == 5 || f == 6 || f == 7 || f == 8)) || (a == o && (f == 1 || f == 2 || f == 3 || f == 4 || f == 5 || f == 6 || f == 7 || f == 8))) = true := z
      show ((a == 7) || (a == o && (f == 1 || f == 2 || f == 3 || f == 4 || f == 5 || f == 6 || f == 7 || f == 8))) = true
      simp only [Bool.and_eq_true, Bool.or_eq_true] at z' ⊢
      rcases z' with z' | z'
      · exact Or.inl z'.1
      · exact Or.inr z'))
    have T3 : TXt σ3 t N := ⟨by rw [s3 7 1 rfl, e7]; exact m1, by rw [s3 7 2 rfl, e7]; exact m2, hN, fun i hi => by rw [s3 0 6 rfl, e0, hM 0 6 (by omega)]; exact hb i hi⟩
    have R3 : RSt σ3 t N o 0 0 [] := ⟨T3, K3, by rw [s3 7 7 rfl, e7]; exact m7, by rw [s3 7 9 rfl, e7]; exact m9, by rw [s3 o 3 (oo 3), upp_eq]; rfl, fun i hi => absurd hi (by simp), by rw [s3 7 8 rfl, e7]; exact m8⟩
    have o7 : (o == 7) = false := by simp; omega
    have n1 : SRk o 7 1 = false := by
      show ((7 == 7 && (1 == 3 || 1 == 4 || 1 == 5 || 1 == 6 || 1 == 7 || 1 == 8)) || (7 == o && (1 == 1 || 1 == 2 || 1 == 3 || 1 == 4 || 1 == 5 || 1 == 6 || 1 == 7 || 1 == 8))) = false
      rw [show (7 == o) = false by simp; omega]; rfl
    have n9 : SRk o 7 9 = false := by
      show ((7 == 7 && (9 == 3 || 9 == 4 || 9 == 5 || 9 == 6 || 9 == 7 || 9 == 8)) || (7 == o && (9 == 1 || 9 == 2 || 9 == 3 || 9 == 4 || 9 == 5 || 9 == 6 || 9 == 7 || 9 == 8))) = false
      rw [show (7 == o) = false by simp; omega]; rfl
    have k1 : ∀ σ4, same (SRk o) σ3 σ4 → dec (σ4 7 1 0 0) = vr 0 6 0 := fun σ4 s4 => by rw [s4 7 1 n1, s3 7 1 rfl, e7]; exact m1
    have k9 : ∀ σ4, same (SRk o) σ3 σ4 → dec (σ4 7 9 0 0) = vr o 0 0 := fun σ4 s4 => by rw [s4 7 9 n9, s3 7 9 rfl, e7]; exact m9
    exact kc_rl (σ := σ3) ht ho hw (by omega) (fun f ef σ4 s4 => qf f ef σ4 (kr σ4 s4) (k1 σ4 s4) (k9 σ4 s4)) (fun Cs ec σ4 r4 s4 => qk Cs ec σ4 r4 (kr σ4 s4) (k1 σ4 s4) (k9 σ4 s4)) 13 0 0 [] [] σ3 _ _ _ (Nat.zero_le _) (by omega) (Nat.le_refl _) (Nat.zero_le _) (Nat.le_refl _) R3 ⟨by rw [s3 o 2 (oo 2), upp_nf (by decide), upp_eq]; rfl, fun j hj => absurd hj (by simp [smC])⟩ (by rw [s3 o 1 (oo 1), upp_nf (by decide), upp_nf (by decide), upp_eq]; rfl) rfl same.refl
  refine CC_vb ok19 (by decide) (sm3_ok G w) 60 [55] (Nat.le_of_ble_eq_true rfl) ?_
  simp -implicitDefEqProofs only [↓b19_0, ↓b19_12, ↓b19_39, ↓b19_42, ↓b19_52, ↓b19_55, ↓b19_60, ↓b19_67, ↓b19_76, ↓b19_80, ↓b19_81, ↓b19_92, ↓b19_101, ↓b19_110, ↓b19_117, ↓b19_122, ↓b19_127, ↓b19_136, ↓b19_141, ↓b19_145, ↓b19_148, ↓b19_152, ↓b19_157, ↓b19_162, ↓b19_166, ↓b19_167, ↓b19_176, ↓b19_180, ↓b19_183, ↓b19_187, ↓b19_188, ↓b19_196, ↓b19_106, ↓b19_132, b19_0, b19_12, b19_39, b19_42, b19_52, b19_55, b19_60, b19_67, b19_76, b19_80, b19_81, b19_92, b19_101, b19_110, b19_117, b19_122, b19_127, b19_136, b19_141, b19_145, b19_148, b19_152, b19_157, b19_162, b19_166, b19_167, b19_176, b19_180, b19_183, b19_187, b19_188, b19_196, b19_106, b19_132, nLE0, layE2, layE3, wf9, wf6, hcl, h22, layE7, mn, up_rd, deo, n3_34, n3_29, n3_21, n3_22, n3_23, n3_20, I32, ↓xb, xb, ps, lpad, lat, aok2, rd2, aaok, aav, alok, alen, aok, akk, csum, isLg, cmpI, clsE, Option.elim, eq_self, List.mem_cons, List.not_mem_nil, or_false, false_or, List.append_nil, List.nil_append, List.cons_append, List.append_eq, List.replicate, List.length_cons, List.length_nil, List.map_cons, List.map_nil, ↓reduceIte, reduceCtorEq, if_true, if_false, true_and, and_true, false_and, and_false, and_self, not_true_eq_false, not_false_eq_true, forall_const, true_implies, false_implies, implies_true, Nat.reduceAdd, Nat.reduceSub, Nat.reduceLT, Nat.reduceLeDiff, Nat.reduceEqDiff, Nat.reduceMul, Nat.reducePow, Nat.add_one_ne_zero, Nat.add_one_sub_one, Nat.add_zero, Nat.zero_add, Int.reduceLT, Int.reduceLE, Int.reduceNeg, Int.reduceAdd, Int.reduceSub, Int.reduceToNat, Int.reduceEq, Int.reduceMul, Int.reducePow, Int.cast_ofNat_Int, Int.toNat_natCast, ne_eq, Bool.false_eq_true, true_or, or_true, or_self, Nat.not_lt_zero, ite_e0, ite_e1, lc_lt, lc_ge, lc_gt, lc_le, lc_eq, Classical.not_not]
  with_reducible repeat' (first | (refine And.intro ?_ ?_) | intro _)
  all_goals try omega
  all_goals first | omega | assumption | skip
  refine CC_vb ok34 (by decide) (sm3_ok G w) 60 [] (Nat.le_of_ble_eq_true rfl) ?_
  simp -implicitDefEqProofs only [↓b34_0, b34_0, nLE0, layE3, hcl, h22, I32, ↓xb, xb, ps, lpad, lat, aok2, rd2, aaok, aav, alok, alen, aok, akk, csum, isLg, cmpI, clsE, Option.elim, eq_self, List.mem_cons, List.not_mem_nil, or_false, false_or, List.append_nil, List.nil_append, List.cons_append, List.append_eq, List.replicate, List.length_cons, List.length_nil, List.map_cons, List.map_nil, ↓reduceIte, reduceCtorEq, if_true, if_false, true_and, and_true, false_and, and_false, and_self, not_true_eq_false, not_false_eq_true, forall_const, true_implies, false_implies, implies_true, Nat.reduceAdd, Nat.reduceSub, Nat.reduceLT, Nat.reduceLeDiff, Nat.reduceEqDiff, Nat.reduceMul, Nat.reducePow, Nat.add_one_ne_zero, Nat.add_one_sub_one, Nat.add_zero, Nat.zero_add, Int.reduceLT, Int.reduceLE, Int.reduceNeg, Int.reduceAdd, Int.reduceSub, Int.reduceToNat, Int.reduceEq, Int.reduceMul, Int.reducePow, Int.cast_ofNat_Int, Int.toNat_natCast, ne_eq, Bool.false_eq_true, true_or, or_true, or_self, Nat.not_lt_zero, ite_e0, ite_e1, lc_lt, lc_ge, lc_gt, lc_le, lc_eq, Classical.not_not]
  with_reducible repeat' (first | (refine And.intro ?_ ?_) | intro _)
  all_goals try omega
  all_goals first | omega | skip
  obtain ⟨M, hM⟩ : ∃ M, M = up (up (up (up (up (up σ 7 1 0 0 (enc 0 6 0)) 7 2 0 0 ((N : Nat) : Int)) 7 3 0 0 0) 7 7 0 0 0) 7 8 0 0 0) 7 9 0 0 (enc o 0 0) := ⟨_, rfl⟩
  rw [← hM]
  have f0 : ∀ a f, a ≠ 7 → ∀ r c, M a f r c = σ a f r c := fun a f h r c => by
    rw [hM]; unfold up
    rw [if_neg (by omega), if_neg (by omega), if_neg (by omega), if_neg (by omega), if_neg (by omega), if_neg (by omega)]
  have f1 : dec (M 7 1 0 0) = vr 0 6 0 := by rw [hM, upp_nf (by decide), upp_nf (by decide), upp_nf (by decide), upp_nf (by decide), upp_nf (by decide), upp_eq]; exact de6
  have f2 : M 7 2 0 0 = N := by rw [hM, upp_nf (by decide), upp_nf (by decide), upp_nf (by decide), upp_nf (by decide), upp_eq]
  have f3 : M 7 3 0 0 = 0 := by rw [hM, upp_nf (by decide), upp_nf (by decide), upp_nf (by decide), upp_eq]
  have f7 : M 7 7 0 0 = 0 := by rw [hM, upp_nf (by decide), upp_nf (by decide), upp_eq]
  have f8 : M 7 8 0 0 = 0 := by rw [hM, upp_nf (by decide), upp_eq]
  have f9 : dec (M 7 9 0 0) = vr o 0 0 := by rw [hM, upp_eq]; exact deo
  clear hM
  refine kc_tok (p := 0) (t := t) (N := N) ⟨by rw [e7]; exact f1, by rw [e7]; exact f2, hN, fun i hi => by rw [e0, f0 0 6 (by omega)]; exact hb i hi⟩ ht (by omega) (Nat.zero_le _) (by rw [e7]; exact f3) (fun σ3 K3 s3 => ?_)
  have r := go M f0 f1 f2 f3 f7 f8 f9 σ3 K3 s3
  simp -implicitDefEqProofs only [↓b19_0, ↓b19_12, ↓b19_39, ↓b19_42, ↓b19_52, ↓b19_55, ↓b19_60, ↓b19_67, ↓b19_76, ↓b19_80, ↓b19_81, ↓b19_92, ↓b19_101, ↓b19_110, ↓b19_117, ↓b19_122, ↓b19_127, ↓b19_136, ↓b19_141, ↓b19_145, ↓b19_148, ↓b19_152, ↓b19_157, ↓b19_162, ↓b19_166, ↓b19_167, ↓b19_176, ↓b19_180, ↓b19_183, ↓b19_187, ↓b19_188, ↓b19_196, ↓b19_106, ↓b19_132, b19_0, b19_12, b19_39, b19_42, b19_52, b19_55, b19_60, b19_67, b19_76, b19_80, b19_81, b19_92, b19_101, b19_110, b19_117, b19_122, b19_127, b19_136, b19_141, b19_145, b19_148, b19_152, b19_157, b19_162, b19_166, b19_167, b19_176, b19_180, b19_183, b19_187, b19_188, b19_196, b19_106, b19_132, nLE0, layE2, layE3, hk, n3_34, n3_29, n3_21, n3_22, n3_23, n3_20, I32, ↓xb, xb, ps, lpad, lat, aok2, rd2, aaok, aav, alok, alen, aok, akk, csum, isLg, cmpI, clsE, Option.elim, eq_self, List.mem_cons, List.not_mem_nil, or_false, false_or, List.append_nil, List.nil_append, List.cons_append, List.append_eq, List.replicate, List.length_cons, List.length_nil, List.map_cons, List.map_nil, ↓reduceIte, reduceCtorEq, if_true, if_false, true_and, and_true, false_and, and_false, and_self, not_true_eq_false, not_false_eq_true, forall_const, true_implies, false_implies, implies_true, Nat.reduceAdd, Nat.reduceSub, Nat.reduceLT, Nat.reduceLeDiff, Nat.reduceEqDiff, Nat.reduceMul, Nat.reducePow, Nat.add_one_ne_zero, Nat.add_one_sub_one, Nat.add_zero, Nat.zero_add, Int.reduceLT, Int.reduceLE, Int.reduceNeg, Int.reduceAdd, Int.reduceSub, Int.reduceToNat, Int.reduceEq, Int.reduceMul, Int.reducePow, Int.cast_ofNat_Int, Int.toNat_natCast, ne_eq, Bool.false_eq_true, true_or, or_true, or_self, Nat.not_lt_zero, ite_e0, ite_e1, lc_lt, lc_ge, lc_gt, lc_le, lc_eq, Classical.not_not]
  with_reducible repeat' (first | (refine And.intro ?_ ?_) | intro _)
  all_goals try omega
  all_goals first | omega | exact r
end RLD

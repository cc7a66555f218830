/-! 9d.clausec: a hold, a clause (class) -/
def CcC (σ : Mem) (o : Nat) (LL : List (Nat × Int)) (j : Nat) (x : Cl) : Prop := ∃ a b e : Nat, σ o 4 0 j = x.1 + 15 ∧ σ o 5 0 j = ((a : Nat) : Int) ∧ σ o 6 0 j = ((b : Nat) : Int) ∧ σ o 7 0 j = ((e : Nat) : Int) ∧ Seg LL a b e x.2.2.1 x.2.2.2.1
def RcC (σ : Mem) (o : Nat) (LL : List (Nat × Int)) (Ds : List Cl) : Prop := σ o 2 0 0 = ((Ds.length : Nat) : Int) ∧ ∀ j, j < Ds.length → CcC σ o LL j (Ds.getD j d0)
abbrev SRk (o : Nat) : Nat → Nat → Bool := fun a f => (a == 7 && (f == 3 || f == 4 || f == 5 || f == 6 || f == 7 || f == 8)) || (a == o && (f == 1 || f == 2 || f == 3 || f == 4 || f == 5 || f == 6 || f == 7 || f == 8))
theorem SR_k {o : Nat} {σ σ' : Mem} (h : same (SR o) σ σ') : same (SRk o) σ σ' := h.mono (fun a f z => by
  have z' : ((a == 7 && (f == 3 || f == 4 || f == 5 || f == 6 || f == 7 || f == 8)) || (a == o && (f == 3 || f == 8))) = true := z
  show ((a == 7 && (f == 3 || f == 4 || f == 5 || f == 6 || f == 7 || f == 8)) || (a == o && (f == 1 || f == 2 || f == 3 || f == 4 || f == 5 || f == 6 || f == 7 || f == 8))) = true
  simp only [Bool.and_eq_true, Bool.or_eq_true] at z' ⊢
  rcases z' with z' | ⟨z1, z2 | z2⟩
  · exact Or.inl z'
  · exact Or.inr ⟨z1, by simp [z2]⟩
  · exact Or.inr ⟨z1, by simp [z2]⟩)
section CLC
variable {G : Gl} {w : Wd} {k : Nat} {σ : Mem} {Q : Option AV → Mem → Prop} {t : Nat → Int} {N o : Nat}
/-- the reader and the pieces stay where only the rule's clauses change -/
theorem RSt.kp {p c : Nat} {LL : List (Nat × Int)} (R : RSt σ t N o p c LL) (ho : 12 ≤ o ∧ o ≤ 20) {σ' : Mem} (h : ∀ a f, ¬ (a = o ∧ (f = 1 ∨ f = 2 ∨ f = 4 ∨ f = 5 ∨ f = 6 ∨ f = 7)) → ∀ r c, σ' a f r c = σ a f r c) : RSt σ' t N o p c LL := by
  obtain ⟨T, ⟨k3, k4, k5, k6⟩, c7, d9, r3, r8, r9⟩ := R
  exact ⟨⟨by rw [h 7 1 (by omega)]; exact T.1, (h 7 2 (by omega) 0 0).trans T.2.1, T.2.2.1, fun i hi => (h 0 6 (by omega) 0 i).trans (T.2.2.2 i hi)⟩, ⟨(h 7 3 (by omega) 0 0).trans k3, (h 7 4 (by omega) 0 0).trans k4, (h 7 5 (by omega) 0 0).trans k5, fun z => (h 7 6 (by omega) 0 0).trans (k6 z)⟩, (h 7 7 (by omega) 0 0).trans c7, by rw [h 7 9 (by omega)]; exact d9, (h o 3 (by omega) 0 0).trans r3, fun i hi => (h o 8 (by omega) 0 i).trans (r8 i hi), (h 7 8 (by omega) 0 0).trans r9⟩
theorem RcC.kp {LL M : List (Nat × Int)} {Ds : List Cl} (R : RcC σ o LL Ds) {σ' : Mem} (h : ∀ f, (f = 2 ∨ f = 4 ∨ f = 5 ∨ f = 6 ∨ f = 7) → ∀ c, σ' o f 0 c = σ o f 0 c) : RcC σ' o (LL ++ M) Ds := by
  refine ⟨(h 2 (by omega) 0).trans R.1, fun j hj => ?_⟩
  obtain ⟨a, b, e, h1, h2, h3, h4, h5⟩ := R.2 j hj
  exact ⟨a, b, e, (h 4 (by omega) j).trans h1, (h 5 (by omega) j).trans h2, (h 6 (by omega) j).trans h3, (h 7 (by omega) j).trans h4, h5.app⟩
set_option maxRecDepth 100000 in
set_option maxHeartbeats 1000000 in
theorem kc_36 (ho : 12 ≤ o ∧ o ≤ 20) (hk : 4 ≤ k) {n m : Nat} (hn : n < 12) (g2 : σ o 2 0 0 = ((n : Nat) : Int) + 1) (g3 : σ o 3 0 0 = ((m : Nat) : Int)) (q : Q none (up σ o 6 0 n ((m : Nat) : Int))) : CC G w w k (0, 0) 36 [vr o 0 0] σ Q := by
  have h22 : o < 22 := by omega
  have hcl := ro_cls ho
  have pz : ¬ ((n : Int) + 1 ≤ 0) := by omega
  have en : ((n : Int) + 1 - 1).toNat = n := by omega
  refine CC_vb ok36 (by decide) (sm3_ok G w) 60 [] (Nat.le_of_ble_eq_true rfl) ?_
  simp -implicitDefEqProofs only [↓b36_0, ↓b36_7, ↓b36_22, b36_0, b36_7, b36_22, nLE0, layE3, hcl, h22, g2, g3, pz, en, I32, ↓xb, xb, ps, lpad, lat, aok2, rd2, aaok, aav, alok, alen, aok, akk, csum, isLg, cmpI, clsE, Option.elim, eq_self, List.mem_cons, List.not_mem_nil, or_false, false_or, List.append_nil, List.nil_append, List.cons_append, List.append_eq, List.replicate, List.length_cons, List.length_nil, List.map_cons, List.map_nil, ↓reduceIte, reduceCtorEq, if_true, if_false, true_and, and_true, false_and, and_false, and_self, not_true_eq_false, not_false_eq_true, forall_const, true_implies, false_implies, implies_true, Nat.reduceAdd, Nat.reduceSub, Nat.reduceLT, Nat.reduceLeDiff, Nat.reduceEqDiff, Nat.reduceMul, Nat.reducePow, Nat.add_one_ne_zero, Nat.add_one_sub_one, Nat.add_zero, Nat.zero_add, Int.reduceLT, Int.reduceLE, Int.reduceNeg, Int.reduceAdd, Int.reduceSub, Int.reduceToNat, Int.reduceEq, Int.reduceMul, Int.reducePow, Int.cast_ofNat_Int, Int.toNat_natCast, ne_eq, Bool.false_eq_true, true_or, or_true, or_self, Nat.not_lt_zero, ite_e0, ite_e1, lc_lt, lc_ge, lc_gt, lc_le, lc_eq, Classical.not_not]
  with_reducible repeat' (first | (refine And.intro ?_ ?_) | intro _)
  all_goals try omega
  all_goals first | omega | exact q
set_option maxRecDepth 100000 in
set_option maxHeartbeats 1000000 in
theorem kc_37 (ho : 12 ≤ o ∧ o ≤ 20) (hk : 4 ≤ k) {n m : Nat} (hn : n < 12) (g2 : σ o 2 0 0 = ((n : Nat) : Int) + 1) (g3 : σ o 3 0 0 = ((m : Nat) : Int)) (q : Q none (up σ o 7 0 n ((m : Nat) : Int))) : CC G w w k (0, 0) 37 [vr o 0 0] σ Q := by
  have h22 : o < 22 := by omega
  have hcl := ro_cls ho
  have pz : ¬ ((n : Int) + 1 ≤ 0) := by omega
  have en : ((n : Int) + 1 - 1).toNat = n := by omega
  refine CC_vb ok37 (by decide) (sm3_ok G w) 60 [] (Nat.le_of_ble_eq_true rfl) ?_
  simp -implicitDefEqProofs only [↓b37_0, ↓b37_7, ↓b37_22, b37_0, b37_7, b37_22, nLE0, layE3, hcl, h22, g2, g3, pz, en, I32, ↓xb, xb, ps, lpad, lat, aok2, rd2, aaok, aav, alok, alen, aok, akk, csum, isLg, cmpI, clsE, Option.elim, eq_self, List.mem_cons, List.not_mem_nil, or_false, false_or, List.append_nil, List.nil_append, List.cons_append, List.append_eq, List.replicate, List.length_cons, List.length_nil, List.map_cons, List.map_nil, ↓reduceIte, reduceCtorEq, if_true, if_false, true_and, and_true, false_and, and_false, and_self, not_true_eq_false, not_false_eq_true, forall_const, true_implies, false_implies, implies_true, Nat.reduceAdd, Nat.reduceSub, Nat.reduceLT, Nat.reduceLeDiff, Nat.reduceEqDiff, Nat.reduceMul, Nat.reducePow, Nat.add_one_ne_zero, Nat.add_one_sub_one, Nat.add_zero, Nat.zero_add, Int.reduceLT, Int.reduceLE, Int.reduceNeg, Int.reduceAdd, Int.reduceSub, Int.reduceToNat, Int.reduceEq, Int.reduceMul, Int.reducePow, Int.cast_ofNat_Int, Int.toNat_natCast, ne_eq, Bool.false_eq_true, true_or, or_true, or_self, Nat.not_lt_zero, ite_e0, ite_e1, lc_lt, lc_ge, lc_gt, lc_le, lc_eq, Classical.not_not]
  with_reducible repeat' (first | (refine And.intro ?_ ?_) | intro _)
  all_goals try omega
  all_goals first | omega | exact q
set_option maxRecDepth 100000 in
set_option maxHeartbeats 1000000 in
theorem kc_hold (ht : TR t) (ho : 12 ≤ o ∧ o ≤ 20) (hw : o = 12 ∨ w o = true) (hk : 20 ≤ k) {p c : Nat} {LL : List (Nat × Int)} (R : RSt σ t N o p c LL) (hp : p ≤ N) (k18 : tk t N p = 18)
    (qf : ∀ f, pzH t N (te t N p) c = .inl f → ∀ σ', σ' 7 8 0 0 = f → same (SRk o) σ σ' → Q none σ')
    (qk : ∀ p1 c1 x, pzH t N (te t N p) c = .inr (p1, c1, x) → ∀ σ', RSt σ' t N o p1 c LL → σ' o 1 0 0 = x.2.1 → (∀ f, 2 ≤ f → f ≤ 7 → ∀ c, σ' o f 0 c = σ o f 0 c) → same (SRk o) σ σ' → Q none σ') : CC G w w k (0, 0) 22 [vr 7 0 0] σ Q := by
  have hN := R.lim
  have ta := te_adv (t := t) hp (by omega)
  have wf9 := wfo (o := o) (w := w) ho hw
  have h22 : o < 22 := by omega
  have hcl := ro_cls ho
  have oo : ∀ f, S7n o f = false := fun f => by show (o == 7 && _) = false; rw [show (o == 7) = false by simp; omega]; rfl
  have tvr := tvB_r (N := N) ht (b := bls t N (te t N p))
  have bN := (bls_r (t := t) (N := N) (p := te t N p)).2 ta.2
  refine CC_vb ok22 (by decide) (sm3_ok G w) 60 [18, 45] (Nat.le_of_ble_eq_true rfl) ?_
  simp -implicitDefEqProofs only [↓b22_0, ↓b22_4, ↓b22_13, ↓b22_22, ↓b22_30, ↓b22_40, ↓b22_49, ↓b22_53, ↓b22_64, ↓b22_18, ↓b22_45, b22_0, b22_4, b22_13, b22_22, b22_30, b22_40, b22_49, b22_53, b22_64, b22_18, b22_45, nLE0, layE2, layE3, hk, n3_29, n3_21, I32, ↓xb, xb, ps, lpad, lat, aok2, rd2, aaok, aav, alok, alen, aok, akk, csum, isLg, cmpI, clsE, Option.elim, eq_self, List.mem_cons, List.not_mem_nil, or_false, false_or, List.append_nil, List.nil_append, List.cons_append, List.append_eq, List.replicate, List.length_cons, List.length_nil, List.map_cons, List.map_nil, ↓reduceIte, reduceCtorEq, if_true, if_false, true_and, and_true, false_and, and_false, and_self, not_true_eq_false, not_false_eq_true, forall_const, true_implies, false_implies, implies_true, Nat.reduceAdd, Nat.reduceSub, Nat.reduceLT, Nat.reduceLeDiff, Nat.reduceEqDiff, Nat.reduceMul, Nat.reducePow, Nat.add_one_ne_zero, Nat.add_one_sub_one, Nat.add_zero, Nat.zero_add, Int.reduceLT, Int.reduceLE, Int.reduceNeg, Int.reduceAdd, Int.reduceSub, Int.reduceToNat, Int.reduceEq, Int.reduceMul, Int.reducePow, Int.cast_ofNat_Int, Int.toNat_natCast, ne_eq, Bool.false_eq_true, true_or, or_true, or_self, Nat.not_lt_zero, ite_e0, ite_e1, lc_lt, lc_ge, lc_gt, lc_le, lc_eq, Classical.not_not]
  with_reducible repeat' (first | (refine And.intro ?_ ?_) | intro _)
  all_goals try omega
  all_goals first | omega | skip
  refine kc_tok R.1 ht (by omega) ta.2 R.at (fun σ3 K3 s3 => ?_)
  obtain ⟨R3, s3'⟩ := R.nx ho K3 s3
  have s3k := SR_k s3'
  have f4 := R3.tok
  have f5 : σ3 7 5 0 0 = ((bls t N (te t N p) : Nat) : Int) := R3.2.1.2.2.1
  by_cases k31 : tk t N (te t N p) = 31
  · have f6 : σ3 7 6 0 0 = tvB t N (bls t N (te t N p)) := R3.2.1.2.2.2 k31
    rw [k31] at f4
    by_cases bad : tvB t N (bls t N (te t N p)) = -1 ∨ 9999 < tvB t N (bls t N (te t N p))
    · have r := qf _ (by unfold pzH; rw [if_pos k31, if_pos bad]) _ upp_eq (s3k.trans (same.refl.put (S := SRk o) rfl))
      have g45 : TT G w w w k (0, 0) 22 45 [some (vr 7 0 0)] [vi 0] (up σ3 7 8 0 0 (1 + 8 * ((bls t N (te t N p) : Nat) : Int) + 1)) Q := by
        refine TT_vn ok22 (sm3_ok G w) 60 2 [] ?_
        simp -implicitDefEqProofs only [↓b22_0, ↓b22_4, ↓b22_13, ↓b22_22, ↓b22_30, ↓b22_40, ↓b22_49, ↓b22_53, ↓b22_64, ↓b22_18, ↓b22_45, b22_0, b22_4, b22_13, b22_22, b22_30, b22_40, b22_49, b22_53, b22_64, b22_18, b22_45, nLE0, layE2, layE3, hk, n3_29, n3_21, I32, ↓xb, xb, ps, lpad, lat, aok2, rd2, aaok, aav, alok, alen, aok, akk, csum, isLg, cmpI, clsE, Option.elim, eq_self, List.mem_cons, List.not_mem_nil, or_false, false_or, List.append_nil, List.nil_append, List.cons_append, List.append_eq, List.replicate, List.length_cons, List.length_nil, List.map_cons, List.map_nil, ↓reduceIte, reduceCtorEq, if_true, if_false, true_and, and_true, false_and, and_false, and_self, not_true_eq_false, not_false_eq_true, forall_const, true_implies, false_implies, implies_true, Nat.reduceAdd, Nat.reduceSub, Nat.reduceLT, Nat.reduceLeDiff, Nat.reduceEqDiff, Nat.reduceMul, Nat.reducePow, Nat.add_one_ne_zero, Nat.add_one_sub_one, Nat.add_zero, Nat.zero_add, Int.reduceLT, Int.reduceLE, Int.reduceNeg, Int.reduceAdd, Int.reduceSub, Int.reduceToNat, Int.reduceEq, Int.reduceMul, Int.reducePow, Int.cast_ofNat_Int, Int.toNat_natCast, ne_eq, Bool.false_eq_true, true_or, or_true, or_self, Nat.not_lt_zero, ite_e0, ite_e1, lc_lt, lc_ge, lc_gt, lc_le, lc_eq, Classical.not_not]
        with_reducible repeat' (first | (refine And.intro ?_ ?_) | intro _)
        all_goals try omega
        all_goals first | omega | exact r | rfl
      rcases bad with bad | bad
      · rw [bad] at f6
        simp -implicitDefEqProofs only [↓b22_0, ↓b22_4, ↓b22_13, ↓b22_22, ↓b22_30, ↓b22_40, ↓b22_49, ↓b22_53, ↓b22_64, ↓b22_18, ↓b22_45, b22_0, b22_4, b22_13, b22_22, b22_30, b22_40, b22_49, b22_53, b22_64, b22_18, b22_45, nLE0, layE2, layE3, f4, f6, n3_29, n3_21, I32, ↓xb, xb, ps, lpad, lat, aok2, rd2, aaok, aav, alok, alen, aok, akk, csum, isLg, cmpI, clsE, Option.elim, eq_self, List.mem_cons, List.not_mem_nil, or_false, false_or, List.append_nil, List.nil_append, List.cons_append, List.append_eq, List.replicate, List.length_cons, List.length_nil, List.map_cons, List.map_nil, ↓reduceIte, reduceCtorEq, if_true, if_false, true_and, and_true, false_and, and_false, and_self, not_true_eq_false, not_false_eq_true, forall_const, true_implies, false_implies, implies_true, Nat.reduceAdd, Nat.reduceSub, Nat.reduceLT, Nat.reduceLeDiff, Nat.reduceEqDiff, Nat.reduceMul, Nat.reducePow, Nat.add_one_ne_zero, Nat.add_one_sub_one, Nat.add_zero, Nat.zero_add, Int.reduceLT, Int.reduceLE, Int.reduceNeg, Int.reduceAdd, Int.reduceSub, Int.reduceToNat, Int.reduceEq, Int.reduceMul, Int.reducePow, Int.cast_ofNat_Int, Int.toNat_natCast, ne_eq, Bool.false_eq_true, true_or, or_true, or_self, Nat.not_lt_zero, ite_e0, ite_e1, lc_lt, lc_ge, lc_gt, lc_le, lc_eq, Classical.not_not]
        with_reducible repeat' (first | (refine And.intro ?_ ?_) | intro _)
        all_goals try omega
        all_goals first | omega | skip
        refine kc_refuse (b := bls t N (te t N p)) (by omega) (by omega) f5 (by omega) ?_
        simp -implicitDefEqProofs only [↓b22_0, ↓b22_4, ↓b22_13, ↓b22_22, ↓b22_30, ↓b22_40, ↓b22_49, ↓b22_53, ↓b22_64, ↓b22_18, ↓b22_45, b22_0, b22_4, b22_13, b22_22, b22_30, b22_40, b22_49, b22_53, b22_64, b22_18, b22_45, nLE0, layE2, layE3, hk, n3_29, n3_21, I32, ↓xb, xb, ps, lpad, lat, aok2, rd2, aaok, aav, alok, alen, aok, akk, csum, isLg, cmpI, clsE, Option.elim, eq_self, List.mem_cons, List.not_mem_nil, or_false, false_or, List.append_nil, List.nil_append, List.cons_append, List.append_eq, List.replicate, List.length_cons, List.length_nil, List.map_cons, List.map_nil, ↓reduceIte, reduceCtorEq, if_true, if_false, true_and, and_true, false_and, and_false, and_self, not_true_eq_false, not_false_eq_true, forall_const, true_implies, false_implies, implies_true, Nat.reduceAdd, Nat.reduceSub, Nat.reduceLT, Nat.reduceLeDiff, Nat.reduceEqDiff, Nat.reduceMul, Nat.reducePow, Nat.add_one_ne_zero, Nat.add_one_sub_one, Nat.add_zero, Nat.zero_add, Int.reduceLT, Int.reduceLE, Int.reduceNeg, Int.reduceAdd, Int.reduceSub, Int.reduceToNat, Int.reduceEq, Int.reduceMul, Int.reducePow, Int.cast_ofNat_Int, Int.toNat_natCast, ne_eq, Bool.false_eq_true, true_or, or_true, or_self, Nat.not_lt_zero, ite_e0, ite_e1, lc_lt, lc_ge, lc_gt, lc_le, lc_eq, Classical.not_not]
        with_reducible repeat' (first | (refine And.intro ?_ ?_) | intro _)
        all_goals try omega
        all_goals first | omega | exact g45
      · have n1 : ¬ tvB t N (bls t N (te t N p)) = -1 := by omega
        have n2 : ¬ tvB t N (bls t N (te t N p)) ≤ 9999 := by omega
        simp -implicitDefEqProofs only [↓b22_0, ↓b22_4, ↓b22_13, ↓b22_22, ↓b22_30, ↓b22_40, ↓b22_49, ↓b22_53, ↓b22_64, ↓b22_18, ↓b22_45, b22_0, b22_4, b22_13, b22_22, b22_30, b22_40, b22_49, b22_53, b22_64, b22_18, b22_45, nLE0, layE2, layE3, f4, f6, n1, n2, n3_29, n3_21, I32, ↓xb, xb, ps, lpad, lat, aok2, rd2, aaok, aav, alok, alen, aok, akk, csum, isLg, cmpI, clsE, Option.elim, eq_self, List.mem_cons, List.not_mem_nil, or_false, false_or, List.append_nil, List.nil_append, List.cons_append, List.append_eq, List.replicate, List.length_cons, List.length_nil, List.map_cons, List.map_nil, ↓reduceIte, reduceCtorEq, if_true, if_false, true_and, and_true, false_and, and_false, and_self, not_true_eq_false, not_false_eq_true, forall_const, true_implies, false_implies, implies_true, Nat.reduceAdd, Nat.reduceSub, Nat.reduceLT, Nat.reduceLeDiff, Nat.reduceEqDiff, Nat.reduceMul, Nat.reducePow, Nat.add_one_ne_zero, Nat.add_one_sub_one, Nat.add_zero, Nat.zero_add, Int.reduceLT, Int.reduceLE, Int.reduceNeg, Int.reduceAdd, Int.reduceSub, Int.reduceToNat, Int.reduceEq, Int.reduceMul, Int.reducePow, Int.cast_ofNat_Int, Int.toNat_natCast, ne_eq, Bool.false_eq_true, true_or, or_true, or_self, Nat.not_lt_zero, ite_e0, ite_e1, lc_lt, lc_ge, lc_gt, lc_le, lc_eq, Classical.not_not]
        with_reducible repeat' (first | (refine And.intro ?_ ?_) | intro _)
        all_goals try omega
        all_goals first | omega | skip
        refine kc_refuse (b := bls t N (te t N p)) (by omega) (by omega) f5 (by omega) ?_
        simp -implicitDefEqProofs only [↓b22_0, ↓b22_4, ↓b22_13, ↓b22_22, ↓b22_30, ↓b22_40, ↓b22_49, ↓b22_53, ↓b22_64, ↓b22_18, ↓b22_45, b22_0, b22_4, b22_13, b22_22, b22_30, b22_40, b22_49, b22_53, b22_64, b22_18, b22_45, nLE0, layE2, layE3, hk, n3_29, n3_21, I32, ↓xb, xb, ps, lpad, lat, aok2, rd2, aaok, aav, alok, alen, aok, akk, csum, isLg, cmpI, clsE, Option.elim, eq_self, List.mem_cons, List.not_mem_nil, or_false, false_or, List.append_nil, List.nil_append, List.cons_append, List.append_eq, List.replicate, List.length_cons, List.length_nil, List.map_cons, List.map_nil, ↓reduceIte, reduceCtorEq, if_true, if_false, true_and, and_true, false_and, and_false, and_self, not_true_eq_false, not_false_eq_true, forall_const, true_implies, false_implies, implies_true, Nat.reduceAdd, Nat.reduceSub, Nat.reduceLT, Nat.reduceLeDiff, Nat.reduceEqDiff, Nat.reduceMul, Nat.reducePow, Nat.add_one_ne_zero, Nat.add_one_sub_one, Nat.add_zero, Nat.zero_add, Int.reduceLT, Int.reduceLE, Int.reduceNeg, Int.reduceAdd, Int.reduceSub, Int.reduceToNat, Int.reduceEq, Int.reduceMul, Int.reducePow, Int.cast_ofNat_Int, Int.toNat_natCast, ne_eq, Bool.false_eq_true, true_or, or_true, or_self, Nat.not_lt_zero, ite_e0, ite_e1, lc_lt, lc_ge, lc_gt, lc_le, lc_eq, Classical.not_not]
        with_reducible repeat' (first | (refine And.intro ?_ ?_) | intro _)
        all_goals try omega
        all_goals first | omega | exact g45
    · have n1 : ¬ tvB t N (bls t N (te t N p)) = -1 := by omega
      have n2 : tvB t N (bls t N (te t N p)) ≤ 9999 := by omega
      have ta2 := te_adv (t := t) ta.2 (show tk t N (te t N p) ≠ 32 by omega)
      have d9 := R3.2.2.2.1
      have s4 : same (SRk o) σ3 (up σ3 o 1 0 0 (tvB t N (bls t N (te t N p)))) := same.refl.put (by show ((o == 7 && _) || (o == o && _)) = true; rw [beq_self_eq_true]; simp)
      have R4 : RSt (up σ3 o 1 0 0 (tvB t N (bls t N (te t N p)))) t N o (te t N p) c LL := R3.kp ho (fun a f h r c => by
        unfold up
        rw [if_neg (fun z => h ⟨z.1, Or.inl z.2.1⟩)])
      simp -implicitDefEqProofs only [↓b22_0, ↓b22_4, ↓b22_13, ↓b22_22, ↓b22_30, ↓b22_40, ↓b22_49, ↓b22_53, ↓b22_64, ↓b22_18, ↓b22_45, b22_0, b22_4, b22_13, b22_22, b22_30, b22_40, b22_49, b22_53, b22_64, b22_18, b22_45, nLE0, layE2, layE3, f4, f6, n1, n2, d9, wf9, hcl, h22, n3_29, n3_21, I32, ↓xb, xb, ps, lpad, lat, aok2, rd2, aaok, aav, alok, alen, aok, akk, csum, isLg, cmpI, clsE, Option.elim, eq_self, List.mem_cons, List.not_mem_nil, or_false, false_or, List.append_nil, List.nil_append, List.cons_append, List.append_eq, List.replicate, List.length_cons, List.length_nil, List.map_cons, List.map_nil, ↓reduceIte, reduceCtorEq, if_true, if_false, true_and, and_true, false_and, and_false, and_self, not_true_eq_false, not_false_eq_true, forall_const, true_implies, false_implies, implies_true, Nat.reduceAdd, Nat.reduceSub, Nat.reduceLT, Nat.reduceLeDiff, Nat.reduceEqDiff, Nat.reduceMul, Nat.reducePow, Nat.add_one_ne_zero, Nat.add_one_sub_one, Nat.add_zero, Nat.zero_add, Int.reduceLT, Int.reduceLE, Int.reduceNeg, Int.reduceAdd, Int.reduceSub, Int.reduceToNat, Int.reduceEq, Int.reduceMul, Int.reducePow, Int.cast_ofNat_Int, Int.toNat_natCast, ne_eq, Bool.false_eq_true, true_or, or_true, or_self, Nat.not_lt_zero, ite_e0, ite_e1, lc_lt, lc_ge, lc_gt, lc_le, lc_eq, Classical.not_not]
      with_reducible repeat' (first | (refine And.intro ?_ ?_) | intro _)
      all_goals try omega
      all_goals first | omega | skip
      refine kc_tok R4.1 ht (by omega) ta2.2 R4.at (fun σ5 K5 s5 => ?_)
      obtain ⟨R5, s5'⟩ := R4.nx ho K5 s5
      have r := qk _ _ _ (by unfold pzH; rw [if_pos k31, if_neg bad]) σ5 R5 (by rw [s5 o 1 (oo 1), upp_eq]) (fun f g1 g2 c => by rw [s5 o f (oo f), upp_nf (by omega), s3 o f (oo f)]) ((s3k.trans s4).trans (SR_k s5'))
      simp -implicitDefEqProofs only [↓b22_0, ↓b22_4, ↓b22_13, ↓b22_22, ↓b22_30, ↓b22_40, ↓b22_49, ↓b22_53, ↓b22_64, ↓b22_18, ↓b22_45, b22_0, b22_4, b22_13, b22_22, b22_30, b22_40, b22_49, b22_53, b22_64, b22_18, b22_45, nLE0, layE2, layE3, hk, n3_29, n3_21, I32, ↓xb, xb, ps, lpad, lat, aok2, rd2, aaok, aav, alok, alen, aok, akk, csum, isLg, cmpI, clsE, Option.elim, eq_self, List.mem_cons, List.not_mem_nil, or_false, false_or, List.append_nil, List.nil_append, List.cons_append, List.append_eq, List.replicate, List.length_cons, List.length_nil, List.map_cons, List.map_nil, ↓reduceIte, reduceCtorEq, if_true, if_false, true_and, and_true, false_and, and_false, and_self, not_true_eq_false, not_false_eq_true, forall_const, true_implies, false_implies, implies_true, Nat.reduceAdd, Nat.reduceSub, Nat.reduceLT, Nat.reduceLeDiff, Nat.reduceEqDiff, Nat.reduceMul, Nat.reducePow, Nat.add_one_ne_zero, Nat.add_one_sub_one, Nat.add_zero, Nat.zero_add, Int.reduceLT, Int.reduceLE, Int.reduceNeg, Int.reduceAdd, Int.reduceSub, Int.reduceToNat, Int.reduceEq, Int.reduceMul, Int.reducePow, Int.cast_ofNat_Int, Int.toNat_natCast, ne_eq, Bool.false_eq_true, true_or, or_true, or_self, Nat.not_lt_zero, ite_e0, ite_e1, lc_lt, lc_ge, lc_gt, lc_le, lc_eq, Classical.not_not]
      with_reducible repeat' (first | (refine And.intro ?_ ?_) | intro _)
      all_goals try omega
      all_goals first | omega | exact r
  · have r := qf _ (by unfold pzH; rw [if_neg k31]) _ (by first | (rw [upp_eq]; done) | (rw [upp_eq]; omega)) (s3k.trans (same.refl.put (S := SRk o) rfl))
    simp -implicitDefEqProofs only [↓b22_0, ↓b22_4, ↓b22_13, ↓b22_22, ↓b22_30, ↓b22_40, ↓b22_49, ↓b22_53, ↓b22_64, ↓b22_18, ↓b22_45, b22_0, b22_4, b22_13, b22_22, b22_30, b22_40, b22_49, b22_53, b22_64, b22_18, b22_45, nLE0, layE2, layE3, f4, k31, n3_29, n3_21, I32, ↓xb, xb, ps, lpad, lat, aok2, rd2, aaok, aav, alok, alen, aok, akk, csum, isLg, cmpI, clsE, Option.elim, eq_self, List.mem_cons, List.not_mem_nil, or_false, false_or, List.append_nil, List.nil_append, List.cons_append, List.append_eq, List.replicate, List.length_cons, List.length_nil, List.map_cons, List.map_nil, ↓reduceIte, reduceCtorEq, if_true, if_false, true_and, and_true, false_and, and_false, and_self, not_true_eq_false, not_false_eq_true, forall_const, true_implies, false_implies, implies_true, Nat.reduceAdd, Nat.reduceSub, Nat.reduceLT, Nat.reduceLeDiff, Nat.reduceEqDiff, Nat.reduceMul, Nat.reducePow, Nat.add_one_ne_zero, Nat.add_one_sub_one, Nat.add_zero, Nat.zero_add, Int.reduceLT, Int.reduceLE, Int.reduceNeg, Int.reduceAdd, Int.reduceSub, Int.reduceToNat, Int.reduceEq, Int.reduceMul, Int.reducePow, Int.cast_ofNat_Int, Int.toNat_natCast, ne_eq, Bool.false_eq_true, true_or, or_true, or_self, Nat.not_lt_zero, ite_e0, ite_e1, lc_lt, lc_ge, lc_gt, lc_le, lc_eq, Classical.not_not]
    with_reducible repeat' (first | (refine And.intro ?_ ?_) | intro _)
    all_goals try omega
    all_goals first | omega | skip
    refine kc_refuse (x := 0) (b := bls t N (te t N p)) (by omega) (by omega) f5 (by omega) ?_
    simp -implicitDefEqProofs only [↓b22_0, ↓b22_4, ↓b22_13, ↓b22_22, ↓b22_30, ↓b22_40, ↓b22_49, ↓b22_53, ↓b22_64, ↓b22_18, ↓b22_45, b22_0, b22_4, b22_13, b22_22, b22_30, b22_40, b22_49, b22_53, b22_64, b22_18, b22_45, nLE0, layE2, layE3, hk, n3_29, n3_21, I32, ↓xb, xb, ps, lpad, lat, aok2, rd2, aaok, aav, alok, alen, aok, akk, csum, isLg, cmpI, clsE, Option.elim, eq_self, List.mem_cons, List.not_mem_nil, or_false, false_or, List.append_nil, List.nil_append, List.cons_append, List.append_eq, List.replicate, List.length_cons, List.length_nil, List.map_cons, List.map_nil, ↓reduceIte, reduceCtorEq, if_true, if_false, true_and, and_true, false_and, and_false, and_self, not_true_eq_false, not_false_eq_true, forall_const, true_implies, false_implies, implies_true, Nat.reduceAdd, Nat.reduceSub, Nat.reduceLT, Nat.reduceLeDiff, Nat.reduceEqDiff, Nat.reduceMul, Nat.reducePow, Nat.add_one_ne_zero, Nat.add_one_sub_one, Nat.add_zero, Nat.zero_add, Int.reduceLT, Int.reduceLE, Int.reduceNeg, Int.reduceAdd, Int.reduceSub, Int.reduceToNat, Int.reduceEq, Int.reduceMul, Int.reducePow, Int.cast_ofNat_Int, Int.toNat_natCast, ne_eq, Bool.false_eq_true, true_or, or_true, or_self, Nat.not_lt_zero, ite_e0, ite_e1, lc_lt, lc_ge, lc_gt, lc_le, lc_eq, Classical.not_not]
    with_reducible repeat' (first | (refine And.intro ?_ ?_) | intro _)
    all_goals try omega
    all_goals first | omega | skip
    refine TT_vn ok22 (sm3_ok G w) 60 2 [] ?_
    simp -implicitDefEqProofs only [↓b22_0, ↓b22_4, ↓b22_13, ↓b22_22, ↓b22_30, ↓b22_40, ↓b22_49, ↓b22_53, ↓b22_64, ↓b22_18, ↓b22_45, b22_0, b22_4, b22_13, b22_22, b22_30, b22_40, b22_49, b22_53, b22_64, b22_18, b22_45, nLE0, layE2, layE3, hk, n3_29, n3_21, I32, ↓xb, xb, ps, lpad, lat, aok2, rd2, aaok, aav, alok, alen, aok, akk, csum, isLg, cmpI, clsE, Option.elim, eq_self, List.mem_cons, List.not_mem_nil, or_false, false_or, List.append_nil, List.nil_append, List.cons_append, List.append_eq, List.replicate, List.length_cons, List.length_nil, List.map_cons, List.map_nil, ↓reduceIte, reduceCtorEq, if_true, if_false, true_and, and_true, false_and, and_false, and_self, not_true_eq_false, not_false_eq_true, forall_const, true_implies, false_implies, implies_true, Nat.reduceAdd, Nat.reduceSub, Nat.reduceLT, Nat.reduceLeDiff, Nat.reduceEqDiff, Nat.reduceMul, Nat.reducePow, Nat.add_one_ne_zero, Nat.add_one_sub_one, Nat.add_zero, Nat.zero_add, Int.reduceLT, Int.reduceLE, Int.reduceNeg, Int.reduceAdd, Int.reduceSub, Int.reduceToNat, Int.reduceEq, Int.reduceMul, Int.reducePow, Int.cast_ofNat_Int, Int.toNat_natCast, ne_eq, Bool.false_eq_true, true_or, or_true, or_self, Nat.not_lt_zero, ite_e0, ite_e1, lc_lt, lc_ge, lc_gt, lc_le, lc_eq, Classical.not_not]
    with_reducible repeat' (first | (refine And.intro ?_ ?_) | intro _)
    all_goals try omega
    all_goals first | omega | exact r | rfl
set_option maxRecDepth 100000 in
set_option maxHeartbeats 1000000 in
theorem kc_clause (ht : TR t) (ho : 12 ≤ o ∧ o ≤ 20) (hw : o = 12 ∨ w o = true) (hk : 110 ≤ k) {p c : Nat} {LL : List (Nat × Int)} {Ds : List Cl} (R : RSt σ t N o p c LL) (C : RcC σ o LL Ds) (hp : p ≤ N) (hc : c ≤ 60) (hl : LL.length ≤ p) (hD : Ds.length < 12) (k15 : 15 ≤ tk t N p ∧ tk t N p ≤ 17)
    (qf : ∀ f, (pzS t N (te t N p) c = .inl f ∨ ∃ p1 c1 L1, pzS t N (te t N p) c = .inr (p1, c1, L1) ∧ pzI t N (tk t N p - 15) p1 c1 L1 = .inl f) → ∀ σ', σ' 7 8 0 0 = f → same (SRk o) σ σ' → Q none σ')
    (qk : ∀ p1 c1 L1, pzS t N (te t N p) c = .inr (p1, c1, L1) → ∀ p2 c2 x, pzI t N (tk t N p - 15) p1 c1 L1 = .inr (p2, c2, x) → ∀ σ', RSt σ' t N o p2 c2 (LL ++ x.2.2.1 ++ x.2.2.2.1) → RcC σ' o (LL ++ x.2.2.1 ++ x.2.2.2.1) (Ds ++ [x]) → σ' o 1 0 0 = σ o 1 0 0 → same (SRk o) σ σ' → Q none σ') : CC G w w k (0, 0) 23 [vr 7 0 0] σ Q := by
  have hN := R.lim
  have ta := te_adv (t := t) hp (show tk t N p ≠ 32 by omega)
  have wf9 := wfo (o := o) (w := w) ho hw
  have h22 : o < 22 := by omega
  have hcl := ro_cls ho
  have d9 := R.2.2.2.1
  have e4 := R.tok
  have r3 := R.2.2.2.2.1
  have oo : ∀ f, S7n o f = false := fun f => by show (o == 7 && _) = false; rw [show (o == 7) = false by simp; omega]; rfl
  have os : ∀ f, (f = 1 ∨ f = 2 ∨ f = 4 ∨ f = 5 ∨ f = 6 ∨ f = 7) → SR o o f = false := fun f hf => by
    show ((o == 7 && _) || (o == o && (f == 3 || f == 8))) = false
    rw [show (o == 7) = false by simp; omega, show (f == 3) = false by simp; omega, show (f == 8) = false by simp; omega]
    simp
  obtain ⟨c2, cj⟩ := C
  have u2 : ∀ v, up σ o 4 0 Ds.length v o 2 0 0 = ((Ds.length : Nat) : Int) := fun v => (upp_nf (by decide)).trans c2
  have u3 : ∀ v, up σ o 4 0 Ds.length v o 3 0 0 = ((LL.length : Nat) : Int) := fun v => (upp_nf (by decide)).trans r3
  have u22 : ∀ v x, up (up σ o 4 0 Ds.length v) o 5 0 Ds.length x o 2 0 0 = ((Ds.length : Nat) : Int) := fun v x => (upp_nf (by decide)).trans (u2 v)
  have n12 : ¬ (12 : Int) ≤ (Ds.length : Int) := by omega
  -- the memory behind openClause
  have go : ∀ σ1 : Mem, σ1 = up (up (up σ o 4 0 Ds.length (tk t N p)) o 5 0 Ds.length ((LL.length : Nat) : Int)) o 2 0 0 ((Ds.length : Int) + 1) → TT G w w w k (0, 0) 23 11 [some (vr 7 0 0)] [] σ1 Q := fun σ1 e1 => by
    have m1 : ∀ a f, ¬ (a = o ∧ (f = 2 ∨ f = 4 ∨ f = 5)) → ∀ r c, σ1 a f r c = σ a f r c := fun a f h r c => by
      rw [e1]; unfold up
      rw [if_neg (fun z => h ⟨z.1, Or.inl z.2.1⟩), if_neg (fun z => h ⟨z.1, Or.inr (Or.inr z.2.1)⟩), if_neg (fun z => h ⟨z.1, Or.inr (Or.inl z.2.1)⟩)]
    have m4 : σ1 o 4 0 Ds.length = tk t N p := by rw [e1, upp_nf (by decide), upp_nf (by decide), upp_eq]
    have m5 : σ1 o 5 0 Ds.length = ((LL.length : Nat) : Int) := by rw [e1, upp_nf (by decide), upp_eq]
    have m2 : σ1 o 2 0 0 = (((Ds.length : Nat) : Int) + 1) := by rw [e1, upp_eq]
    have m4' : ∀ j, j < Ds.length → σ1 o 4 0 j = σ o 4 0 j := fun j hj => by rw [e1, upp_nf (by decide), upp_nf (by decide), upp_nc (by omega)]
    have m5' : ∀ j, j < Ds.length → σ1 o 5 0 j = σ o 5 0 j := fun j hj => by rw [e1, upp_nf (by decide), upp_nc (by omega), upp_nf (by decide)]
    have q1 : same (SRk o) σ σ1 := fun a f hf r c => by
      refine m1 a f (fun z => ?_) r c
      have z' : ((a == 7 && (f == 3 || f == 4 || f == 5 || f == 6 || f == 7 || f == 8)) || (a == o && (f == 1 || f == 2 || f == 3 || f == 4 || f == 5 || f == 6 || f == 7 || f == 8))) = false := hf
      obtain ⟨rfl, z | z | z⟩ := z <;> subst z <;> simp at z'
    have R1 : RSt σ1 t N o p c LL := R.kp ho (fun a f h r c => m1 a f (fun z => h ⟨z.1, by omega⟩) r c)
    clear e1
    refine TT_vb ok23 (sm3_ok G w) 60 [52] ?_
    simp -implicitDefEqProofs only [↓b23_0, ↓b23_4, ↓b23_11, ↓b23_15, ↓b23_19, ↓b23_22, ↓b23_23, ↓b23_27, ↓b23_30, ↓b23_39, ↓b23_43, ↓b23_48, ↓b23_51, ↓b23_52, ↓b23_56, ↓b23_59, b23_0, b23_4, b23_11, b23_15, b23_19, b23_22, b23_23, b23_27, b23_30, b23_39, b23_43, b23_48, b23_51, b23_52, b23_56, b23_59, nLE0, layE2, layE3, hk, n3_35, n3_29, n3_27, n3_36, n3_24, n3_37, I32, ↓xb, xb, ps, lpad, lat, aok2, rd2, aaok, aav, alok, alen, aok, akk, csum, isLg, cmpI, clsE, Option.elim, eq_self, List.mem_cons, List.not_mem_nil, or_false, false_or, List.append_nil, List.nil_append, List.cons_append, List.append_eq, List.replicate, List.length_cons, List.length_nil, List.map_cons, List.map_nil, ↓reduceIte, reduceCtorEq, if_true, if_false, true_and, and_true, false_and, and_false, and_self, not_true_eq_false, not_false_eq_true, forall_const, true_implies, false_implies, implies_true, Nat.reduceAdd, Nat.reduceSub, Nat.reduceLT, Nat.reduceLeDiff, Nat.reduceEqDiff, Nat.reduceMul, Nat.reducePow, Nat.add_one_ne_zero, Nat.add_one_sub_one, Nat.add_zero, Nat.zero_add, Int.reduceLT, Int.reduceLE, Int.reduceNeg, Int.reduceAdd, Int.reduceSub, Int.reduceToNat, Int.reduceEq, Int.reduceMul, Int.reducePow, Int.cast_ofNat_Int, Int.toNat_natCast, ne_eq, Bool.false_eq_true, true_or, or_true, or_self, Nat.not_lt_zero, ite_e0, ite_e1, lc_lt, lc_ge, lc_gt, lc_le, lc_eq, Classical.not_not]
    with_reducible repeat' (first | (refine And.intro ?_ ?_) | intro _)
    all_goals try omega
    all_goals first | omega | skip
    refine kc_tok R1.1 ht (by omega) ta.2 R1.at (fun σ2 K2 s2 => ?_)
    obtain ⟨R2, s2'⟩ := R1.nx ho K2 s2
    simp -implicitDefEqProofs only [↓b23_0, ↓b23_4, ↓b23_11, ↓b23_15, ↓b23_19, ↓b23_22, ↓b23_23, ↓b23_27, ↓b23_30, ↓b23_39, ↓b23_43, ↓b23_48, ↓b23_51, ↓b23_52, ↓b23_56, ↓b23_59, b23_0, b23_4, b23_11, b23_15, b23_19, b23_22, b23_23, b23_27, b23_30, b23_39, b23_43, b23_48, b23_51, b23_52, b23_56, b23_59, nLE0, layE2, layE3, hk, n3_35, n3_29, n3_27, n3_36, n3_24, n3_37, I32, ↓xb, xb, ps, lpad, lat, aok2, rd2, aaok, aav, alok, alen, aok, akk, csum, isLg, cmpI, clsE, Option.elim, eq_self, List.mem_cons, List.not_mem_nil, or_false, false_or, List.append_nil, List.nil_append, List.cons_append, List.append_eq, List.replicate, List.length_cons, List.length_nil, List.map_cons, List.map_nil, ↓reduceIte, reduceCtorEq, if_true, if_false, true_and, and_true, false_and, and_false, and_self, not_true_eq_false, not_false_eq_true, forall_const, true_implies, false_implies, implies_true, Nat.reduceAdd, Nat.reduceSub, Nat.reduceLT, Nat.reduceLeDiff, Nat.reduceEqDiff, Nat.reduceMul, Nat.reducePow, Nat.add_one_ne_zero, Nat.add_one_sub_one, Nat.add_zero, Nat.zero_add, Int.reduceLT, Int.reduceLE, Int.reduceNeg, Int.reduceAdd, Int.reduceSub, Int.reduceToNat, Int.reduceEq, Int.reduceMul, Int.reducePow, Int.cast_ofNat_Int, Int.toNat_natCast, ne_eq, Bool.false_eq_true, true_or, or_true, or_self, Nat.not_lt_zero, ite_e0, ite_e1, lc_lt, lc_ge, lc_gt, lc_le, lc_eq, Classical.not_not]
    with_reducible repeat' (first | (refine And.intro ?_ ?_) | intro _)
    all_goals try omega
    all_goals first | omega | skip
    refine kc_rs ht ho hw (by omega) R2 ta.2 hc (by omega) (fun f ef σ3 h8 s3 => ?_) (fun p1 c1 L1 e h1 h2 h3 σ3 R3 s3 => ?_)
    · have r := qf f (Or.inl ef) σ3 h8 ((q1.trans (SR_k s2')).trans (SR_k s3))
      simp -implicitDefEqProofs only [↓b23_0, ↓b23_4, ↓b23_11, ↓b23_15, ↓b23_19, ↓b23_22, ↓b23_23, ↓b23_27, ↓b23_30, ↓b23_39, ↓b23_43, ↓b23_48, ↓b23_51, ↓b23_52, ↓b23_56, ↓b23_59, b23_0, b23_4, b23_11, b23_15, b23_19, b23_22, b23_23, b23_27, b23_30, b23_39, b23_43, b23_48, b23_51, b23_52, b23_56, b23_59, nLE0, layE2, layE3, hk, n3_35, n3_29, n3_27, n3_36, n3_24, n3_37, I32, ↓xb, xb, ps, lpad, lat, aok2, rd2, aaok, aav, alok, alen, aok, akk, csum, isLg, cmpI, clsE, Option.elim, eq_self, List.mem_cons, List.not_mem_nil, or_false, false_or, List.append_nil, List.nil_append, List.cons_append, List.append_eq, List.replicate, List.length_cons, List.length_nil, List.map_cons, List.map_nil, ↓reduceIte, reduceCtorEq, if_true, if_false, true_and, and_true, false_and, and_false, and_self, not_true_eq_false, not_false_eq_true, forall_const, true_implies, false_implies, implies_true, Nat.reduceAdd, Nat.reduceSub, Nat.reduceLT, Nat.reduceLeDiff, Nat.reduceEqDiff, Nat.reduceMul, Nat.reducePow, Nat.add_one_ne_zero, Nat.add_one_sub_one, Nat.add_zero, Nat.zero_add, Int.reduceLT, Int.reduceLE, Int.reduceNeg, Int.reduceAdd, Int.reduceSub, Int.reduceToNat, Int.reduceEq, Int.reduceMul, Int.reducePow, Int.cast_ofNat_Int, Int.toNat_natCast, ne_eq, Bool.false_eq_true, true_or, or_true, or_self, Nat.not_lt_zero, ite_e0, ite_e1, lc_lt, lc_ge, lc_gt, lc_le, lc_eq, Classical.not_not]
      with_reducible repeat' (first | (refine And.intro ?_ ?_) | intro _)
      all_goals try omega
      all_goals first | omega | exact r
    · have f9 := R3.2.2.2.1
      have g3 := R3.2.2.2.2.1
      have g2 : σ3 o 2 0 0 = ((Ds.length : Nat) : Int) + 1 := ((s3 o 2 (os 2 (by omega)) 0 0).trans (s2 o 2 (oo 2) 0 0)).trans m2
      have pz : ¬ ((Ds.length : Int) + 1 ≤ 0) := by omega
      have en : ((Ds.length : Int) + 1 - 1).toNat = Ds.length := by omega
      have R4 : RSt (up σ3 o 6 0 Ds.length (((LL ++ L1).length : Nat) : Int)) t N o p1 c1 (LL ++ L1) := R3.kp ho (fun a f h r c => by
        unfold up
        rw [if_neg (fun z => h ⟨z.1, by omega⟩)])
      have s4 : same (SRk o) σ3 (up σ3 o 6 0 Ds.length (((LL ++ L1).length : Nat) : Int)) := same.refl.put (by show ((o == 7 && _) || (o == o && _)) = true; rw [beq_self_eq_true]; simp)
      have q4 := ((q1.trans (SR_k s2')).trans (SR_k s3)).trans s4
      -- behind the test
      have fin : ∀ (p2 c2 : Nat) (L2 M2 : List (Nat × Int)) (σ5 : Mem), pzI t N (tk t N p - 15) p1 c1 L1 = .inr (p2, c2, (tk t N p - 15, 0, L1, L2, M2)) → RSt σ5 t N o p2 c2 (LL ++ L1 ++ L2) → same (SR o) (up σ3 o 6 0 Ds.length (((LL ++ L1).length : Nat) : Int)) σ5 → TT G w w w k (0, 0) 23 52 [some (vr 7 0 0)] [] σ5 Q := fun p2 c2 L2 M2 σ5 ei R5 s5 => by
        have b9 := R5.2.2.2.1
        have b3 := R5.2.2.2.2.1
        have b2 : σ5 o 2 0 0 = ((Ds.length : Nat) : Int) + 1 := by rw [s5 o 2 (os 2 (by omega)), upp_nf (by decide)]; exact g2
        have R6 : RSt (up σ5 o 7 0 Ds.length (((LL ++ L1 ++ L2).length : Nat) : Int)) t N o p2 c2 (LL ++ L1 ++ L2) := R5.kp ho (fun a f h r c => by
          unfold up
          rw [if_neg (fun z => h ⟨z.1, by omega⟩)])
        have s6 : same (SRk o) σ5 (up σ5 o 7 0 Ds.length (((LL ++ L1 ++ L2).length : Nat) : Int)) := same.refl.put (by show ((o == 7 && _) || (o == o && _)) = true; rw [beq_self_eq_true]; simp)
        have dn : ∀ f, (f = 4 ∨ f = 5) → ∀ c, up σ5 o 7 0 Ds.length (((LL ++ L1 ++ L2).length : Nat) : Int) o f 0 c = σ1 o f 0 c := fun f hf c => by
          rw [upp_nf (by omega), s5 o f (os f (by omega)), upp_nf (by omega), s3 o f (os f (by omega)), s2 o f (oo f)]
        have r := qk p1 c1 L1 e p2 c2 _ ei _ R6 (by
          refine ⟨?_, fun j hj => ?_⟩
          · rw [upp_nf (by decide), b2, List.length_append]; rfl
          · rw [List.length_append] at hj
            by_cases z : j = Ds.length
            · subst z
              rw [gd_r]
              refine ⟨LL.length, (LL ++ L1).length, (LL ++ L1 ++ L2).length, ?_, ?_, ?_, ?_, Seg.new⟩
              · rw [dn 4 (by omega), m4]; show tk t N p = tk t N p - 15 + 15; omega
              · rw [dn 5 (by omega), m5]
              · rw [upp_nf (by decide), s5 o 6 (os 6 (by omega)), upp_eq]
              · rw [upp_eq]
            · have jl : j < Ds.length := by have : ([(tk t N p - 15, (0 : Int), L1, L2, M2)] : List Cl).length = 1 := rfl
                                            omega
              rw [gd_l jl]
              obtain ⟨a, b, e, x1, x2, x3, x4, x5⟩ := cj j jl
              refine ⟨a, b, e, ?_, ?_, ?_, ?_, x5.app.app⟩
              · rw [dn 4 (by omega), m4' j jl]; exact x1
              · rw [dn 5 (by omega), m5' j jl]; exact x2
              · rw [upp_nf (by decide), s5 o 6 (os 6 (by omega)), upp_nc (by omega), s3 o 6 (os 6 (by omega)), s2 o 6 (oo 6), m1 o 6 (by omega)]; exact x3
              · rw [upp_nc (by omega), s5 o 7 (os 7 (by omega)), upp_nf (by decide), s3 o 7 (os 7 (by omega)), s2 o 7 (oo 7), m1 o 7 (by omega)]; exact x4) (by
          rw [upp_nf (by decide), s5 o 1 (os 1 (by omega)), upp_nf (by decide), s3 o 1 (os 1 (by omega)), s2 o 1 (oo 1), m1 o 1 (by omega)]) ((q4.trans (SR_k s5)).trans s6)
        refine TT_vb ok23 (sm3_ok G w) 60 [] ?_
        simp -implicitDefEqProofs only [↓b23_0, ↓b23_4, ↓b23_11, ↓b23_15, ↓b23_19, ↓b23_22, ↓b23_23, ↓b23_27, ↓b23_30, ↓b23_39, ↓b23_43, ↓b23_48, ↓b23_51, ↓b23_52, ↓b23_56, ↓b23_59, b23_0, b23_4, b23_11, b23_15, b23_19, b23_22, b23_23, b23_27, b23_30, b23_39, b23_43, b23_48, b23_51, b23_52, b23_56, b23_59, nLE0, layE2, layE3, b9, wf9, n3_35, n3_29, n3_27, n3_36, n3_24, n3_37, I32, ↓xb, xb, ps, lpad, lat, aok2, rd2, aaok, aav, alok, alen, aok, akk, csum, isLg, cmpI, clsE, Option.elim, eq_self, List.mem_cons, List.not_mem_nil, or_false, false_or, List.append_nil, List.nil_append, List.cons_append, List.append_eq, List.replicate, List.length_cons, List.length_nil, List.map_cons, List.map_nil, ↓reduceIte, reduceCtorEq, if_true, if_false, true_and, and_true, false_and, and_false, and_self, not_true_eq_false, not_false_eq_true, forall_const, true_implies, false_implies, implies_true, Nat.reduceAdd, Nat.reduceSub, Nat.reduceLT, Nat.reduceLeDiff, Nat.reduceEqDiff, Nat.reduceMul, Nat.reducePow, Nat.add_one_ne_zero, Nat.add_one_sub_one, Nat.add_zero, Nat.zero_add, Int.reduceLT, Int.reduceLE, Int.reduceNeg, Int.reduceAdd, Int.reduceSub, Int.reduceToNat, Int.reduceEq, Int.reduceMul, Int.reducePow, Int.cast_ofNat_Int, Int.toNat_natCast, ne_eq, Bool.false_eq_true, true_or, or_true, or_self, Nat.not_lt_zero, ite_e0, ite_e1, lc_lt, lc_ge, lc_gt, lc_le, lc_eq, Classical.not_not]
        with_reducible repeat' (first | (refine And.intro ?_ ?_) | intro _)
        all_goals try omega
        all_goals first | omega | skip
        refine kc_37 ho (by omega) hD b2 b3 ?_
        simp -implicitDefEqProofs only [↓b23_0, ↓b23_4, ↓b23_11, ↓b23_15, ↓b23_19, ↓b23_22, ↓b23_23, ↓b23_27, ↓b23_30, ↓b23_39, ↓b23_43, ↓b23_48, ↓b23_51, ↓b23_52, ↓b23_56, ↓b23_59, b23_0, b23_4, b23_11, b23_15, b23_19, b23_22, b23_23, b23_27, b23_30, b23_39, b23_43, b23_48, b23_51, b23_52, b23_56, b23_59, nLE0, layE2, layE3, hk, n3_35, n3_29, n3_27, n3_36, n3_24, n3_37, I32, ↓xb, xb, ps, lpad, lat, aok2, rd2, aaok, aav, alok, alen, aok, akk, csum, isLg, cmpI, clsE, Option.elim, eq_self, List.mem_cons, List.not_mem_nil, or_false, false_or, List.append_nil, List.nil_append, List.cons_append, List.append_eq, List.replicate, List.length_cons, List.length_nil, List.map_cons, List.map_nil, ↓reduceIte, reduceCtorEq, if_true, if_false, true_and, and_true, false_and, and_false, and_self, not_true_eq_false, not_false_eq_true, forall_const, true_implies, false_implies, implies_true, Nat.reduceAdd, Nat.reduceSub, Nat.reduceLT, Nat.reduceLeDiff, Nat.reduceEqDiff, Nat.reduceMul, Nat.reducePow, Nat.add_one_ne_zero, Nat.add_one_sub_one, Nat.add_zero, Nat.zero_add, Int.reduceLT, Int.reduceLE, Int.reduceNeg, Int.reduceAdd, Int.reduceSub, Int.reduceToNat, Int.reduceEq, Int.reduceMul, Int.reducePow, Int.cast_ofNat_Int, Int.toNat_natCast, ne_eq, Bool.false_eq_true, true_or, or_true, or_self, Nat.not_lt_zero, ite_e0, ite_e1, lc_lt, lc_ge, lc_gt, lc_le, lc_eq, Classical.not_not]
        with_reducible repeat' (first | (refine And.intro ?_ ?_) | intro _)
        all_goals try omega
        all_goals first | omega | exact r
      have f4 := R4.tok
      simp -implicitDefEqProofs only [↓b23_0, ↓b23_4, ↓b23_11, ↓b23_15, ↓b23_19, ↓b23_22, ↓b23_23, ↓b23_27, ↓b23_30, ↓b23_39, ↓b23_43, ↓b23_48, ↓b23_51, ↓b23_52, ↓b23_56, ↓b23_59, b23_0, b23_4, b23_11, b23_15, b23_19, b23_22, b23_23, b23_27, b23_30, b23_39, b23_43, b23_48, b23_51, b23_52, b23_56, b23_59, nLE0, layE2, layE3, f9, wf9, n3_35, n3_29, n3_27, n3_36, n3_24, n3_37, I32, ↓xb, xb, ps, lpad, lat, aok2, rd2, aaok, aav, alok, alen, aok, akk, csum, isLg, cmpI, clsE, Option.elim, eq_self, List.mem_cons, List.not_mem_nil, or_false, false_or, List.append_nil, List.nil_append, List.cons_append, List.append_eq, List.replicate, List.length_cons, List.length_nil, List.map_cons, List.map_nil, ↓reduceIte, reduceCtorEq, if_true, if_false, true_and, and_true, false_and, and_false, and_self, not_true_eq_false, not_false_eq_true, forall_const, true_implies, false_implies, implies_true, Nat.reduceAdd, Nat.reduceSub, Nat.reduceLT, Nat.reduceLeDiff, Nat.reduceEqDiff, Nat.reduceMul, Nat.reducePow, Nat.add_one_ne_zero, Nat.add_one_sub_one, Nat.add_zero, Nat.zero_add, Int.reduceLT, Int.reduceLE, Int.reduceNeg, Int.reduceAdd, Int.reduceSub, Int.reduceToNat, Int.reduceEq, Int.reduceMul, Int.reducePow, Int.cast_ofNat_Int, Int.toNat_natCast, ne_eq, Bool.false_eq_true, true_or, or_true, or_self, Nat.not_lt_zero, ite_e0, ite_e1, lc_lt, lc_ge, lc_gt, lc_le, lc_eq, Classical.not_not]
      with_reducible repeat' (first | (refine And.intro ?_ ?_) | intro _)
      all_goals try omega
      all_goals first | omega | skip
      refine kc_36 ho (by omega) hD g2 g3 ?_
      by_cases k19 : tk t N p1 = 19
      · have ta1 := te_adv (t := t) h2 (show tk t N p1 ≠ 32 by omega)
        rw [k19] at f4
        simp -implicitDefEqProofs only [↓b23_0, ↓b23_4, ↓b23_11, ↓b23_15, ↓b23_19, ↓b23_22, ↓b23_23, ↓b23_27, ↓b23_30, ↓b23_39, ↓b23_43, ↓b23_48, ↓b23_51, ↓b23_52, ↓b23_56, ↓b23_59, b23_0, b23_4, b23_11, b23_15, b23_19, b23_22, b23_23, b23_27, b23_30, b23_39, b23_43, b23_48, b23_51, b23_52, b23_56, b23_59, nLE0, layE2, layE3, f4, n3_35, n3_29, n3_27, n3_36, n3_24, n3_37, I32, ↓xb, xb, ps, lpad, lat, aok2, rd2, aaok, aav, alok, alen, aok, akk, csum, isLg, cmpI, clsE, Option.elim, eq_self, List.mem_cons, List.not_mem_nil, or_false, false_or, List.append_nil, List.nil_append, List.cons_append, List.append_eq, List.replicate, List.length_cons, List.length_nil, List.map_cons, List.map_nil, ↓reduceIte, reduceCtorEq, if_true, if_false, true_and, and_true, false_and, and_false, and_self, not_true_eq_false, not_false_eq_true, forall_const, true_implies, false_implies, implies_true, Nat.reduceAdd, Nat.reduceSub, Nat.reduceLT, Nat.reduceLeDiff, Nat.reduceEqDiff, Nat.reduceMul, Nat.reducePow, Nat.add_one_ne_zero, Nat.add_one_sub_one, Nat.add_zero, Nat.zero_add, Int.reduceLT, Int.reduceLE, Int.reduceNeg, Int.reduceAdd, Int.reduceSub, Int.reduceToNat, Int.reduceEq, Int.reduceMul, Int.reducePow, Int.cast_ofNat_Int, Int.toNat_natCast, ne_eq, Bool.false_eq_true, true_or, or_true, or_self, Nat.not_lt_zero, ite_e0, ite_e1, lc_lt, lc_ge, lc_gt, lc_le, lc_eq, Classical.not_not]
        with_reducible repeat' (first | (refine And.intro ?_ ?_) | intro _)
        all_goals try omega
        all_goals first | omega | skip
        refine kc_tok R4.1 ht (by omega) ta1.2 R4.at (fun σ5 K5 s5 => ?_)
        obtain ⟨R5, s5'⟩ := R4.nx ho K5 s5
        simp -implicitDefEqProofs only [↓b23_0, ↓b23_4, ↓b23_11, ↓b23_15, ↓b23_19, ↓b23_22, ↓b23_23, ↓b23_27, ↓b23_30, ↓b23_39, ↓b23_43, ↓b23_48, ↓b23_51, ↓b23_52, ↓b23_56, ↓b23_59, b23_0, b23_4, b23_11, b23_15, b23_19, b23_22, b23_23, b23_27, b23_30, b23_39, b23_43, b23_48, b23_51, b23_52, b23_56, b23_59, nLE0, layE2, layE3, hk, n3_35, n3_29, n3_27, n3_36, n3_24, n3_37, I32, ↓xb, xb, ps, lpad, lat, aok2, rd2, aaok, aav, alok, alen, aok, akk, csum, isLg, cmpI, clsE, Option.elim, eq_self, List.mem_cons, List.not_mem_nil, or_false, false_or, List.append_nil, List.nil_append, List.cons_append, List.append_eq, List.replicate, List.length_cons, List.length_nil, List.map_cons, List.map_nil, ↓reduceIte, reduceCtorEq, if_true, if_false, true_and, and_true, false_and, and_false, and_self, not_true_eq_false, not_false_eq_true, forall_const, true_implies, false_implies, implies_true, Nat.reduceAdd, Nat.reduceSub, Nat.reduceLT, Nat.reduceLeDiff, Nat.reduceEqDiff, Nat.reduceMul, Nat.reducePow, Nat.add_one_ne_zero, Nat.add_one_sub_one, Nat.add_zero, Nat.zero_add, Int.reduceLT, Int.reduceLE, Int.reduceNeg, Int.reduceAdd, Int.reduceSub, Int.reduceToNat, Int.reduceEq, Int.reduceMul, Int.reducePow, Int.cast_ofNat_Int, Int.toNat_natCast, ne_eq, Bool.false_eq_true, true_or, or_true, or_self, Nat.not_lt_zero, ite_e0, ite_e1, lc_lt, lc_ge, lc_gt, lc_le, lc_eq, Classical.not_not]
        with_reducible repeat' (first | (refine And.intro ?_ ?_) | intro _)
        all_goals try omega
        all_goals first | omega | skip
        refine kc_test ht ho hw (by omega) R5 ta1.2 h3 (by omega) (m := 2 * N + 2) (by show 2 * (N - te t N p1) + 2 ≤ 2 * N + 2; omega) (fun f ef σ6 h8 s6 => ?_) (fun p6 c6 L6 M6 e6 σ6 R6 s6 => ?_)
        · have r := qf f (Or.inr ⟨p1, c1, L1, e, by unfold pzI; rw [if_pos k19, ef]⟩) σ6 h8 ((q4.trans (SR_k s5')).trans (SR_k s6))
          simp -implicitDefEqProofs only [↓b23_0, ↓b23_4, ↓b23_11, ↓b23_15, ↓b23_19, ↓b23_22, ↓b23_23, ↓b23_27, ↓b23_30, ↓b23_39, ↓b23_43, ↓b23_48, ↓b23_51, ↓b23_52, ↓b23_56, ↓b23_59, b23_0, b23_4, b23_11, b23_15, b23_19, b23_22, b23_23, b23_27, b23_30, b23_39, b23_43, b23_48, b23_51, b23_52, b23_56, b23_59, nLE0, layE2, layE3, hk, n3_35, n3_29, n3_27, n3_36, n3_24, n3_37, I32, ↓xb, xb, ps, lpad, lat, aok2, rd2, aaok, aav, alok, alen, aok, akk, csum, isLg, cmpI, clsE, Option.elim, eq_self, List.mem_cons, List.not_mem_nil, or_false, false_or, List.append_nil, List.nil_append, List.cons_append, List.append_eq, List.replicate, List.length_cons, List.length_nil, List.map_cons, List.map_nil, ↓reduceIte, reduceCtorEq, if_true, if_false, true_and, and_true, false_and, and_false, and_self, not_true_eq_false, not_false_eq_true, forall_const, true_implies, false_implies, implies_true, Nat.reduceAdd, Nat.reduceSub, Nat.reduceLT, Nat.reduceLeDiff, Nat.reduceEqDiff, Nat.reduceMul, Nat.reducePow, Nat.add_one_ne_zero, Nat.add_one_sub_one, Nat.add_zero, Nat.zero_add, Int.reduceLT, Int.reduceLE, Int.reduceNeg, Int.reduceAdd, Int.reduceSub, Int.reduceToNat, Int.reduceEq, Int.reduceMul, Int.reducePow, Int.cast_ofNat_Int, Int.toNat_natCast, ne_eq, Bool.false_eq_true, true_or, or_true, or_self, Nat.not_lt_zero, ite_e0, ite_e1, lc_lt, lc_ge, lc_gt, lc_le, lc_eq, Classical.not_not]
          with_reducible repeat' (first | (refine And.intro ?_ ?_) | intro _)
          all_goals try omega
          all_goals first | omega | exact r
        · have r := fin p6 c6 L6 M6 σ6 (by unfold pzI; rw [if_pos k19, e6]) R6 (s5'.trans s6)
          simp -implicitDefEqProofs only [↓b23_0, ↓b23_4, ↓b23_11, ↓b23_15, ↓b23_19, ↓b23_22, ↓b23_23, ↓b23_27, ↓b23_30, ↓b23_39, ↓b23_43, ↓b23_48, ↓b23_51, ↓b23_52, ↓b23_56, ↓b23_59, b23_0, b23_4, b23_11, b23_15, b23_19, b23_22, b23_23, b23_27, b23_30, b23_39, b23_43, b23_48, b23_51, b23_52, b23_56, b23_59, nLE0, layE2, layE3, hk, n3_35, n3_29, n3_27, n3_36, n3_24, n3_37, I32, ↓xb, xb, ps, lpad, lat, aok2, rd2, aaok, aav, alok, alen, aok, akk, csum, isLg, cmpI, clsE, Option.elim, eq_self, List.mem_cons, List.not_mem_nil, or_false, false_or, List.append_nil, List.nil_append, List.cons_append, List.append_eq, List.replicate, List.length_cons, List.length_nil, List.map_cons, List.map_nil, ↓reduceIte, reduceCtorEq, if_true, if_false, true_and, and_true, false_and, and_false, and_self, not_true_eq_false, not_false_eq_true, forall_const, true_implies, false_implies, implies_true, Nat.reduceAdd, Nat.reduceSub, Nat.reduceLT, Nat.reduceLeDiff, Nat.reduceEqDiff, Nat.reduceMul, Nat.reducePow, Nat.add_one_ne_zero, Nat.add_one_sub_one, Nat.add_zero, Nat.zero_add, Int.reduceLT, Int.reduceLE, Int.reduceNeg, Int.reduceAdd, Int.reduceSub, Int.reduceToNat, Int.reduceEq, Int.reduceMul, Int.reducePow, Int.cast_ofNat_Int, Int.toNat_natCast, ne_eq, Bool.false_eq_true, true_or, or_true, or_self, Nat.not_lt_zero, ite_e0, ite_e1, lc_lt, lc_ge, lc_gt, lc_le, lc_eq, Classical.not_not]
          with_reducible repeat' (first | (refine And.intro ?_ ?_) | intro _)
          all_goals try omega
          all_goals first | omega | exact r
      · have r := fin p1 c1 [] [] _ (by unfold pzI; rw [if_neg k19]) (by rw [List.append_nil]; exact R4) same.refl
        simp -implicitDefEqProofs only [↓b23_0, ↓b23_4, ↓b23_11, ↓b23_15, ↓b23_19, ↓b23_22, ↓b23_23, ↓b23_27, ↓b23_30, ↓b23_39, ↓b23_43, ↓b23_48, ↓b23_51, ↓b23_52, ↓b23_56, ↓b23_59, b23_0, b23_4, b23_11, b23_15, b23_19, b23_22, b23_23, b23_27, b23_30, b23_39, b23_43, b23_48, b23_51, b23_52, b23_56, b23_59, nLE0, layE2, layE3, f4, k19, n3_35, n3_29, n3_27, n3_36, n3_24, n3_37, I32, ↓xb, xb, ps, lpad, lat, aok2, rd2, aaok, aav, alok, alen, aok, akk, csum, isLg, cmpI, clsE, Option.elim, eq_self, List.mem_cons, List.not_mem_nil, or_false, false_or, List.append_nil, List.nil_append, List.cons_append, List.append_eq, List.replicate, List.length_cons, List.length_nil, List.map_cons, List.map_nil, ↓reduceIte, reduceCtorEq, if_true, if_false, true_and, and_true, false_and, and_false, and_self, not_true_eq_false, not_false_eq_true, forall_const, true_implies, false_implies, implies_true, Nat.reduceAdd, Nat.reduceSub, Nat.reduceLT, Nat.reduceLeDiff, Nat.reduceEqDiff, Nat.reduceMul, Nat.reducePow, Nat.add_one_ne_zero, Nat.add_one_sub_one, Nat.add_zero, Nat.zero_add, Int.reduceLT, Int.reduceLE, Int.reduceNeg, Int.reduceAdd, Int.reduceSub, Int.reduceToNat, Int.reduceEq, Int.reduceMul, Int.reducePow, Int.cast_ofNat_Int, Int.toNat_natCast, ne_eq, Bool.false_eq_true, true_or, or_true, or_self, Nat.not_lt_zero, ite_e0, ite_e1, lc_lt, lc_ge, lc_gt, lc_le, lc_eq, Classical.not_not]
        with_reducible repeat' (first | (refine And.intro ?_ ?_) | intro _)
        all_goals try omega
        all_goals first | omega | exact r
  have r := go _ rfl
  refine CC_vb ok23 (by decide) (sm3_ok G w) 60 [11, 52] (Nat.le_of_ble_eq_true rfl) ?_
  simp -implicitDefEqProofs only [↓b23_0, ↓b23_4, ↓b23_11, ↓b23_15, ↓b23_19, ↓b23_22, ↓b23_23, ↓b23_27, ↓b23_30, ↓b23_39, ↓b23_43, ↓b23_48, ↓b23_51, ↓b23_52, ↓b23_56, ↓b23_59, b23_0, b23_4, b23_11, b23_15, b23_19, b23_22, b23_23, b23_27, b23_30, b23_39, b23_43, b23_48, b23_51, b23_52, b23_56, b23_59, nLE0, layE2, layE3, d9, wf9, e4, n3_35, n3_29, n3_27, n3_36, n3_24, n3_37, I32, ↓xb, xb, ps, lpad, lat, aok2, rd2, aaok, aav, alok, alen, aok, akk, csum, isLg, cmpI, clsE, Option.elim, eq_self, List.mem_cons, List.not_mem_nil, or_false, false_or, List.append_nil, List.nil_append, List.cons_append, List.append_eq, List.replicate, List.length_cons, List.length_nil, List.map_cons, List.map_nil, ↓reduceIte, reduceCtorEq, if_true, if_false, true_and, and_true, false_and, and_false, and_self, not_true_eq_false, not_false_eq_true, forall_const, true_implies, false_implies, implies_true, Nat.reduceAdd, Nat.reduceSub, Nat.reduceLT, Nat.reduceLeDiff, Nat.reduceEqDiff, Nat.reduceMul, Nat.reducePow, Nat.add_one_ne_zero, Nat.add_one_sub_one, Nat.add_zero, Nat.zero_add, Int.reduceLT, Int.reduceLE, Int.reduceNeg, Int.reduceAdd, Int.reduceSub, Int.reduceToNat, Int.reduceEq, Int.reduceMul, Int.reducePow, Int.cast_ofNat_Int, Int.toNat_natCast, ne_eq, Bool.false_eq_true, true_or, or_true, or_self, Nat.not_lt_zero, ite_e0, ite_e1, lc_lt, lc_ge, lc_gt, lc_le, lc_eq, Classical.not_not]
  with_reducible repeat' (first | (refine And.intro ?_ ?_) | intro _)
  all_goals try omega
  all_goals first | omega | skip
  refine CC_vb ok35 (by decide) (sm3_ok G w) 60 [] (Nat.le_of_ble_eq_true rfl) ?_
  simp -implicitDefEqProofs only [↓b35_0, ↓b35_9, ↓b35_42, b35_0, b35_9, b35_42, nLE0, layE3, hcl, h22, c2, n12, u2, u3, u22, I32, ↓xb, xb, ps, lpad, lat, aok2, rd2, aaok, aav, alok, alen, aok, akk, csum, isLg, cmpI, clsE, Option.elim, eq_self, List.mem_cons, List.not_mem_nil, or_false, false_or, List.append_nil, List.nil_append, List.cons_append, List.append_eq, List.replicate, List.length_cons, List.length_nil, List.map_cons, List.map_nil, ↓reduceIte, reduceCtorEq, if_true, if_false, true_and, and_true, false_and, and_false, and_self, not_true_eq_false, not_false_eq_true, forall_const, true_implies, false_implies, implies_true, Nat.reduceAdd, Nat.reduceSub, Nat.reduceLT, Nat.reduceLeDiff, Nat.reduceEqDiff, Nat.reduceMul, Nat.reducePow, Nat.add_one_ne_zero, Nat.add_one_sub_one, Nat.add_zero, Nat.zero_add, Int.reduceLT, Int.reduceLE, Int.reduceNeg, Int.reduceAdd, Int.reduceSub, Int.reduceToNat, Int.reduceEq, Int.reduceMul, Int.reducePow, Int.cast_ofNat_Int, Int.toNat_natCast, ne_eq, Bool.false_eq_true, true_or, or_true, or_self, Nat.not_lt_zero, ite_e0, ite_e1, lc_lt, lc_ge, lc_gt, lc_le, lc_eq, Classical.not_not]
  with_reducible repeat' (first | (refine And.intro ?_ ?_) | intro _)
  all_goals try omega
  all_goals first | omega | exact r
end CLC

/-! 52.back: image (check), back (both) -/
section BCK
variable {G : Gl} {w0 w w2 : Wd} {k : Nat} {rc : Nat × Nat} {mi pc : Nat} {ls : List (Option AV)} {st : List AV} {σ : Mem} {Q : Option AV → Mem → Prop} {P : Pt}
theorem TT_wf (h : wfσ σ → TT G w0 w w2 k rc mi pc ls st σ Q) : TT G w0 w w2 k rc mi pc ls st σ Q := fun p e s m args below meth c H locs cells slots mc ms lsr ob0 ob hE => h hE.2.2.2.2.1 p e s m args below meth c H locs cells slots mc ms lsr ob0 ob hE
theorem lmc_f {f i : Nat} (h : i < lmc f) : 2 ≤ f ∧ f ≤ 38 := by
  unfold lmc at h
  split at h
  · assumption
  · omega
theorem lmc_l {f i : Nat} (h : i < lmc f) : ofs f + i < 935 := by
  have := ofs_39 (lmc_f h).2
  omega
theorem IM.keep {σ' : Mem} {kk : Nat} (h : IM σ kk P) (hs : ∀ c, 1200 * kk ≤ c → c < 1200 * kk + 1200 → σ' 21 75 0 c = σ 21 75 0 c) : IM σ' kk P := fun f i hi => by
  have := lmc_l hi
  rw [hs _ (by omega) (by omega)]
  exact h f i hi
theorem isL_21 : ∀ f : Nat, f < 37 → ¬ isL 21 f := by
  have h : ∀ f : Nat, f < 37 → ¬ ((lay 8 (f - 1)).1 = 1 ∨ (lay 8 (f - 1)).1 = 11 ∨ (lay 8 (f - 1)).1 = 21) := by decide +kernel
  exact h
theorem Sim_f {σ σ' : Mem} (h : same Smf σ σ') : same Sim σ σ' := h.mono (fun o f z => by
  have z' : (o == 21 && (f == 75 || f == 77 || f == 78)) = true := z
  show (o == 21 && (f == 75 || f == 76 || f == 77 || f == 78)) = true
  simp only [Bool.and_eq_true, Bool.or_eq_true] at z' ⊢
  exact ⟨z'.1, z'.2.elim (fun x => x.elim (fun y => Or.inl (Or.inl (Or.inl y))) (fun y => Or.inl (Or.inr y))) (fun x => Or.inr x)⟩)
theorem MR.sim {σ' : Mem} (M : MR σ P) (hs : same Sim σ σ') : MR σ' P := M.keep hs (fun f a b => by
  show ((21 : Nat) == 21 && (f == 75 || f == 76 || f == 77 || f == 78)) = false
  simp; omega)
set_option maxRecDepth 100000 in
set_option maxHeartbeats 1000000 in
theorem kx_image (M : MR σ P) (hk : 14 ≤ k) {n : Int} (q0 : ¬ (0 ≤ n ∧ n ≤ 3) → Q (some (vi (-1))) σ)
    (q1 : (0 ≤ n ∧ n ≤ 3) → ∀ σ', MR σ' P → IM σ' n.toNat P → (∀ j : Nat, j ≠ n.toNat → ∀ Pj, IM σ j Pj → IM σ' j Pj) → (∀ c, σ' 21 76 0 c = if c = n.toNat then 1 else σ 21 76 0 c) → same Sim σ σ' → Q (some (vi (P 2 6))) σ') : CC G w w k (0, 0) 246 [vr 21 0 0, vi n] σ Q := by
  by_cases c : 0 ≤ n ∧ n ≤ 3
  · refine CC_of (okY_of (by decide) (by decide)) (Nat.le_of_ble_eq_true rfl) (TT_wf (fun wf => TT_vb ok246 (sm3_ok G w) 60 [] ?_))
    simp -implicitDefEqProofs only [↓b246_0, ↓b246_9, ↓b246_12, ↓b246_14, ↓b246_27, b246_0, b246_9, b246_12, b246_14, b246_27, nLE4, layE8, c, k3_128, r128, n3_245, I32, ↓xb, xb, ps, lpad, lat, aok2, rd2, aaok, aav, alok, alen, aok, akk, csum, isLg, cmpI, clsE, Option.elim, eq_self, List.mem_cons, List.not_mem_nil, or_false, false_or, List.append_nil, List.nil_append, List.cons_append, List.append_eq, List.replicate, List.length_cons, List.length_nil, List.map_cons, List.map_nil, ↓reduceIte, reduceCtorEq, if_true, if_false, true_and, and_true, false_and, and_false, and_self, not_true_eq_false, not_false_eq_true, forall_const, true_implies, false_implies, implies_true, Nat.reduceAdd, Nat.reduceSub, Nat.reduceLT, Nat.reduceLeDiff, Nat.reduceEqDiff, Nat.reduceMul, Nat.reducePow, Nat.add_one_ne_zero, Nat.add_one_sub_one, Nat.add_zero, Nat.zero_add, Int.reduceLT, Int.reduceLE, Int.reduceNeg, Int.reduceAdd, Int.reduceSub, Int.reduceToNat, Int.reduceEq, Int.reduceMul, Int.reducePow, Int.cast_ofNat_Int, Int.toNat_natCast, ne_eq, Bool.false_eq_true, true_or, or_true, or_self, Nat.not_lt_zero, ite_e0, ite_e1, lc_lt, lc_ge, lc_gt, lc_le, lc_eq, Classical.not_not]
    with_reducible repeat' (first | (refine And.intro ?_ ?_) | intro _)
    all_goals try omega
    all_goals first | omega | skip
    have en : vi n = vi ((n.toNat : Nat) : Int) := by rw [show ((n.toNat : Nat) : Int) = n by omega]
    rw [en]
    refine kx_carries0 (by omega) (kk := n.toNat) (by omega) (fun σ1 F => ?_)
    obtain ⟨f1, f2, f3, f4, f5⟩ := F
    have s1 : same Sim σ σ1 := same.trans (same.refl.put rfl) (Sim_f f5)
    have M1 : MR σ1 P := M.sim s1
    have hM1 : ∀ f i, 2 ≤ f → f ≤ 38 → σ1 21 f 0 i = P f i := M1
    have r : Q (some (vi (P 2 6))) σ1 := by
      refine q1 c σ1 M1 (fun f i hi => ?_) (fun j hj Pj h => h.keep (fun c c1 c2 => ?_)) (fun c => ?_) s1
      · have z := lmc_f hi
        refine ⟨(f1 f i z.2 hi).trans ((upp_nf (by omega)).trans (M f i z.1 z.2)), fun h => ?_⟩
        rw [← M f i z.1 z.2]
        exact (wf 21 f 0 i).2 (isL_21 f (by omega))
      · rw [f2 c (by omega), upp_nf (by decide)]
      · rw [f5 21 76 rfl 0 c, up_rd]
        simp
    simp -implicitDefEqProofs only [↓b246_0, ↓b246_9, ↓b246_12, ↓b246_14, ↓b246_27, b246_0, b246_9, b246_12, b246_14, b246_27, nLE4, layE8, hM1, k3_128, r128, n3_245, I32, ↓xb, xb, ps, lpad, lat, aok2, rd2, aaok, aav, alok, alen, aok, akk, csum, isLg, cmpI, clsE, Option.elim, eq_self, List.mem_cons, List.not_mem_nil, or_false, false_or, List.append_nil, List.nil_append, List.cons_append, List.append_eq, List.replicate, List.length_cons, List.length_nil, List.map_cons, List.map_nil, ↓reduceIte, reduceCtorEq, if_true, if_false, true_and, and_true, false_and, and_false, and_self, not_true_eq_false, not_false_eq_true, forall_const, true_implies, false_implies, implies_true, Nat.reduceAdd, Nat.reduceSub, Nat.reduceLT, Nat.reduceLeDiff, Nat.reduceEqDiff, Nat.reduceMul, Nat.reducePow, Nat.add_one_ne_zero, Nat.add_one_sub_one, Nat.add_zero, Nat.zero_add, Int.reduceLT, Int.reduceLE, Int.reduceNeg, Int.reduceAdd, Int.reduceSub, Int.reduceToNat, Int.reduceEq, Int.reduceMul, Int.reducePow, Int.cast_ofNat_Int, Int.toNat_natCast, ne_eq, Bool.false_eq_true, true_or, or_true, or_self, Nat.not_lt_zero, ite_e0, ite_e1, lc_lt, lc_ge, lc_gt, lc_le, lc_eq, Classical.not_not]
    with_reducible repeat' (first | (refine And.intro ?_ ?_) | intro _)
    all_goals try omega
    all_goals exact r
  · refine CC_vb ok246 (by decide) (sm3_ok G w) 60 [14] (Nat.le_of_ble_eq_true rfl) ?_
    simp -implicitDefEqProofs only [↓b246_0, ↓b246_9, ↓b246_12, ↓b246_14, ↓b246_27, b246_0, b246_9, b246_12, b246_14, b246_27, nLE4, layE8, hk, k3_128, r128, n3_245, I32, ↓xb, xb, ps, lpad, lat, aok2, rd2, aaok, aav, alok, alen, aok, akk, csum, isLg, cmpI, clsE, Option.elim, eq_self, List.mem_cons, List.not_mem_nil, or_false, false_or, List.append_nil, List.nil_append, List.cons_append, List.append_eq, List.replicate, List.length_cons, List.length_nil, List.map_cons, List.map_nil, ↓reduceIte, reduceCtorEq, if_true, if_false, true_and, and_true, false_and, and_false, and_self, not_true_eq_false, not_false_eq_true, forall_const, true_implies, false_implies, implies_true, Nat.reduceAdd, Nat.reduceSub, Nat.reduceLT, Nat.reduceLeDiff, Nat.reduceEqDiff, Nat.reduceMul, Nat.reducePow, Nat.add_one_ne_zero, Nat.add_one_sub_one, Nat.add_zero, Nat.zero_add, Int.reduceLT, Int.reduceLE, Int.reduceNeg, Int.reduceAdd, Int.reduceSub, Int.reduceToNat, Int.reduceEq, Int.reduceMul, Int.reducePow, Int.cast_ofNat_Int, Int.toNat_natCast, ne_eq, Bool.false_eq_true, true_or, or_true, or_self, Nat.not_lt_zero, ite_e0, ite_e1, lc_lt, lc_ge, lc_gt, lc_le, lc_eq, Classical.not_not]
    with_reducible repeat' (first | (refine And.intro ?_ ?_) | intro _)
    all_goals try omega
    all_goals first | omega | exact q0 c
set_option maxRecDepth 100000 in
set_option maxHeartbeats 1000000 in
theorem kx_backI (M : MR σ P) (Z : ZR P) (hk : 14 ≤ k) {n : Int} {Pn : Pt} (hI : (0 ≤ n ∧ n ≤ 3) ∧ σ 21 76 0 n.toNat ≠ 0 → IM σ n.toNat Pn ∧ ZR Pn) (q0 : ¬ ((0 ≤ n ∧ n ≤ 3) ∧ σ 21 76 0 n.toNat ≠ 0) → Q (some (vi (-1))) σ)
    (q1 : (0 ≤ n ∧ n ≤ 3) ∧ σ 21 76 0 n.toNat ≠ 0 → ∀ σ', MR σ' Pn → same Sbk σ σ' → Q (some (vi (Pn 2 6))) σ') : CC G w w k (0, 0) 247 [vr 21 0 0, vi n] σ Q := by
  by_cases c : (0 ≤ n ∧ n ≤ 3) ∧ σ 21 76 0 n.toNat ≠ 0
  · obtain ⟨I, Zn⟩ := hI c
    have c2 := c.2
    refine CC_vb ok247 (by decide) (sm3_ok G w) 60 [] (Nat.le_of_ble_eq_true rfl) ?_
    simp -implicitDefEqProofs only [↓b247_0, ↓b247_9, ↓b247_12, ↓b247_21, ↓b247_23, ↓b247_29, b247_0, b247_9, b247_12, b247_21, b247_23, b247_29, nLE4, layE8, c2, k3_128, r128, n3_245, I32, ↓xb, xb, ps, lpad, lat, aok2, rd2, aaok, aav, alok, alen, aok, akk, csum, isLg, cmpI, clsE, Option.elim, eq_self, List.mem_cons, List.not_mem_nil, or_false, false_or, List.append_nil, List.nil_append, List.cons_append, List.append_eq, List.replicate, List.length_cons, List.length_nil, List.map_cons, List.map_nil, ↓reduceIte, reduceCtorEq, if_true, if_false, true_and, and_true, false_and, and_false, and_self, not_true_eq_false, not_false_eq_true, forall_const, true_implies, false_implies, implies_true, Nat.reduceAdd, Nat.reduceSub, Nat.reduceLT, Nat.reduceLeDiff, Nat.reduceEqDiff, Nat.reduceMul, Nat.reducePow, Nat.add_one_ne_zero, Nat.add_one_sub_one, Nat.add_zero, Nat.zero_add, Int.reduceLT, Int.reduceLE, Int.reduceNeg, Int.reduceAdd, Int.reduceSub, Int.reduceToNat, Int.reduceEq, Int.reduceMul, Int.reducePow, Int.cast_ofNat_Int, Int.toNat_natCast, ne_eq, Bool.false_eq_true, true_or, or_true, or_self, Nat.not_lt_zero, ite_e0, ite_e1, lc_lt, lc_ge, lc_gt, lc_le, lc_eq, Classical.not_not]
    with_reducible repeat' (first | (refine And.intro ?_ ?_) | intro _)
    all_goals try omega
    all_goals first | omega | skip
    have en : vi n = vi ((n.toNat : Nat) : Int) := by rw [show ((n.toNat : Nat) : Int) = n by omega]
    rw [en]
    refine kx_carries1 (by omega) (kk := n.toNat) (by omega) (fun σ1 F => ?_)
    obtain ⟨f1, f2, f3, f4, f5⟩ := F
    have M1 : MR σ1 Pn := fun f i a b => by
      by_cases h : i < lmc f
      · have z := I f i h
        have e := f1 f i b h
        by_cases h36 : f ≤ 36
        · rw [if_pos h36, z.1] at e
          rw [e]
          have := z.2 h36
          unfold I32 at this
          unfold w32; omega
        · rw [if_neg h36, z.1] at e
          exact e
      · rw [f2 f i b (Or.inr (by omega)), M f i a b, Z f i (by omega), Zn f i (by omega)]
    have hM1 : ∀ f i, 2 ≤ f → f ≤ 38 → σ1 21 f 0 i = Pn f i := M1
    have r := q1 c σ1 M1 f5
    simp -implicitDefEqProofs only [↓b247_0, ↓b247_9, ↓b247_12, ↓b247_21, ↓b247_23, ↓b247_29, b247_0, b247_9, b247_12, b247_21, b247_23, b247_29, nLE4, layE8, hM1, k3_128, r128, n3_245, I32, ↓xb, xb, ps, lpad, lat, aok2, rd2, aaok, aav, alok, alen, aok, akk, csum, isLg, cmpI, clsE, Option.elim, eq_self, List.mem_cons, List.not_mem_nil, or_false, false_or, List.append_nil, List.nil_append, List.cons_append, List.append_eq, List.replicate, List.length_cons, List.length_nil, List.map_cons, List.map_nil, ↓reduceIte, reduceCtorEq, if_true, if_false, true_and, and_true, false_and, and_false, and_self, not_true_eq_false, not_false_eq_true, forall_const, true_implies, false_implies, implies_true, Nat.reduceAdd, Nat.reduceSub, Nat.reduceLT, Nat.reduceLeDiff, Nat.reduceEqDiff, Nat.reduceMul, Nat.reducePow, Nat.add_one_ne_zero, Nat.add_one_sub_one, Nat.add_zero, Nat.zero_add, Int.reduceLT, Int.reduceLE, Int.reduceNeg, Int.reduceAdd, Int.reduceSub, Int.reduceToNat, Int.reduceEq, Int.reduceMul, Int.reducePow, Int.cast_ofNat_Int, Int.toNat_natCast, ne_eq, Bool.false_eq_true, true_or, or_true, or_self, Nat.not_lt_zero, ite_e0, ite_e1, lc_lt, lc_ge, lc_gt, lc_le, lc_eq, Classical.not_not]
    with_reducible repeat' (first | (refine And.intro ?_ ?_) | intro _)
    all_goals try omega
    all_goals exact r
  · refine CC_vb ok247 (by decide) (sm3_ok G w) 60 [23] (Nat.le_of_ble_eq_true rfl) ?_
    simp -implicitDefEqProofs only [↓b247_0, ↓b247_9, ↓b247_12, ↓b247_21, ↓b247_23, ↓b247_29, b247_0, b247_9, b247_12, b247_21, b247_23, b247_29, nLE4, layE8, hk, k3_128, r128, n3_245, I32, ↓xb, xb, ps, lpad, lat, aok2, rd2, aaok, aav, alok, alen, aok, akk, csum, isLg, cmpI, clsE, Option.elim, eq_self, List.mem_cons, List.not_mem_nil, or_false, false_or, List.append_nil, List.nil_append, List.cons_append, List.append_eq, List.replicate, List.length_cons, List.length_nil, List.map_cons, List.map_nil, ↓reduceIte, reduceCtorEq, if_true, if_false, true_and, and_true, false_and, and_false, and_self, not_true_eq_false, not_false_eq_true, forall_const, true_implies, false_implies, implies_true, Nat.reduceAdd, Nat.reduceSub, Nat.reduceLT, Nat.reduceLeDiff, Nat.reduceEqDiff, Nat.reduceMul, Nat.reducePow, Nat.add_one_ne_zero, Nat.add_one_sub_one, Nat.add_zero, Nat.zero_add, Int.reduceLT, Int.reduceLE, Int.reduceNeg, Int.reduceAdd, Int.reduceSub, Int.reduceToNat, Int.reduceEq, Int.reduceMul, Int.reducePow, Int.cast_ofNat_Int, Int.toNat_natCast, ne_eq, Bool.false_eq_true, true_or, or_true, or_self, Nat.not_lt_zero, ite_e0, ite_e1, lc_lt, lc_ge, lc_gt, lc_le, lc_eq, Classical.not_not]
    with_reducible repeat' (first | (refine And.intro ?_ ?_) | intro _)
    all_goals try omega
    all_goals first | omega | exact q0 c | exact q0 (fun z => by omega)
/-- the class's images: which there are, and that they stand where they should -/
def MGs (w : Wd) (σ : Mem) (b : Nat → Prop) : Prop := ∀ i : Nat, i < 4 → (¬ b i → σ 0 3 0 i = 0) ∧ (b i → σ 0 3 0 i = enc (3 + i) 0 0 ∧ w (3 + i) = true)
set_option maxRecDepth 100000 in
set_option maxHeartbeats 1000000 in
theorem kc_back {b : Nat → Prop} (L : MGs w σ b) (hk : 14 ≤ k) {n : Int} {Pn : Pt} (hI : (0 ≤ n ∧ n ≤ 3) ∧ b n.toNat → RT True σ (3 + n.toNat) Pn ∧ WF Pn ∧ NRs σ (3 + n.toNat) Pn ∧ WRs σ (3 + n.toNat) Pn) (q0 : ¬ ((0 ≤ n ∧ n ≤ 3) ∧ b n.toNat) → Q (some (vi (-1))) σ)
    (q1 : (0 ≤ n ∧ n ≤ 3) ∧ b n.toNat → ∀ σ', TF σ' Pn → same (fun o _ => o == 1) σ σ' → Q (some (vi (Pn 2 6))) σ') : CC G w w k (0, 0) 126 [vr 0 0 0, vi n] σ Q := by
  by_cases c0 : 0 ≤ n ∧ n ≤ 3
  · obtain ⟨l1, l2⟩ := L n.toNat (by omega)
    by_cases c1 : b n.toNat
    · obtain ⟨R, W, N, Wr⟩ := hI ⟨c0, c1⟩
      obtain ⟨l3, l4⟩ := l2 c1
      have hd : dec (σ 0 3 0 n.toNat) = vr (3 + n.toNat) 0 0 := by rw [l3]; exact dec_enc _ _ _ (by omega) (by omega)
      have hw : wfv w (vr (3 + n.toNat) 0 0) := wfv_o l4 (by omega)
      have hc : cls (3 + n.toNat) = 4 := by unfold cls; rw [if_neg (by omega), if_pos (by omega)]
      refine CC_vb ok126 (by decide) (sm3_ok G w) 60 [] (Nat.le_of_ble_eq_true rfl) ?_
      simp -implicitDefEqProofs only [↓b126_0, ↓b126_6, ↓b126_9, ↓b126_11, ↓b126_17, ↓b126_22, ↓b126_24, ↓b126_32, b126_0, b126_6, b126_9, b126_11, b126_17, b126_22, b126_24, b126_32, nLE2, layE7, layE4, layE3, layE2, hd, hw, k3_76, r76, n3_43, I32, ↓xb, xb, ps, lpad, lat, aok2, rd2, aaok, aav, alok, alen, aok, akk, csum, isLg, cmpI, clsE, Option.elim, eq_self, List.mem_cons, List.not_mem_nil, or_false, false_or, List.append_nil, List.nil_append, List.cons_append, List.append_eq, List.replicate, List.length_cons, List.length_nil, List.map_cons, List.map_nil, ↓reduceIte, reduceCtorEq, if_true, if_false, true_and, and_true, false_and, and_false, and_self, not_true_eq_false, not_false_eq_true, forall_const, true_implies, false_implies, implies_true, Nat.reduceAdd, Nat.reduceSub, Nat.reduceLT, Nat.reduceLeDiff, Nat.reduceEqDiff, Nat.reduceMul, Nat.reducePow, Nat.add_one_ne_zero, Nat.add_one_sub_one, Nat.add_zero, Nat.zero_add, Int.reduceLT, Int.reduceLE, Int.reduceNeg, Int.reduceAdd, Int.reduceSub, Int.reduceToNat, Int.reduceEq, Int.reduceMul, Int.reducePow, Int.cast_ofNat_Int, Int.toNat_natCast, ne_eq, Bool.false_eq_true, true_or, or_true, or_self, Nat.not_lt_zero, ite_e0, ite_e1, lc_lt, lc_ge, lc_gt, lc_le, lc_eq, Classical.not_not]
      with_reducible repeat' (first | (refine And.intro ?_ ?_) | intro _)
      all_goals try omega
      all_goals first | omega | skip
      refine kc_copy (by omega) (a := 3 + n.toNat) (b := 1) (by omega) hc (by omega) (by decide) (by decide) (fun σ1 h => ?_)
      have R1 := R.copied h
      have e7 := R1.now
      have r := q1 ⟨c0, c1⟩ σ1 ⟨R1, Wr.copied h, N.copied W h⟩ (h.2.mono (fun o f z => by
        have z' : (o == 1 && decide (f ≤ 20)) = true := z
        rw [Bool.and_eq_true] at z'
        exact z'.1))
      simp -implicitDefEqProofs only [↓b126_0, ↓b126_6, ↓b126_9, ↓b126_11, ↓b126_17, ↓b126_22, ↓b126_24, ↓b126_32, b126_0, b126_6, b126_9, b126_11, b126_17, b126_22, b126_24, b126_32, nLE2, layE7, layE4, layE3, layE2, e7, k3_76, r76, n3_43, I32, ↓xb, xb, ps, lpad, lat, aok2, rd2, aaok, aav, alok, alen, aok, akk, csum, isLg, cmpI, clsE, Option.elim, eq_self, List.mem_cons, List.not_mem_nil, or_false, false_or, List.append_nil, List.nil_append, List.cons_append, List.append_eq, List.replicate, List.length_cons, List.length_nil, List.map_cons, List.map_nil, ↓reduceIte, reduceCtorEq, if_true, if_false, true_and, and_true, false_and, and_false, and_self, not_true_eq_false, not_false_eq_true, forall_const, true_implies, false_implies, implies_true, Nat.reduceAdd, Nat.reduceSub, Nat.reduceLT, Nat.reduceLeDiff, Nat.reduceEqDiff, Nat.reduceMul, Nat.reducePow, Nat.add_one_ne_zero, Nat.add_one_sub_one, Nat.add_zero, Nat.zero_add, Int.reduceLT, Int.reduceLE, Int.reduceNeg, Int.reduceAdd, Int.reduceSub, Int.reduceToNat, Int.reduceEq, Int.reduceMul, Int.reducePow, Int.cast_ofNat_Int, Int.toNat_natCast, ne_eq, Bool.false_eq_true, true_or, or_true, or_self, Nat.not_lt_zero, ite_e0, ite_e1, lc_lt, lc_ge, lc_gt, lc_le, lc_eq, Classical.not_not]
      with_reducible repeat' (first | (refine And.intro ?_ ?_) | intro _)
      all_goals try omega
      all_goals exact r
    · have hd : dec (σ 0 3 0 n.toNat) = vn := by rw [l1 c1]; rfl
      refine CC_vb ok126 (by decide) (sm3_ok G w) 60 [] (Nat.le_of_ble_eq_true rfl) ?_
      simp -implicitDefEqProofs only [↓b126_0, ↓b126_6, ↓b126_9, ↓b126_11, ↓b126_17, ↓b126_22, ↓b126_24, ↓b126_32, b126_0, b126_6, b126_9, b126_11, b126_17, b126_22, b126_24, b126_32, nLE2, layE7, layE4, layE3, layE2, hd, wfv, k3_76, r76, n3_43, I32, ↓xb, xb, ps, lpad, lat, aok2, rd2, aaok, aav, alok, alen, aok, akk, csum, isLg, cmpI, clsE, Option.elim, eq_self, List.mem_cons, List.not_mem_nil, or_false, false_or, List.append_nil, List.nil_append, List.cons_append, List.append_eq, List.replicate, List.length_cons, List.length_nil, List.map_cons, List.map_nil, ↓reduceIte, reduceCtorEq, if_true, if_false, true_and, and_true, false_and, and_false, and_self, not_true_eq_false, not_false_eq_true, forall_const, true_implies, false_implies, implies_true, Nat.reduceAdd, Nat.reduceSub, Nat.reduceLT, Nat.reduceLeDiff, Nat.reduceEqDiff, Nat.reduceMul, Nat.reducePow, Nat.add_one_ne_zero, Nat.add_one_sub_one, Nat.add_zero, Nat.zero_add, Int.reduceLT, Int.reduceLE, Int.reduceNeg, Int.reduceAdd, Int.reduceSub, Int.reduceToNat, Int.reduceEq, Int.reduceMul, Int.reducePow, Int.cast_ofNat_Int, Int.toNat_natCast, ne_eq, Bool.false_eq_true, true_or, or_true, or_self, Nat.not_lt_zero, ite_e0, ite_e1, lc_lt, lc_ge, lc_gt, lc_le, lc_eq, Classical.not_not]
      with_reducible repeat' (first | (refine And.intro ?_ ?_) | intro _)
      all_goals try omega
      all_goals first | omega | exact q0 (fun z => c1 z.2)
  · refine CC_vb ok126 (by decide) (sm3_ok G w) 60 [11] (Nat.le_of_ble_eq_true rfl) ?_
    simp -implicitDefEqProofs only [↓b126_0, ↓b126_6, ↓b126_9, ↓b126_11, ↓b126_17, ↓b126_22, ↓b126_24, ↓b126_32, b126_0, b126_6, b126_9, b126_11, b126_17, b126_22, b126_24, b126_32, nLE2, layE7, layE4, layE3, layE2, hk, k3_76, r76, n3_43, I32, ↓xb, xb, ps, lpad, lat, aok2, rd2, aaok, aav, alok, alen, aok, akk, csum, isLg, cmpI, clsE, Option.elim, eq_self, List.mem_cons, List.not_mem_nil, or_false, false_or, List.append_nil, List.nil_append, List.cons_append, List.append_eq, List.replicate, List.length_cons, List.length_nil, List.map_cons, List.map_nil, ↓reduceIte, reduceCtorEq, if_true, if_false, true_and, and_true, false_and, and_false, and_self, not_true_eq_false, not_false_eq_true, forall_const, true_implies, false_implies, implies_true, Nat.reduceAdd, Nat.reduceSub, Nat.reduceLT, Nat.reduceLeDiff, Nat.reduceEqDiff, Nat.reduceMul, Nat.reducePow, Nat.add_one_ne_zero, Nat.add_one_sub_one, Nat.add_zero, Nat.zero_add, Int.reduceLT, Int.reduceLE, Int.reduceNeg, Int.reduceAdd, Int.reduceSub, Int.reduceToNat, Int.reduceEq, Int.reduceMul, Int.reducePow, Int.cast_ofNat_Int, Int.toNat_natCast, ne_eq, Bool.false_eq_true, true_or, or_true, or_self, Nat.not_lt_zero, ite_e0, ite_e1, lc_lt, lc_ge, lc_gt, lc_le, lc_eq, Classical.not_not]
    with_reducible repeat' (first | (refine And.intro ?_ ?_) | intro _)
    all_goals try omega
    all_goals first | omega | exact q0 (fun z => c0 z.1)
end BCK

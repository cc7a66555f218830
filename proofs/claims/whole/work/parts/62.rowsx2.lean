/-! 62.rowsx2: rows (check): all rows, in order -/
abbrev Srx : Nat → Nat → Bool := fun o f => o == 21 && (f == 71 || f == 72 || f == 73)
theorem Srx_1 {σ σ' : Mem} {g : Nat} (hg : g = 71 ∨ g = 72 ∨ g = 73) (h : same (Sf g) σ σ') : same Srx σ σ' := Sf_k h (by rcases hg with rfl | rfl | rfl <;> rfl)
def LRx (lx : Int) (a : (Nat → Int) × Int) : Prop := (lx = -1 ∧ a.2 = 1000000) ∨ (lx = a.2 ∧ 0 ≤ lx ∧ lx < 1000000)
section RX2
variable {G : Gl} {w : Wd} {k : Nat} {σ : Mem} {Q : Option AV → Mem → Prop} {P : Pt}
theorem MR.srx {σ' : Mem} (M : MR σ P) (hs : same Srx σ σ') : MR σ' P := M.keep hs (fun f a b => by
  show ((21 : Nat) == 21 && (f == 71 || f == 72 || f == 73)) = false
  simp; omega)
/-- where a row is taken; where the next is asked for -/
abbrev HdX (G : Gl) (w : Wd) (k : Nat) (Q : Option AV → Mem → Prop) (n kk f : Int) (pc : Nat) (lx : Int) (σ : Mem) : Prop := ∀ l6 : Option AV, TT G w w w k (0, 0) 230 pc [some (vr 21 0 0), some (vi n), some (vi kk), some (vi f), some (vi lx), some (vi 1), l6] [] σ Q
set_option maxRecDepth 100000 in
set_option maxHeartbeats 1000000 in
theorem kx_ev (M : MR σ P) (W : WF P) (hk : 16 ≤ k) {n : Nat} (hn : 1 ≤ n ∧ n ≤ 7) {kk f lx : Int} {r : Nat → Int} (hr : ∀ j, j < n → σ 21 71 0 j = r j ∧ 0 ≤ r j ∧ r j < 5) {a : (Nat → Int) × Int} (hl : LRx lx a) (hb : agn n a.1 (fun j => σ 21 72 0 j))
    (K : ∀ (lx' : Int) (σ' : Mem), LRx lx' (srF P 0 n r (stF P r n) a) → agn n (srF P 0 n r (stF P r n) a).1 (fun j => σ' 21 72 0 j) → (∀ j, σ' 21 71 0 j = σ 21 71 0 j) → same Srx σ σ' → HdX G w k Q n kk f 128 lx' σ') : HdX G w k Q n kk f 93 lx σ := fun l6 => by
  have sr := (st_r W (r := r) n).2
  have e : srF P 0 n r (stF P r n) a = if (stF P r n).2 < a.2 then (r, (stF P r n).2) else a := rfl
  rw [e] at K
  refine TT_vb ok230 (sm3_ok G w) 60 [128] ?_
  simp -implicitDefEqProofs only [↓b230_0, ↓b230_9, ↓b230_12, ↓b230_24, ↓b230_27, ↓b230_29, ↓b230_31, ↓b230_36, ↓b230_45, ↓b230_51, ↓b230_56, ↓b230_59, ↓b230_62, ↓b230_68, ↓b230_82, ↓b230_88, ↓b230_93, ↓b230_98, ↓b230_106, ↓b230_113, ↓b230_128, ↓b230_134, ↓b230_139, ↓b230_144, ↓b230_149, ↓b230_155, b230_0, b230_9, b230_12, b230_24, b230_27, b230_29, b230_31, b230_36, b230_45, b230_51, b230_56, b230_59, b230_62, b230_68, b230_82, b230_88, b230_93, b230_98, b230_106, b230_113, b230_128, b230_134, b230_139, b230_144, b230_149, b230_155, nLE4, layE8, hk, k3_128, r128, n3_229, n3_201, n3_231, I32, ↓xb, xb, ps, lpad, lat, aok2, rd2, aaok, aav, alok, alen, aok, akk, csum, isLg, cmpI, clsE, Option.elim, eq_self, List.mem_cons, List.not_mem_nil, or_false, false_or, List.append_nil, List.nil_append, List.cons_append, List.append_eq, List.replicate, List.length_cons, List.length_nil, List.map_cons, List.map_nil, ↓reduceIte, reduceCtorEq, if_true, if_false, true_and, and_true, false_and, and_false, and_self, not_true_eq_false, not_false_eq_true, forall_const, true_implies, false_implies, implies_true, Nat.reduceAdd, Nat.reduceSub, Nat.reduceLT, Nat.reduceLeDiff, Nat.reduceEqDiff, Nat.reduceMul, Nat.reducePow, Nat.add_one_ne_zero, Nat.add_one_sub_one, Nat.add_zero, Nat.zero_add, Int.reduceLT, Int.reduceLE, Int.reduceNeg, Int.reduceAdd, Int.reduceSub, Int.reduceToNat, Int.reduceEq, Int.reduceMul, Int.reducePow, Int.cast_ofNat_Int, Int.toNat_natCast, ne_eq, Bool.false_eq_true, true_or, or_true, or_self, Nat.not_lt_zero, ite_e0, ite_e1, lc_lt, lc_ge, lc_gt, lc_le, lc_eq, Classical.not_not]
  with_reducible repeat' (first | (refine And.intro ?_ ?_) | intro _)
  all_goals try omega
  refine kx_hr M W (by omega) hn.2 hr (fun σ1 s1 => ?_)
  have s1' : same Srx σ σ1 := Srx_1 (by omega) s1
  have r1 : ∀ j, σ1 21 71 0 j = σ 21 71 0 j := fun j => s1 21 71 rfl 0 j
  have take : (stF P r n).2 < a.2 → ∀ l6, CCm G w k 201 [vr 21 71 0, vr 21 72 0] σ1 (fun rv s9 => vb1 G w w k 2 sm3 (CCm G w k) [128] Q (Tk G w w w k (0, 0) 230 Q) 230 57 128 [some (vr 21 0 0), some (vi n), some (vi kk), some (vi f), some (vi (stF P r n).2), some (vi 1), l6] (ps rv []) s9) ∨ True := fun _ _ => Or.inr trivial
  rcases hl with ⟨l1, l2⟩ | ⟨l1, l2, l3⟩
  · have c : (stF P r n).2 < a.2 := by omega
    rw [if_pos c] at K
    have l1' := eq_true l1
    simp -implicitDefEqProofs only [↓b230_0, ↓b230_9, ↓b230_12, ↓b230_24, ↓b230_27, ↓b230_29, ↓b230_31, ↓b230_36, ↓b230_45, ↓b230_51, ↓b230_56, ↓b230_59, ↓b230_62, ↓b230_68, ↓b230_82, ↓b230_88, ↓b230_93, ↓b230_98, ↓b230_106, ↓b230_113, ↓b230_128, ↓b230_134, ↓b230_139, ↓b230_144, ↓b230_149, ↓b230_155, b230_0, b230_9, b230_12, b230_24, b230_27, b230_29, b230_31, b230_36, b230_45, b230_51, b230_56, b230_59, b230_62, b230_68, b230_82, b230_88, b230_93, b230_98, b230_106, b230_113, b230_128, b230_134, b230_139, b230_144, b230_149, b230_155, nLE4, layE8, l1', k3_128, r128, n3_229, n3_201, n3_231, I32, ↓xb, xb, ps, lpad, lat, aok2, rd2, aaok, aav, alok, alen, aok, akk, csum, isLg, cmpI, clsE, Option.elim, eq_self, List.mem_cons, List.not_mem_nil, or_false, false_or, List.append_nil, List.nil_append, List.cons_append, List.append_eq, List.replicate, List.length_cons, List.length_nil, List.map_cons, List.map_nil, ↓reduceIte, reduceCtorEq, if_true, if_false, true_and, and_true, false_and, and_false, and_self, not_true_eq_false, not_false_eq_true, forall_const, true_implies, false_implies, implies_true, Nat.reduceAdd, Nat.reduceSub, Nat.reduceLT, Nat.reduceLeDiff, Nat.reduceEqDiff, Nat.reduceMul, Nat.reducePow, Nat.add_one_ne_zero, Nat.add_one_sub_one, Nat.add_zero, Nat.zero_add, Int.reduceLT, Int.reduceLE, Int.reduceNeg, Int.reduceAdd, Int.reduceSub, Int.reduceToNat, Int.reduceEq, Int.reduceMul, Int.reducePow, Int.cast_ofNat_Int, Int.toNat_natCast, ne_eq, Bool.false_eq_true, true_or, or_true, or_self, Nat.not_lt_zero, ite_e0, ite_e1, lc_lt, lc_ge, lc_gt, lc_le, lc_eq, Classical.not_not]
    with_reducible repeat' (first | (refine And.intro ?_ ?_) | intro _)
    all_goals try omega
    refine kx_cp (by omega) (f := 71) (g := 72) (by decide) (by decide) (by decide) (by decide) (by decide) rfl rfl (by decide) (fun σ3 a3 _ s3 => ?_)
    simp -implicitDefEqProofs only [↓b230_0, ↓b230_9, ↓b230_12, ↓b230_24, ↓b230_27, ↓b230_29, ↓b230_31, ↓b230_36, ↓b230_45, ↓b230_51, ↓b230_56, ↓b230_59, ↓b230_62, ↓b230_68, ↓b230_82, ↓b230_88, ↓b230_93, ↓b230_98, ↓b230_106, ↓b230_113, ↓b230_128, ↓b230_134, ↓b230_139, ↓b230_144, ↓b230_149, ↓b230_155, b230_0, b230_9, b230_12, b230_24, b230_27, b230_29, b230_31, b230_36, b230_45, b230_51, b230_56, b230_59, b230_62, b230_68, b230_82, b230_88, b230_93, b230_98, b230_106, b230_113, b230_128, b230_134, b230_139, b230_144, b230_149, b230_155, nLE4, layE8, hk, k3_128, r128, n3_229, n3_201, n3_231, I32, ↓xb, xb, ps, lpad, lat, aok2, rd2, aaok, aav, alok, alen, aok, akk, csum, isLg, cmpI, clsE, Option.elim, eq_self, List.mem_cons, List.not_mem_nil, or_false, false_or, List.append_nil, List.nil_append, List.cons_append, List.append_eq, List.replicate, List.length_cons, List.length_nil, List.map_cons, List.map_nil, ↓reduceIte, reduceCtorEq, if_true, if_false, true_and, and_true, false_and, and_false, and_self, not_true_eq_false, not_false_eq_true, forall_const, true_implies, false_implies, implies_true, Nat.reduceAdd, Nat.reduceSub, Nat.reduceLT, Nat.reduceLeDiff, Nat.reduceEqDiff, Nat.reduceMul, Nat.reducePow, Nat.add_one_ne_zero, Nat.add_one_sub_one, Nat.add_zero, Nat.zero_add, Int.reduceLT, Int.reduceLE, Int.reduceNeg, Int.reduceAdd, Int.reduceSub, Int.reduceToNat, Int.reduceEq, Int.reduceMul, Int.reducePow, Int.cast_ofNat_Int, Int.toNat_natCast, ne_eq, Bool.false_eq_true, true_or, or_true, or_self, Nat.not_lt_zero, ite_e0, ite_e1, lc_lt, lc_ge, lc_gt, lc_le, lc_eq, Classical.not_not]
    with_reducible repeat' (first | (refine And.intro ?_ ?_) | intro _)
    all_goals try omega
    exact K _ σ3 (Or.inr ⟨rfl, sr.1, by show (stF P r n).2 < 1000000; omega⟩) (fun c hc => by
      show r c = σ3 21 72 0 c
      rw [a3 c (by omega), r1]; exact (hr c hc).1.symm) (fun j => (s3 21 71 rfl 0 j).trans (r1 j)) (s1'.trans (Srx_1 (by omega) s3)) _
  · have l1' : ¬ lx = -1 := by omega
    by_cases c : (stF P r n).2 < a.2
    · rw [if_pos c] at K
      have c' : ¬ lx ≤ (stF P r n).2 := by omega
      simp -implicitDefEqProofs only [↓b230_0, ↓b230_9, ↓b230_12, ↓b230_24, ↓b230_27, ↓b230_29, ↓b230_31, ↓b230_36, ↓b230_45, ↓b230_51, ↓b230_56, ↓b230_59, ↓b230_62, ↓b230_68, ↓b230_82, ↓b230_88, ↓b230_93, ↓b230_98, ↓b230_106, ↓b230_113, ↓b230_128, ↓b230_134, ↓b230_139, ↓b230_144, ↓b230_149, ↓b230_155, b230_0, b230_9, b230_12, b230_24, b230_27, b230_29, b230_31, b230_36, b230_45, b230_51, b230_56, b230_59, b230_62, b230_68, b230_82, b230_88, b230_93, b230_98, b230_106, b230_113, b230_128, b230_134, b230_139, b230_144, b230_149, b230_155, nLE4, layE8, l1', c', k3_128, r128, n3_229, n3_201, n3_231, I32, ↓xb, xb, ps, lpad, lat, aok2, rd2, aaok, aav, alok, alen, aok, akk, csum, isLg, cmpI, clsE, Option.elim, eq_self, List.mem_cons, List.not_mem_nil, or_false, false_or, List.append_nil, List.nil_append, List.cons_append, List.append_eq, List.replicate, List.length_cons, List.length_nil, List.map_cons, List.map_nil, ↓reduceIte, reduceCtorEq, if_true, if_false, true_and, and_true, false_and, and_false, and_self, not_true_eq_false, not_false_eq_true, forall_const, true_implies, false_implies, implies_true, Nat.reduceAdd, Nat.reduceSub, Nat.reduceLT, Nat.reduceLeDiff, Nat.reduceEqDiff, Nat.reduceMul, Nat.reducePow, Nat.add_one_ne_zero, Nat.add_one_sub_one, Nat.add_zero, Nat.zero_add, Int.reduceLT, Int.reduceLE, Int.reduceNeg, Int.reduceAdd, Int.reduceSub, Int.reduceToNat, Int.reduceEq, Int.reduceMul, Int.reducePow, Int.cast_ofNat_Int, Int.toNat_natCast, ne_eq, Bool.false_eq_true, true_or, or_true, or_self, Nat.not_lt_zero, ite_e0, ite_e1, lc_lt, lc_ge, lc_gt, lc_le, lc_eq, Classical.not_not]
      with_reducible repeat' (first | (refine And.intro ?_ ?_) | intro _)
      all_goals try omega
      refine kx_cp (by omega) (f := 71) (g := 72) (by decide) (by decide) (by decide) (by decide) (by decide) rfl rfl (by decide) (fun σ3 a3 _ s3 => ?_)
      simp -implicitDefEqProofs only [↓b230_0, ↓b230_9, ↓b230_12, ↓b230_24, ↓b230_27, ↓b230_29, ↓b230_31, ↓b230_36, ↓b230_45, ↓b230_51, ↓b230_56, ↓b230_59, ↓b230_62, ↓b230_68, ↓b230_82, ↓b230_88, ↓b230_93, ↓b230_98, ↓b230_106, ↓b230_113, ↓b230_128, ↓b230_134, ↓b230_139, ↓b230_144, ↓b230_149, ↓b230_155, b230_0, b230_9, b230_12, b230_24, b230_27, b230_29, b230_31, b230_36, b230_45, b230_51, b230_56, b230_59, b230_62, b230_68, b230_82, b230_88, b230_93, b230_98, b230_106, b230_113, b230_128, b230_134, b230_139, b230_144, b230_149, b230_155, nLE4, layE8, hk, k3_128, r128, n3_229, n3_201, n3_231, I32, ↓xb, xb, ps, lpad, lat, aok2, rd2, aaok, aav, alok, alen, aok, akk, csum, isLg, cmpI, clsE, Option.elim, eq_self, List.mem_cons, List.not_mem_nil, or_false, false_or, List.append_nil, List.nil_append, List.cons_append, List.append_eq, List.replicate, List.length_cons, List.length_nil, List.map_cons, List.map_nil, ↓reduceIte, reduceCtorEq, if_true, if_false, true_and, and_true, false_and, and_false, and_self, not_true_eq_false, not_false_eq_true, forall_const, true_implies, false_implies, implies_true, Nat.reduceAdd, Nat.reduceSub, Nat.reduceLT, Nat.reduceLeDiff, Nat.reduceEqDiff, Nat.reduceMul, Nat.reducePow, Nat.add_one_ne_zero, Nat.add_one_sub_one, Nat.add_zero, Nat.zero_add, Int.reduceLT, Int.reduceLE, Int.reduceNeg, Int.reduceAdd, Int.reduceSub, Int.reduceToNat, Int.reduceEq, Int.reduceMul, Int.reducePow, Int.cast_ofNat_Int, Int.toNat_natCast, ne_eq, Bool.false_eq_true, true_or, or_true, or_self, Nat.not_lt_zero, ite_e0, ite_e1, lc_lt, lc_ge, lc_gt, lc_le, lc_eq, Classical.not_not]
      with_reducible repeat' (first | (refine And.intro ?_ ?_) | intro _)
      all_goals try omega
      exact K _ σ3 (Or.inr ⟨rfl, sr.1, by show (stF P r n).2 < 1000000; omega⟩) (fun c hc => by
        show r c = σ3 21 72 0 c
        rw [a3 c (by omega), r1]; exact (hr c hc).1.symm) (fun j => (s3 21 71 rfl 0 j).trans (r1 j)) (s1'.trans (Srx_1 (by omega) s3)) _
    · rw [if_neg c] at K
      have c' : lx ≤ (stF P r n).2 := by omega
      simp -implicitDefEqProofs only [↓b230_0, ↓b230_9, ↓b230_12, ↓b230_24, ↓b230_27, ↓b230_29, ↓b230_31, ↓b230_36, ↓b230_45, ↓b230_51, ↓b230_56, ↓b230_59, ↓b230_62, ↓b230_68, ↓b230_82, ↓b230_88, ↓b230_93, ↓b230_98, ↓b230_106, ↓b230_113, ↓b230_128, ↓b230_134, ↓b230_139, ↓b230_144, ↓b230_149, ↓b230_155, b230_0, b230_9, b230_12, b230_24, b230_27, b230_29, b230_31, b230_36, b230_45, b230_51, b230_56, b230_59, b230_62, b230_68, b230_82, b230_88, b230_93, b230_98, b230_106, b230_113, b230_128, b230_134, b230_139, b230_144, b230_149, b230_155, nLE4, layE8, l1', c', k3_128, r128, n3_229, n3_201, n3_231, I32, ↓xb, xb, ps, lpad, lat, aok2, rd2, aaok, aav, alok, alen, aok, akk, csum, isLg, cmpI, clsE, Option.elim, eq_self, List.mem_cons, List.not_mem_nil, or_false, false_or, List.append_nil, List.nil_append, List.cons_append, List.append_eq, List.replicate, List.length_cons, List.length_nil, List.map_cons, List.map_nil, ↓reduceIte, reduceCtorEq, if_true, if_false, true_and, and_true, false_and, and_false, and_self, not_true_eq_false, not_false_eq_true, forall_const, true_implies, false_implies, implies_true, Nat.reduceAdd, Nat.reduceSub, Nat.reduceLT, Nat.reduceLeDiff, Nat.reduceEqDiff, Nat.reduceMul, Nat.reducePow, Nat.add_one_ne_zero, Nat.add_one_sub_one, Nat.add_zero, Nat.zero_add, Int.reduceLT, Int.reduceLE, Int.reduceNeg, Int.reduceAdd, Int.reduceSub, Int.reduceToNat, Int.reduceEq, Int.reduceMul, Int.reducePow, Int.cast_ofNat_Int, Int.toNat_natCast, ne_eq, Bool.false_eq_true, true_or, or_true, or_self, Nat.not_lt_zero, ite_e0, ite_e1, lc_lt, lc_ge, lc_gt, lc_le, lc_eq, Classical.not_not]
      with_reducible repeat' (first | (refine And.intro ?_ ?_) | intro _)
      all_goals try omega
      exact K _ σ1 (Or.inr ⟨l1, l2, l3⟩) (fun c hc => (hb c hc).trans (s1 21 72 rfl 0 c).symm) r1 s1' _
set_option maxRecDepth 100000 in
set_option maxHeartbeats 1000000 in
theorem kx_odo (W : WF P) (hk : 18 ≤ k) {n : Nat} (hn : 1 ≤ n ∧ n ≤ 7) {kk : Int} {fst : Nat} (hf : fst < 5 ∧ 0 < P 34 fst ∧ ∀ z, z < fst → P 34 z = 0) : ∀ (d t : Nat) (r : Nat → Int) (σ : Mem) (a : (Nat → Int) × Int) (lx : Int), t + d = n → MR σ P → (∀ j, j < t → σ 21 71 0 j = r j ∧ 0 ≤ r j ∧ r j < 5) → (∀ j, t ≤ j → j < n → σ 21 71 0 j = fst) → LRx lx a → agn n a.1 (fun j => σ 21 72 0 j) →
    (∀ (lx' : Int) (σ' : Mem), LRx lx' (srF P d t r (stF P r t) a) → agn n (srF P d t r (stF P r t) a).1 (fun j => σ' 21 72 0 j) → (∀ j, j < t → σ' 21 71 0 j = r j) → (∀ j, t ≤ j → j < n → (0 ≤ σ' 21 71 0 j ∧ σ' 21 71 0 j < 5) ∧ NoN P (σ' 21 71 0 j)) → same Srx σ σ' → HdX G w k Q n kk fst 128 lx' σ') →
    HdX G w k Q n kk fst 93 lx σ := by
  intro d
  induction d with
  | zero =>
    intro t r σ a lx htn M hr _ hl hb K
    have tn : t = n := by omega
    subst tn
    exact kx_ev M W (by omega) hn hr hl hb (fun lx' σ' h1 h2 h3 h4 => K lx' σ' h1 h2 (fun j hj => (h3 j).trans (hr j hj).1) (fun j h1 h2 => by omega) h4)
  | succ d ihd =>
    intro t r σ a lx htn M hr hff hl hb K
    -- by the turners that are left at place t
    have Y : ∀ (m : Nat) (wh : Nat) (σ1 : Mem) (a1 : (Nat → Int) × Int) (lx1 : Int), wh + m = 4 → 0 < P 34 wh → MR σ1 P → (∀ j, j < t → σ1 21 71 0 j = r j) → σ1 21 71 0 t = wh → (∀ j, t + 1 ≤ j → j < n → σ1 21 71 0 j = fst) → LRx lx1 a1 → agn n a1.1 (fun j => σ1 21 72 0 j) → same Srx σ σ1 → srF P (d + 1) t r (stF P r t) a = lpF (fun w a => if 0 < P 34 w then srF P d (t + 1) (upd1 r t w) (ndF P w (stF P r t)) a else a) (5 - wh) wh a1 → HdX G w k Q n kk fst 93 lx1 σ1 := by
      intro m
      induction m using Nat.strongRecOn with
      | _ m ihm =>
        intro wh σ1 a1 lx1 hw hp M1 hr1 ht1 hf1 hl1 hb1 s1 he
        have st' : stF P (upd1 r t wh) (t + 1) = ndF P wh (stF P r t) := by
          have e1 : stF P (upd1 r t wh) (t + 1) = ndF P (upd1 r t wh t).toNat (stF P (upd1 r t wh) t) := rfl
          rw [e1, upd1_eq, st_c (r := upd1 r t wh) (r' := r) t (fun j hj => upd1_ne (by omega)), show ((wh : Nat) : Int).toNat = wh by omega]
        refine ihd (t + 1) (upd1 r t wh) σ1 a1 lx1 (by omega) M1 (fun j hj => ?_) hf1 hl1 hb1 (fun lx2 σ2 g1 g2 g3 g4 g5 => ?_)
        · by_cases e : j = t
          · subst e; rw [upd1_eq]; exact ⟨ht1, by omega, by omega⟩
          · rw [upd1_ne e]
            have := hr j (by omega)
            exact ⟨hr1 j (by omega), this.2⟩
        · rw [st'] at g1 g2
          have M2 := M1.srx g5
          have rt2 : σ2 21 71 0 t = wh := by rw [g3 t (by omega), upd1_eq]
          have rj2 : ∀ j, j < t → σ2 21 71 0 j = r j := fun j hj => by rw [g3 j (by omega), upd1_ne (by omega)]
          have e2 : lpF (fun w a => if 0 < P 34 w then srF P d (t + 1) (upd1 r t w) (ndF P w (stF P r t)) a else a) (5 - wh) wh a1 = lpF (fun w a => if 0 < P 34 w then srF P d (t + 1) (upd1 r t w) (ndF P w (stF P r t)) a else a) (5 - (wh + 1)) (wh + 1) (srF P d (t + 1) (upd1 r t wh) (ndF P wh (stF P r t)) a1) := by
            rw [show 5 - wh = (5 - (wh + 1)) + 1 by omega]
            show lpF _ (5 - (wh + 1)) (wh + 1) (if 0 < P 34 wh then srF P d (t + 1) (upd1 r t wh) (ndF P wh (stF P r t)) a1 else a1) = _
            rw [if_pos hp]
          rw [e2] at he
          by_cases nx : ∃ y, wh < y ∧ y < 5 ∧ 0 < P 34 y ∧ ∀ z, wh < z → z < y → P 34 z = 0
          · obtain ⟨y, y1, y2, y3, y4⟩ := nx
            intro l6
            refine TT_vb ok230 (sm3_ok G w) 60 [93] ?_
            simp -implicitDefEqProofs only [↓b230_0, ↓b230_9, ↓b230_12, ↓b230_24, ↓b230_27, ↓b230_29, ↓b230_31, ↓b230_36, ↓b230_45, ↓b230_51, ↓b230_56, ↓b230_59, ↓b230_62, ↓b230_68, ↓b230_82, ↓b230_88, ↓b230_93, ↓b230_98, ↓b230_106, ↓b230_113, ↓b230_128, ↓b230_134, ↓b230_139, ↓b230_144, ↓b230_149, ↓b230_155, b230_0, b230_9, b230_12, b230_24, b230_27, b230_29, b230_31, b230_36, b230_45, b230_51, b230_56, b230_59, b230_62, b230_68, b230_82, b230_88, b230_93, b230_98, b230_106, b230_113, b230_128, b230_134, b230_139, b230_144, b230_149, b230_155, nLE4, layE8, hk, k3_128, r128, n3_229, n3_201, n3_231, I32, ↓xb, xb, ps, lpad, lat, aok2, rd2, aaok, aav, alok, alen, aok, akk, csum, isLg, cmpI, clsE, Option.elim, eq_self, List.mem_cons, List.not_mem_nil, or_false, false_or, List.append_nil, List.nil_append, List.cons_append, List.append_eq, List.replicate, List.length_cons, List.length_nil, List.map_cons, List.map_nil, ↓reduceIte, reduceCtorEq, if_true, if_false, true_and, and_true, false_and, and_false, and_self, not_true_eq_false, not_false_eq_true, forall_const, true_implies, false_implies, implies_true, Nat.reduceAdd, Nat.reduceSub, Nat.reduceLT, Nat.reduceLeDiff, Nat.reduceEqDiff, Nat.reduceMul, Nat.reducePow, Nat.add_one_ne_zero, Nat.add_one_sub_one, Nat.add_zero, Nat.zero_add, Int.reduceLT, Int.reduceLE, Int.reduceNeg, Int.reduceAdd, Int.reduceSub, Int.reduceToNat, Int.reduceEq, Int.reduceMul, Int.reducePow, Int.cast_ofNat_Int, Int.toNat_natCast, ne_eq, Bool.false_eq_true, true_or, or_true, or_self, Nat.not_lt_zero, ite_e0, ite_e1, lc_lt, lc_ge, lc_gt, lc_le, lc_eq, Classical.not_not]
            with_reducible repeat' (first | (refine And.intro ?_ ?_) | intro _)
            all_goals try omega
            refine kx_up (n := n) (t := t + 1) (f := fst) (y := y) M2 W (by omega) hn.2 (by omega) (fun j h1 h2 => g4 j h1 h2) (by omega) (fun _ => ⟨⟨?_, ?_, by omega, by rw [show ((y : Nat) : Int).toNat = y by omega]; exact y3⟩, fun z z1 z2 => ?_⟩) (fun z => by omega) (fun _ σ3 b1 b2 b3 s3 => ?_)
            · rw [show t + 1 - 1 = t by omega, rt2]; omega
            · rw [show t + 1 - 1 = t by omega, rt2]; omega
            · rw [show t + 1 - 1 = t by omega, rt2] at z1; exact y4 z (by omega) (by omega)
            · rw [show t + 1 - 1 = t by omega] at b1 b2
              simp -implicitDefEqProofs only [↓b230_0, ↓b230_9, ↓b230_12, ↓b230_24, ↓b230_27, ↓b230_29, ↓b230_31, ↓b230_36, ↓b230_45, ↓b230_51, ↓b230_56, ↓b230_59, ↓b230_62, ↓b230_68, ↓b230_82, ↓b230_88, ↓b230_93, ↓b230_98, ↓b230_106, ↓b230_113, ↓b230_128, ↓b230_134, ↓b230_139, ↓b230_144, ↓b230_149, ↓b230_155, b230_0, b230_9, b230_12, b230_24, b230_27, b230_29, b230_31, b230_36, b230_45, b230_51, b230_56, b230_59, b230_62, b230_68, b230_82, b230_88, b230_93, b230_98, b230_106, b230_113, b230_128, b230_134, b230_139, b230_144, b230_149, b230_155, nLE4, layE8, hk, k3_128, r128, n3_229, n3_201, n3_231, I32, ↓xb, xb, ps, lpad, lat, aok2, rd2, aaok, aav, alok, alen, aok, akk, csum, isLg, cmpI, clsE, Option.elim, eq_self, List.mem_cons, List.not_mem_nil, or_false, false_or, List.append_nil, List.nil_append, List.cons_append, List.append_eq, List.replicate, List.length_cons, List.length_nil, List.map_cons, List.map_nil, ↓reduceIte, reduceCtorEq, if_true, if_false, true_and, and_true, false_and, and_false, and_self, not_true_eq_false, not_false_eq_true, forall_const, true_implies, false_implies, implies_true, Nat.reduceAdd, Nat.reduceSub, Nat.reduceLT, Nat.reduceLeDiff, Nat.reduceEqDiff, Nat.reduceMul, Nat.reducePow, Nat.add_one_ne_zero, Nat.add_one_sub_one, Nat.add_zero, Nat.zero_add, Int.reduceLT, Int.reduceLE, Int.reduceNeg, Int.reduceAdd, Int.reduceSub, Int.reduceToNat, Int.reduceEq, Int.reduceMul, Int.reducePow, Int.cast_ofNat_Int, Int.toNat_natCast, ne_eq, Bool.false_eq_true, true_or, or_true, or_self, Nat.not_lt_zero, ite_e0, ite_e1, lc_lt, lc_ge, lc_gt, lc_le, lc_eq, Classical.not_not]
              with_reducible repeat' (first | (refine And.intro ?_ ?_) | intro _)
              all_goals try omega
              refine ihm (4 - y) (by omega) y σ3 _ lx2 (by omega) y3 (M2.srx (Srx_1 (by omega) s3)) (fun j hj => (b1 j hj).trans (rj2 j hj)) b2 b3 g1 (fun c hc => (g2 c hc).trans (s3 21 72 rfl 0 c).symm) ((s1.trans g5).trans (Srx_1 (by omega) s3)) ?_ l6
              rw [he]
              refine lp_skip (by omega) (y - (wh + 1)) (wh + 1) (by omega) (fun z z1 z2 => ?_)
              rw [if_neg (by have := y4 z (by omega) z2; omega)]
          · have nn : ∀ z : Nat, wh < z → z < 5 → P 34 z = 0 := by
              intro z
              induction z using Nat.strongRecOn with
              | _ z ihz =>
                intro z1 z2
                have tu := (W.tu (n := z) z2).1.1
                refine Classical.byContradiction fun h => nx ⟨z, z1, z2, by omega, fun x x1 x2 => ihz x x2 x1 (by omega)⟩
            have e3 : lpF (fun w a => if 0 < P 34 w then srF P d (t + 1) (upd1 r t w) (ndF P w (stF P r t)) a else a) (5 - (wh + 1)) (wh + 1) (srF P d (t + 1) (upd1 r t wh) (ndF P wh (stF P r t)) a1) = srF P d (t + 1) (upd1 r t wh) (ndF P wh (stF P r t)) a1 := lp_same _ _ (fun z z1 z2 => by
              rw [if_neg (by have := nn z (by omega) (by omega); omega)])
            rw [e3] at he
            rw [he] at K
            refine K lx2 σ2 g1 g2 rj2 (fun j h1 h2 => ?_) (s1.trans g5)
            by_cases e : j = t
            · subst e
              rw [rt2]
              exact ⟨by omega, fun z z1 z2 => nn z (by omega) z2⟩
            · exact g4 j (by omega) h2
    refine Y (4 - fst) fst σ a lx (by omega) hf.2.1 M (fun j hj => (hr j hj).1) (hff t (Nat.le_refl _) (by omega)) (fun j h1 h2 => hff j (by omega) h2) hl hb same.refl ?_
    show lpF _ (5 - 0) 0 a = _
    exact lp_skip (by omega) fst 0 (by omega) (fun z z1 z2 => if_neg (by have := hf.2.2 z z2; omega))
set_option maxRecDepth 100000 in
set_option maxHeartbeats 1000000 in
theorem kx_fst_l (M : MR σ P) (W : WF P) (hk : 6 ≤ k) {n kk : Int} {y : Nat} (hy : y = 5 ∨ (y < 5 ∧ 0 < P 34 y)) (hz : ∀ z, z < y → P 34 z = 0) (q : TT G w w w k (0, 0) 230 51 [some (vr 21 0 0), some (vi n), some (vi kk), some (vi y), none, none, none] [] σ Q) :
    ∀ (m i : Nat), i + m = y → TT G w w w k (0, 0) 230 31 [some (vr 21 0 0), some (vi n), some (vi kk), some (vi i), none, none, none] [] σ Q
  | 0, i, h => by
    have e : i = y := by omega
    subst e
    have hM : ∀ f i, 2 ≤ f → f ≤ 38 → σ 21 f 0 i = P f i := M
    rcases hy with h5 | ⟨h5, hp⟩
    · subst h5
      refine TT_vb ok230 (sm3_ok G w) 60 [31, 51] ?_
      simp -implicitDefEqProofs only [↓b230_0, ↓b230_9, ↓b230_12, ↓b230_24, ↓b230_27, ↓b230_29, ↓b230_31, ↓b230_36, ↓b230_45, ↓b230_51, ↓b230_56, ↓b230_59, ↓b230_62, ↓b230_68, ↓b230_82, ↓b230_88, ↓b230_93, ↓b230_98, ↓b230_106, ↓b230_113, ↓b230_128, ↓b230_134, ↓b230_139, ↓b230_144, ↓b230_149, ↓b230_155, b230_0, b230_9, b230_12, b230_24, b230_27, b230_29, b230_31, b230_36, b230_45, b230_51, b230_56, b230_59, b230_62, b230_68, b230_82, b230_88, b230_93, b230_98, b230_106, b230_113, b230_128, b230_134, b230_139, b230_144, b230_149, b230_155, nLE4, layE8, hk, k3_128, r128, n3_229, n3_201, n3_231, I32, ↓xb, xb, ps, lpad, lat, aok2, rd2, aaok, aav, alok, alen, aok, akk, csum, isLg, cmpI, clsE, Option.elim, eq_self, List.mem_cons, List.not_mem_nil, or_false, false_or, List.append_nil, List.nil_append, List.cons_append, List.append_eq, List.replicate, List.length_cons, List.length_nil, List.map_cons, List.map_nil, ↓reduceIte, reduceCtorEq, if_true, if_false, true_and, and_true, false_and, and_false, and_self, not_true_eq_false, not_false_eq_true, forall_const, true_implies, false_implies, implies_true, Nat.reduceAdd, Nat.reduceSub, Nat.reduceLT, Nat.reduceLeDiff, Nat.reduceEqDiff, Nat.reduceMul, Nat.reducePow, Nat.add_one_ne_zero, Nat.add_one_sub_one, Nat.add_zero, Nat.zero_add, Int.reduceLT, Int.reduceLE, Int.reduceNeg, Int.reduceAdd, Int.reduceSub, Int.reduceToNat, Int.reduceEq, Int.reduceMul, Int.reducePow, Int.cast_ofNat_Int, Int.toNat_natCast, ne_eq, Bool.false_eq_true, true_or, or_true, or_self, Nat.not_lt_zero, ite_e0, ite_e1, lc_lt, lc_ge, lc_gt, lc_le, lc_eq, Classical.not_not]
      with_reducible repeat' (first | (refine And.intro ?_ ?_) | intro _)
      all_goals try omega
      all_goals first | omega | exact q
    · have hp' : ¬ P 34 i = 0 := by omega
      refine TT_vb ok230 (sm3_ok G w) 60 [31, 51] ?_
      simp -implicitDefEqProofs only [↓b230_0, ↓b230_9, ↓b230_12, ↓b230_24, ↓b230_27, ↓b230_29, ↓b230_31, ↓b230_36, ↓b230_45, ↓b230_51, ↓b230_56, ↓b230_59, ↓b230_62, ↓b230_68, ↓b230_82, ↓b230_88, ↓b230_93, ↓b230_98, ↓b230_106, ↓b230_113, ↓b230_128, ↓b230_134, ↓b230_139, ↓b230_144, ↓b230_149, ↓b230_155, b230_0, b230_9, b230_12, b230_24, b230_27, b230_29, b230_31, b230_36, b230_45, b230_51, b230_56, b230_59, b230_62, b230_68, b230_82, b230_88, b230_93, b230_98, b230_106, b230_113, b230_128, b230_134, b230_139, b230_144, b230_149, b230_155, nLE4, layE8, hM, hp', k3_128, r128, n3_229, n3_201, n3_231, I32, ↓xb, xb, ps, lpad, lat, aok2, rd2, aaok, aav, alok, alen, aok, akk, csum, isLg, cmpI, clsE, Option.elim, eq_self, List.mem_cons, List.not_mem_nil, or_false, false_or, List.append_nil, List.nil_append, List.cons_append, List.append_eq, List.replicate, List.length_cons, List.length_nil, List.map_cons, List.map_nil, ↓reduceIte, reduceCtorEq, if_true, if_false, true_and, and_true, false_and, and_false, and_self, not_true_eq_false, not_false_eq_true, forall_const, true_implies, false_implies, implies_true, Nat.reduceAdd, Nat.reduceSub, Nat.reduceLT, Nat.reduceLeDiff, Nat.reduceEqDiff, Nat.reduceMul, Nat.reducePow, Nat.add_one_ne_zero, Nat.add_one_sub_one, Nat.add_zero, Nat.zero_add, Int.reduceLT, Int.reduceLE, Int.reduceNeg, Int.reduceAdd, Int.reduceSub, Int.reduceToNat, Int.reduceEq, Int.reduceMul, Int.reducePow, Int.cast_ofNat_Int, Int.toNat_natCast, ne_eq, Bool.false_eq_true, true_or, or_true, or_self, Nat.not_lt_zero, ite_e0, ite_e1, lc_lt, lc_ge, lc_gt, lc_le, lc_eq, Classical.not_not]
      with_reducible repeat' (first | (refine And.intro ?_ ?_) | intro _)
      all_goals try omega
      all_goals first | omega | exact q
  | m + 1, i, h => by
    have ih := kx_fst_l M W hk hy hz q m (i + 1) (by omega)
    have hM : ∀ f i, 2 ≤ f → f ≤ 38 → σ 21 f 0 i = P f i := M
    have z0 := hz i (by omega)
    have i5 : i < 5 := by omega
    refine TT_vb ok230 (sm3_ok G w) 60 [31, 51] ?_
    simp -implicitDefEqProofs only [↓b230_0, ↓b230_9, ↓b230_12, ↓b230_24, ↓b230_27, ↓b230_29, ↓b230_31, ↓b230_36, ↓b230_45, ↓b230_51, ↓b230_56, ↓b230_59, ↓b230_62, ↓b230_68, ↓b230_82, ↓b230_88, ↓b230_93, ↓b230_98, ↓b230_106, ↓b230_113, ↓b230_128, ↓b230_134, ↓b230_139, ↓b230_144, ↓b230_149, ↓b230_155, b230_0, b230_9, b230_12, b230_24, b230_27, b230_29, b230_31, b230_36, b230_45, b230_51, b230_56, b230_59, b230_62, b230_68, b230_82, b230_88, b230_93, b230_98, b230_106, b230_113, b230_128, b230_134, b230_139, b230_144, b230_149, b230_155, nLE4, layE8, hM, z0, k3_128, r128, n3_229, n3_201, n3_231, I32, ↓xb, xb, ps, lpad, lat, aok2, rd2, aaok, aav, alok, alen, aok, akk, csum, isLg, cmpI, clsE, Option.elim, eq_self, List.mem_cons, List.not_mem_nil, or_false, false_or, List.append_nil, List.nil_append, List.cons_append, List.append_eq, List.replicate, List.length_cons, List.length_nil, List.map_cons, List.map_nil, ↓reduceIte, reduceCtorEq, if_true, if_false, true_and, and_true, false_and, and_false, and_self, not_true_eq_false, not_false_eq_true, forall_const, true_implies, false_implies, implies_true, Nat.reduceAdd, Nat.reduceSub, Nat.reduceLT, Nat.reduceLeDiff, Nat.reduceEqDiff, Nat.reduceMul, Nat.reducePow, Nat.add_one_ne_zero, Nat.add_one_sub_one, Nat.add_zero, Nat.zero_add, Int.reduceLT, Int.reduceLE, Int.reduceNeg, Int.reduceAdd, Int.reduceSub, Int.reduceToNat, Int.reduceEq, Int.reduceMul, Int.reducePow, Int.cast_ofNat_Int, Int.toNat_natCast, ne_eq, Bool.false_eq_true, true_or, or_true, or_self, Nat.not_lt_zero, ite_e0, ite_e1, lc_lt, lc_ge, lc_gt, lc_le, lc_eq, Classical.not_not]
    with_reducible repeat' (first | (refine And.intro ?_ ?_) | intro _)
    all_goals try omega
    all_goals first | omega | exact ih
set_option maxRecDepth 100000 in
set_option maxHeartbeats 1000000 in
theorem kx_rw_f (hk : 6 ≤ k) {n : Nat} (hn : n ≤ 7) {kk f : Int} (q : ∀ σ' l4, (∀ j, j < n → σ' 21 71 0 j = f) → same S71 σ σ' → TT G w w w k (0, 0) 230 82 [some (vr 21 0 0), some (vi n), some (vi kk), some (vi f), l4, none, none] [] σ' Q) :
    ∀ (m i : Nat) (σ' : Mem), i + m = n → (∀ j, j < i → σ' 21 71 0 j = f) → same S71 σ σ' → TT G w w w k (0, 0) 230 62 [some (vr 21 0 0), some (vi n), some (vi kk), some (vi f), some (vi i), none, none] [] σ' Q
  | 0, i, σ', h, hc, hs => by
    have e : i = n := by omega
    subst e
    refine TT_vb ok230 (sm3_ok G w) 60 [62, 82] ?_
    simp -implicitDefEqProofs only [↓b230_0, ↓b230_9, ↓b230_12, ↓b230_24, ↓b230_27, ↓b230_29, ↓b230_31, ↓b230_36, ↓b230_45, ↓b230_51, ↓b230_56, ↓b230_59, ↓b230_62, ↓b230_68, ↓b230_82, ↓b230_88, ↓b230_93, ↓b230_98, ↓b230_106, ↓b230_113, ↓b230_128, ↓b230_134, ↓b230_139, ↓b230_144, ↓b230_149, ↓b230_155, b230_0, b230_9, b230_12, b230_24, b230_27, b230_29, b230_31, b230_36, b230_45, b230_51, b230_56, b230_59, b230_62, b230_68, b230_82, b230_88, b230_93, b230_98, b230_106, b230_113, b230_128, b230_134, b230_139, b230_144, b230_149, b230_155, nLE4, layE8, hk, k3_128, r128, n3_229, n3_201, n3_231, I32, ↓xb, xb, ps, lpad, lat, aok2, rd2, aaok, aav, alok, alen, aok, akk, csum, isLg, cmpI, clsE, Option.elim, eq_self, List.mem_cons, List.not_mem_nil, or_false, false_or, List.append_nil, List.nil_append, List.cons_append, List.append_eq, List.replicate, List.length_cons, List.length_nil, List.map_cons, List.map_nil, ↓reduceIte, reduceCtorEq, if_true, if_false, true_and, and_true, false_and, and_false, and_self, not_true_eq_false, not_false_eq_true, forall_const, true_implies, false_implies, implies_true, Nat.reduceAdd, Nat.reduceSub, Nat.reduceLT, Nat.reduceLeDiff, Nat.reduceEqDiff, Nat.reduceMul, Nat.reducePow, Nat.add_one_ne_zero, Nat.add_one_sub_one, Nat.add_zero, Nat.zero_add, Int.reduceLT, Int.reduceLE, Int.reduceNeg, Int.reduceAdd, Int.reduceSub, Int.reduceToNat, Int.reduceEq, Int.reduceMul, Int.reducePow, Int.cast_ofNat_Int, Int.toNat_natCast, ne_eq, Bool.false_eq_true, true_or, or_true, or_self, Nat.not_lt_zero, ite_e0, ite_e1, lc_lt, lc_ge, lc_gt, lc_le, lc_eq, Classical.not_not]
    with_reducible repeat' (first | (refine And.intro ?_ ?_) | intro _)
    all_goals try omega
    all_goals first | omega | exact q σ' _ hc hs
  | m + 1, i, σ', h, hc, hs => by
    have ih := kx_rw_f hk hn q m (i + 1)
    refine TT_vb ok230 (sm3_ok G w) 60 [62, 82] ?_
    simp -implicitDefEqProofs only [↓b230_0, ↓b230_9, ↓b230_12, ↓b230_24, ↓b230_27, ↓b230_29, ↓b230_31, ↓b230_36, ↓b230_45, ↓b230_51, ↓b230_56, ↓b230_59, ↓b230_62, ↓b230_68, ↓b230_82, ↓b230_88, ↓b230_93, ↓b230_98, ↓b230_106, ↓b230_113, ↓b230_128, ↓b230_134, ↓b230_139, ↓b230_144, ↓b230_149, ↓b230_155, b230_0, b230_9, b230_12, b230_24, b230_27, b230_29, b230_31, b230_36, b230_45, b230_51, b230_56, b230_59, b230_62, b230_68, b230_82, b230_88, b230_93, b230_98, b230_106, b230_113, b230_128, b230_134, b230_139, b230_144, b230_149, b230_155, nLE4, layE8, hk, k3_128, r128, n3_229, n3_201, n3_231, I32, ↓xb, xb, ps, lpad, lat, aok2, rd2, aaok, aav, alok, alen, aok, akk, csum, isLg, cmpI, clsE, Option.elim, eq_self, List.mem_cons, List.not_mem_nil, or_false, false_or, List.append_nil, List.nil_append, List.cons_append, List.append_eq, List.replicate, List.length_cons, List.length_nil, List.map_cons, List.map_nil, ↓reduceIte, reduceCtorEq, if_true, if_false, true_and, and_true, false_and, and_false, and_self, not_true_eq_false, not_false_eq_true, forall_const, true_implies, false_implies, implies_true, Nat.reduceAdd, Nat.reduceSub, Nat.reduceLT, Nat.reduceLeDiff, Nat.reduceEqDiff, Nat.reduceMul, Nat.reducePow, Nat.add_one_ne_zero, Nat.add_one_sub_one, Nat.add_zero, Nat.zero_add, Int.reduceLT, Int.reduceLE, Int.reduceNeg, Int.reduceAdd, Int.reduceSub, Int.reduceToNat, Int.reduceEq, Int.reduceMul, Int.reducePow, Int.cast_ofNat_Int, Int.toNat_natCast, ne_eq, Bool.false_eq_true, true_or, or_true, or_self, Nat.not_lt_zero, ite_e0, ite_e1, lc_lt, lc_ge, lc_gt, lc_le, lc_eq, Classical.not_not]
    with_reducible repeat' (first | (refine And.intro ?_ ?_) | intro _)
    all_goals try omega
    all_goals first | omega | skip
    rw [show ((i : Nat) : Int) + 1 = ((i + 1 : Nat) : Int) by omega]
    refine ih _ (by omega) (fun j hj => ?_) (hs.put rfl)
    by_cases e : j = i
    · subst e; rw [upp_eq]
    · rw [upp_nc e]; exact hc j (by omega)
set_option maxRecDepth 100000 in
set_option maxHeartbeats 1000000 in
theorem kx_rows7 (M : MR σ P) (W : WF P) (hk : 24 ≤ k) {n kk : Int} (q0 : ¬ ((1 ≤ n ∧ n ≤ 7) ∧ (-1 ≤ kk ∧ kk < n)) → Q (some (vi (-1))) σ)
    (q1 : (1 ≤ n ∧ n ≤ 7) ∧ (-1 ≤ kk ∧ kk < n) → (∀ x, x < 5 → ¬ 0 < P 34 x) → Q (some (vi (-2))) σ)
    (q2 : (1 ≤ n ∧ n ≤ 7) ∧ (-1 ≤ kk ∧ kk < n) → (∃ x, x < 5 ∧ 0 < P 34 x) → ∀ σ', MR σ' P → same Srx σ σ' → Q (some (vi (rwA (rw0 P n.toNat) kk))) σ') : CC G w w k (0, 0) 230 [vr 21 0 0, vi n, vi kk] σ Q := by
  have lt0 : ∀ x, x < 5 → 0 ≤ P 34 x := fun x hx => (W.tu (n := x) hx).1.1
  by_cases c : (1 ≤ n ∧ n ≤ 7) ∧ (-1 ≤ kk ∧ kk < n)
  · refine CC_vb ok230 (by decide) (sm3_ok G w) 60 [31] (Nat.le_of_ble_eq_true rfl) ?_
    simp -implicitDefEqProofs only [↓b230_0, ↓b230_9, ↓b230_12, ↓b230_24, ↓b230_27, ↓b230_29, ↓b230_31, ↓b230_36, ↓b230_45, ↓b230_51, ↓b230_56, ↓b230_59, ↓b230_62, ↓b230_68, ↓b230_82, ↓b230_88, ↓b230_93, ↓b230_98, ↓b230_106, ↓b230_113, ↓b230_128, ↓b230_134, ↓b230_139, ↓b230_144, ↓b230_149, ↓b230_155, b230_0, b230_9, b230_12, b230_24, b230_27, b230_29, b230_31, b230_36, b230_45, b230_51, b230_56, b230_59, b230_62, b230_68, b230_82, b230_88, b230_93, b230_98, b230_106, b230_113, b230_128, b230_134, b230_139, b230_144, b230_149, b230_155, nLE4, layE8, hk, k3_128, r128, n3_229, n3_201, n3_231, I32, ↓xb, xb, ps, lpad, lat, aok2, rd2, aaok, aav, alok, alen, aok, akk, csum, isLg, cmpI, clsE, Option.elim, eq_self, List.mem_cons, List.not_mem_nil, or_false, false_or, List.append_nil, List.nil_append, List.cons_append, List.append_eq, List.replicate, List.length_cons, List.length_nil, List.map_cons, List.map_nil, ↓reduceIte, reduceCtorEq, if_true, if_false, true_and, and_true, false_and, and_false, and_self, not_true_eq_false, not_false_eq_true, forall_const, true_implies, false_implies, implies_true, Nat.reduceAdd, Nat.reduceSub, Nat.reduceLT, Nat.reduceLeDiff, Nat.reduceEqDiff, Nat.reduceMul, Nat.reducePow, Nat.add_one_ne_zero, Nat.add_one_sub_one, Nat.add_zero, Nat.zero_add, Int.reduceLT, Int.reduceLE, Int.reduceNeg, Int.reduceAdd, Int.reduceSub, Int.reduceToNat, Int.reduceEq, Int.reduceMul, Int.reducePow, Int.cast_ofNat_Int, Int.toNat_natCast, ne_eq, Bool.false_eq_true, true_or, or_true, or_self, Nat.not_lt_zero, ite_e0, ite_e1, lc_lt, lc_ge, lc_gt, lc_le, lc_eq, Classical.not_not]
    with_reducible repeat' (first | (refine And.intro ?_ ?_) | intro _)
    all_goals try omega
    all_goals first | omega | skip
    by_cases ex : ∃ x, x < 5 ∧ 0 < P 34 x
    · have least : ∃ y, y < 5 ∧ 0 < P 34 y ∧ ∀ z, z < y → P 34 z = 0 := by
        have : ∀ x, x < 5 → 0 < P 34 x → ∃ y, y < 5 ∧ 0 < P 34 y ∧ ∀ z, z < y → P 34 z = 0 := by
          intro x
          induction x using Nat.strongRecOn with
          | _ x ihx =>
            intro x1 x2
            by_cases h : ∃ z, z < x ∧ 0 < P 34 z
            · obtain ⟨z, z1, z2⟩ := h
              exact ihx z z1 (by omega) z2
            · exact ⟨x, x1, x2, fun z hz => Classical.byContradiction fun e => h ⟨z, hz, by have := lt0 z (by omega); omega⟩⟩
        obtain ⟨x, x1, x2⟩ := ex
        exact this x x1 x2
      obtain ⟨y, y1, y2, y3⟩ := least
      refine kx_fst_l M W (by omega) (y := y) (Or.inr ⟨y1, y2⟩) y3 ?_ y 0 (by omega)
      have y5 : ¬ (y : Int) = 5 := by omega
      have en : ((n.toNat : Nat) : Int) = n := by omega
      refine TT_vb ok230 (sm3_ok G w) 60 [62] ?_
      simp -implicitDefEqProofs only [↓b230_0, ↓b230_9, ↓b230_12, ↓b230_24, ↓b230_27, ↓b230_29, ↓b230_31, ↓b230_36, ↓b230_45, ↓b230_51, ↓b230_56, ↓b230_59, ↓b230_62, ↓b230_68, ↓b230_82, ↓b230_88, ↓b230_93, ↓b230_98, ↓b230_106, ↓b230_113, ↓b230_128, ↓b230_134, ↓b230_139, ↓b230_144, ↓b230_149, ↓b230_155, b230_0, b230_9, b230_12, b230_24, b230_27, b230_29, b230_31, b230_36, b230_45, b230_51, b230_56, b230_59, b230_62, b230_68, b230_82, b230_88, b230_93, b230_98, b230_106, b230_113, b230_128, b230_134, b230_139, b230_144, b230_149, b230_155, nLE4, layE8, y5, k3_128, r128, n3_229, n3_201, n3_231, I32, ↓xb, xb, ps, lpad, lat, aok2, rd2, aaok, aav, alok, alen, aok, akk, csum, isLg, cmpI, clsE, Option.elim, eq_self, List.mem_cons, List.not_mem_nil, or_false, false_or, List.append_nil, List.nil_append, List.cons_append, List.append_eq, List.replicate, List.length_cons, List.length_nil, List.map_cons, List.map_nil, ↓reduceIte, reduceCtorEq, if_true, if_false, true_and, and_true, false_and, and_false, and_self, not_true_eq_false, not_false_eq_true, forall_const, true_implies, false_implies, implies_true, Nat.reduceAdd, Nat.reduceSub, Nat.reduceLT, Nat.reduceLeDiff, Nat.reduceEqDiff, Nat.reduceMul, Nat.reducePow, Nat.add_one_ne_zero, Nat.add_one_sub_one, Nat.add_zero, Nat.zero_add, Int.reduceLT, Int.reduceLE, Int.reduceNeg, Int.reduceAdd, Int.reduceSub, Int.reduceToNat, Int.reduceEq, Int.reduceMul, Int.reducePow, Int.cast_ofNat_Int, Int.toNat_natCast, ne_eq, Bool.false_eq_true, true_or, or_true, or_self, Nat.not_lt_zero, ite_e0, ite_e1, lc_lt, lc_ge, lc_gt, lc_le, lc_eq, Classical.not_not]
      with_reducible repeat' (first | (refine And.intro ?_ ?_) | intro _)
      all_goals try omega
      have fin : TT G w w w k (0, 0) 230 62 [some (vr 21 0 0), some (vi ((n.toNat : Nat) : Int)), some (vi kk), some (vi (y : Int)), some (vi ((0 : Nat) : Int)), none, none] [] σ Q := by
        refine kx_rw_f (σ := σ) (by omega) (n := n.toNat) (by omega) (fun σ1 l4 h1 s1 => ?_) n.toNat 0 σ (by omega) (fun j hj => by omega) same.refl
        have s1' : same Srx σ σ1 := Srx_1 (by omega) s1
        refine TT_vb ok230 (sm3_ok G w) 60 [93] ?_
        simp -implicitDefEqProofs only [↓b230_0, ↓b230_9, ↓b230_12, ↓b230_24, ↓b230_27, ↓b230_29, ↓b230_31, ↓b230_36, ↓b230_45, ↓b230_51, ↓b230_56, ↓b230_59, ↓b230_62, ↓b230_68, ↓b230_82, ↓b230_88, ↓b230_93, ↓b230_98, ↓b230_106, ↓b230_113, ↓b230_128, ↓b230_134, ↓b230_139, ↓b230_144, ↓b230_149, ↓b230_155, b230_0, b230_9, b230_12, b230_24, b230_27, b230_29, b230_31, b230_36, b230_45, b230_51, b230_56, b230_59, b230_62, b230_68, b230_82, b230_88, b230_93, b230_98, b230_106, b230_113, b230_128, b230_134, b230_139, b230_144, b230_149, b230_155, nLE4, layE8, hk, k3_128, r128, n3_229, n3_201, n3_231, I32, ↓xb, xb, ps, lpad, lat, aok2, rd2, aaok, aav, alok, alen, aok, akk, csum, isLg, cmpI, clsE, Option.elim, eq_self, List.mem_cons, List.not_mem_nil, or_false, false_or, List.append_nil, List.nil_append, List.cons_append, List.append_eq, List.replicate, List.length_cons, List.length_nil, List.map_cons, List.map_nil, ↓reduceIte, reduceCtorEq, if_true, if_false, true_and, and_true, false_and, and_false, and_self, not_true_eq_false, not_false_eq_true, forall_const, true_implies, false_implies, implies_true, Nat.reduceAdd, Nat.reduceSub, Nat.reduceLT, Nat.reduceLeDiff, Nat.reduceEqDiff, Nat.reduceMul, Nat.reducePow, Nat.add_one_ne_zero, Nat.add_one_sub_one, Nat.add_zero, Nat.zero_add, Int.reduceLT, Int.reduceLE, Int.reduceNeg, Int.reduceAdd, Int.reduceSub, Int.reduceToNat, Int.reduceEq, Int.reduceMul, Int.reducePow, Int.cast_ofNat_Int, Int.toNat_natCast, ne_eq, Bool.false_eq_true, true_or, or_true, or_self, Nat.not_lt_zero, ite_e0, ite_e1, lc_lt, lc_ge, lc_gt, lc_le, lc_eq, Classical.not_not]
        with_reducible repeat' (first | (refine And.intro ?_ ?_) | intro _)
        all_goals try omega
        have rr := sr_rr (P := P) (b := fun j => σ1 21 72 0 j) (b' := fun _ => 0) (l := 1000000) n.toNat 0 (fun _ => 0) (fun t => P 35 t, 0) (fun j => σ1 21 72 0 j, 1000000) (fun _ => 0, 1000000) (Or.inl ⟨rfl, rfl⟩)
        have bd := sr_bd W y1 y2 n.toNat 0 (fun _ => 0) (fun t => P 35 t, 0) (fun j => σ1 21 72 0 j, 1000000)
        have ea : srF P n.toNat 0 (fun _ => 0) (stF P (fun _ => 0) 0) (fun j => σ1 21 72 0 j, 1000000) = rw0 P n.toNat := by
          rcases rr with ⟨r1, _⟩ | r
          · rw [r1] at bd
            have bd' : (1000000 : Int) ≤ 0 + 4995 * ((n.toNat : Nat) : Int) := bd
            omega
          · exact r
        have bd2 : (rw0 P n.toNat).2 ≤ 0 + 4995 * ((n.toNat : Nat) : Int) := by rw [← ea]; exact bd
        refine kx_odo W (by omega) (n := n.toNat) (by omega) (fst := y) ⟨y1, y2, y3⟩ n.toNat 0 (fun _ => 0) σ1 (fun j => σ1 21 72 0 j, 1000000) (-1) (by omega) (M.srx s1') (fun j hj => by omega) (fun j _ hj => h1 j hj) (Or.inl ⟨rfl, rfl⟩) (fun _ _ => rfl) (fun lx2 σ2 g1 g2 g3 g4 g5 l6 => ?_) _
        rw [ea] at g1 g2
        have s2 := s1'.trans g5
        have M2 := M.srx s2
        have z := q2 c ex
        refine TT_vb ok230 (sm3_ok G w) 60 [88] ?_
        simp -implicitDefEqProofs only [↓b230_0, ↓b230_9, ↓b230_12, ↓b230_24, ↓b230_27, ↓b230_29, ↓b230_31, ↓b230_36, ↓b230_45, ↓b230_51, ↓b230_56, ↓b230_59, ↓b230_62, ↓b230_68, ↓b230_82, ↓b230_88, ↓b230_93, ↓b230_98, ↓b230_106, ↓b230_113, ↓b230_128, ↓b230_134, ↓b230_139, ↓b230_144, ↓b230_149, ↓b230_155, b230_0, b230_9, b230_12, b230_24, b230_27, b230_29, b230_31, b230_36, b230_45, b230_51, b230_56, b230_59, b230_62, b230_68, b230_82, b230_88, b230_93, b230_98, b230_106, b230_113, b230_128, b230_134, b230_139, b230_144, b230_149, b230_155, nLE4, layE8, hk, k3_128, r128, n3_229, n3_201, n3_231, I32, ↓xb, xb, ps, lpad, lat, aok2, rd2, aaok, aav, alok, alen, aok, akk, csum, isLg, cmpI, clsE, Option.elim, eq_self, List.mem_cons, List.not_mem_nil, or_false, false_or, List.append_nil, List.nil_append, List.cons_append, List.append_eq, List.replicate, List.length_cons, List.length_nil, List.map_cons, List.map_nil, ↓reduceIte, reduceCtorEq, if_true, if_false, true_and, and_true, false_and, and_false, and_self, not_true_eq_false, not_false_eq_true, forall_const, true_implies, false_implies, implies_true, Nat.reduceAdd, Nat.reduceSub, Nat.reduceLT, Nat.reduceLeDiff, Nat.reduceEqDiff, Nat.reduceMul, Nat.reducePow, Nat.add_one_ne_zero, Nat.add_one_sub_one, Nat.add_zero, Nat.zero_add, Int.reduceLT, Int.reduceLE, Int.reduceNeg, Int.reduceAdd, Int.reduceSub, Int.reduceToNat, Int.reduceEq, Int.reduceMul, Int.reducePow, Int.cast_ofNat_Int, Int.toNat_natCast, ne_eq, Bool.false_eq_true, true_or, or_true, or_self, Nat.not_lt_zero, ite_e0, ite_e1, lc_lt, lc_ge, lc_gt, lc_le, lc_eq, Classical.not_not]
        with_reducible repeat' (first | (refine And.intro ?_ ?_) | intro _)
        all_goals try omega
        refine kx_up (n := n.toNat) (t := 0) (f := (y : Int)) (y := 0) M2 W (by omega) (by omega) (by omega) (fun j a b => g4 j a b) (by omega) (fun h => by omega) (fun _ σ3 s3 => ?_) (fun h => by omega)
        have z3 := z σ3 (M2.srx (Srx_1 (by omega) s3)) (s2.trans (Srx_1 (by omega) s3))
        have lx0 : lx2 = (rw0 P n.toNat).2 := by
          rcases g1 with ⟨a, b⟩ | ⟨a, b, d⟩
          · omega
          · exact a
        simp -implicitDefEqProofs only [↓b230_0, ↓b230_9, ↓b230_12, ↓b230_24, ↓b230_27, ↓b230_29, ↓b230_31, ↓b230_36, ↓b230_45, ↓b230_51, ↓b230_56, ↓b230_59, ↓b230_62, ↓b230_68, ↓b230_82, ↓b230_88, ↓b230_93, ↓b230_98, ↓b230_106, ↓b230_113, ↓b230_128, ↓b230_134, ↓b230_139, ↓b230_144, ↓b230_149, ↓b230_155, b230_0, b230_9, b230_12, b230_24, b230_27, b230_29, b230_31, b230_36, b230_45, b230_51, b230_56, b230_59, b230_62, b230_68, b230_82, b230_88, b230_93, b230_98, b230_106, b230_113, b230_128, b230_134, b230_139, b230_144, b230_149, b230_155, nLE4, layE8, hk, k3_128, r128, n3_229, n3_201, n3_231, I32, ↓xb, xb, ps, lpad, lat, aok2, rd2, aaok, aav, alok, alen, aok, akk, csum, isLg, cmpI, clsE, Option.elim, eq_self, List.mem_cons, List.not_mem_nil, or_false, false_or, List.append_nil, List.nil_append, List.cons_append, List.append_eq, List.replicate, List.length_cons, List.length_nil, List.map_cons, List.map_nil, ↓reduceIte, reduceCtorEq, if_true, if_false, true_and, and_true, false_and, and_false, and_self, not_true_eq_false, not_false_eq_true, forall_const, true_implies, false_implies, implies_true, Nat.reduceAdd, Nat.reduceSub, Nat.reduceLT, Nat.reduceLeDiff, Nat.reduceEqDiff, Nat.reduceMul, Nat.reducePow, Nat.add_one_ne_zero, Nat.add_one_sub_one, Nat.add_zero, Nat.zero_add, Int.reduceLT, Int.reduceLE, Int.reduceNeg, Int.reduceAdd, Int.reduceSub, Int.reduceToNat, Int.reduceEq, Int.reduceMul, Int.reducePow, Int.cast_ofNat_Int, Int.toNat_natCast, ne_eq, Bool.false_eq_true, true_or, or_true, or_self, Nat.not_lt_zero, ite_e0, ite_e1, lc_lt, lc_ge, lc_gt, lc_le, lc_eq, Classical.not_not]
        with_reducible repeat' (first | (refine And.intro ?_ ?_) | intro _)
        all_goals try omega
        by_cases c6 : kk = -1
        · rw [show rwA (rw0 P n.toNat) kk = (rw0 P n.toNat).2 from if_pos c6, ← lx0] at z3
          refine TT_vb ok230 (sm3_ok G w) 60 [] ?_
          simp -implicitDefEqProofs only [↓b230_0, ↓b230_9, ↓b230_12, ↓b230_24, ↓b230_27, ↓b230_29, ↓b230_31, ↓b230_36, ↓b230_45, ↓b230_51, ↓b230_56, ↓b230_59, ↓b230_62, ↓b230_68, ↓b230_82, ↓b230_88, ↓b230_93, ↓b230_98, ↓b230_106, ↓b230_113, ↓b230_128, ↓b230_134, ↓b230_139, ↓b230_144, ↓b230_149, ↓b230_155, b230_0, b230_9, b230_12, b230_24, b230_27, b230_29, b230_31, b230_36, b230_45, b230_51, b230_56, b230_59, b230_62, b230_68, b230_82, b230_88, b230_93, b230_98, b230_106, b230_113, b230_128, b230_134, b230_139, b230_144, b230_149, b230_155, nLE4, layE8, c6, k3_128, r128, n3_229, n3_201, n3_231, I32, ↓xb, xb, ps, lpad, lat, aok2, rd2, aaok, aav, alok, alen, aok, akk, csum, isLg, cmpI, clsE, Option.elim, eq_self, List.mem_cons, List.not_mem_nil, or_false, false_or, List.append_nil, List.nil_append, List.cons_append, List.append_eq, List.replicate, List.length_cons, List.length_nil, List.map_cons, List.map_nil, ↓reduceIte, reduceCtorEq, if_true, if_false, true_and, and_true, false_and, and_false, and_self, not_true_eq_false, not_false_eq_true, forall_const, true_implies, false_implies, implies_true, Nat.reduceAdd, Nat.reduceSub, Nat.reduceLT, Nat.reduceLeDiff, Nat.reduceEqDiff, Nat.reduceMul, Nat.reducePow, Nat.add_one_ne_zero, Nat.add_one_sub_one, Nat.add_zero, Nat.zero_add, Int.reduceLT, Int.reduceLE, Int.reduceNeg, Int.reduceAdd, Int.reduceSub, Int.reduceToNat, Int.reduceEq, Int.reduceMul, Int.reducePow, Int.cast_ofNat_Int, Int.toNat_natCast, ne_eq, Bool.false_eq_true, true_or, or_true, or_self, Nat.not_lt_zero, ite_e0, ite_e1, lc_lt, lc_ge, lc_gt, lc_le, lc_eq, Classical.not_not]
          with_reducible repeat' (first | (refine And.intro ?_ ?_) | intro _)
          all_goals try omega
          all_goals first | omega | exact z3
        · rw [show rwA (rw0 P n.toNat) kk = (rw0 P n.toNat).1 kk.toNat from if_neg c6] at z3
          have hb : σ3 21 72 0 kk.toNat = (rw0 P n.toNat).1 kk.toNat := (s3 21 72 rfl 0 _).trans (g2 kk.toNat (by omega)).symm
          refine TT_vb ok230 (sm3_ok G w) 60 [] ?_
          simp -implicitDefEqProofs only [↓b230_0, ↓b230_9, ↓b230_12, ↓b230_24, ↓b230_27, ↓b230_29, ↓b230_31, ↓b230_36, ↓b230_45, ↓b230_51, ↓b230_56, ↓b230_59, ↓b230_62, ↓b230_68, ↓b230_82, ↓b230_88, ↓b230_93, ↓b230_98, ↓b230_106, ↓b230_113, ↓b230_128, ↓b230_134, ↓b230_139, ↓b230_144, ↓b230_149, ↓b230_155, b230_0, b230_9, b230_12, b230_24, b230_27, b230_29, b230_31, b230_36, b230_45, b230_51, b230_56, b230_59, b230_62, b230_68, b230_82, b230_88, b230_93, b230_98, b230_106, b230_113, b230_128, b230_134, b230_139, b230_144, b230_149, b230_155, nLE4, layE8, c6, hb, k3_128, r128, n3_229, n3_201, n3_231, I32, ↓xb, xb, ps, lpad, lat, aok2, rd2, aaok, aav, alok, alen, aok, akk, csum, isLg, cmpI, clsE, Option.elim, eq_self, List.mem_cons, List.not_mem_nil, or_false, false_or, List.append_nil, List.nil_append, List.cons_append, List.append_eq, List.replicate, List.length_cons, List.length_nil, List.map_cons, List.map_nil, ↓reduceIte, reduceCtorEq, if_true, if_false, true_and, and_true, false_and, and_false, and_self, not_true_eq_false, not_false_eq_true, forall_const, true_implies, false_implies, implies_true, Nat.reduceAdd, Nat.reduceSub, Nat.reduceLT, Nat.reduceLeDiff, Nat.reduceEqDiff, Nat.reduceMul, Nat.reducePow, Nat.add_one_ne_zero, Nat.add_one_sub_one, Nat.add_zero, Nat.zero_add, Int.reduceLT, Int.reduceLE, Int.reduceNeg, Int.reduceAdd, Int.reduceSub, Int.reduceToNat, Int.reduceEq, Int.reduceMul, Int.reducePow, Int.cast_ofNat_Int, Int.toNat_natCast, ne_eq, Bool.false_eq_true, true_or, or_true, or_self, Nat.not_lt_zero, ite_e0, ite_e1, lc_lt, lc_ge, lc_gt, lc_le, lc_eq, Classical.not_not]
          with_reducible repeat' (first | (refine And.intro ?_ ?_) | intro _)
          all_goals try omega
          all_goals first | omega | exact z3
      rw [en] at fin
      exact fin
    · have z := q1 c (fun x hx h => ex ⟨x, hx, h⟩)
      refine kx_fst_l M W (by omega) (y := 5) (Or.inl rfl) (fun x hx => Classical.byContradiction fun e => ex ⟨x, hx, by have := lt0 x hx; omega⟩) ?_ 5 0 (by omega)
      refine TT_vb ok230 (sm3_ok G w) 60 [62] ?_
      simp -implicitDefEqProofs only [↓b230_0, ↓b230_9, ↓b230_12, ↓b230_24, ↓b230_27, ↓b230_29, ↓b230_31, ↓b230_36, ↓b230_45, ↓b230_51, ↓b230_56, ↓b230_59, ↓b230_62, ↓b230_68, ↓b230_82, ↓b230_88, ↓b230_93, ↓b230_98, ↓b230_106, ↓b230_113, ↓b230_128, ↓b230_134, ↓b230_139, ↓b230_144, ↓b230_149, ↓b230_155, b230_0, b230_9, b230_12, b230_24, b230_27, b230_29, b230_31, b230_36, b230_45, b230_51, b230_56, b230_59, b230_62, b230_68, b230_82, b230_88, b230_93, b230_98, b230_106, b230_113, b230_128, b230_134, b230_139, b230_144, b230_149, b230_155, nLE4, layE8, hk, k3_128, r128, n3_229, n3_201, n3_231, I32, ↓xb, xb, ps, lpad, lat, aok2, rd2, aaok, aav, alok, alen, aok, akk, csum, isLg, cmpI, clsE, Option.elim, eq_self, List.mem_cons, List.not_mem_nil, or_false, false_or, List.append_nil, List.nil_append, List.cons_append, List.append_eq, List.replicate, List.length_cons, List.length_nil, List.map_cons, List.map_nil, ↓reduceIte, reduceCtorEq, if_true, if_false, true_and, and_true, false_and, and_false, and_self, not_true_eq_false, not_false_eq_true, forall_const, true_implies, false_implies, implies_true, Nat.reduceAdd, Nat.reduceSub, Nat.reduceLT, Nat.reduceLeDiff, Nat.reduceEqDiff, Nat.reduceMul, Nat.reducePow, Nat.add_one_ne_zero, Nat.add_one_sub_one, Nat.add_zero, Nat.zero_add, Int.reduceLT, Int.reduceLE, Int.reduceNeg, Int.reduceAdd, Int.reduceSub, Int.reduceToNat, Int.reduceEq, Int.reduceMul, Int.reducePow, Int.cast_ofNat_Int, Int.toNat_natCast, ne_eq, Bool.false_eq_true, true_or, or_true, or_self, Nat.not_lt_zero, ite_e0, ite_e1, lc_lt, lc_ge, lc_gt, lc_le, lc_eq, Classical.not_not]
      with_reducible repeat' (first | (refine And.intro ?_ ?_) | intro _)
      all_goals try omega
      all_goals first | omega | exact z
  · refine CC_vb ok230 (by decide) (sm3_ok G w) 60 [29] (Nat.le_of_ble_eq_true rfl) ?_
    simp -implicitDefEqProofs only [↓b230_0, ↓b230_9, ↓b230_12, ↓b230_24, ↓b230_27, ↓b230_29, ↓b230_31, ↓b230_36, ↓b230_45, ↓b230_51, ↓b230_56, ↓b230_59, ↓b230_62, ↓b230_68, ↓b230_82, ↓b230_88, ↓b230_93, ↓b230_98, ↓b230_106, ↓b230_113, ↓b230_128, ↓b230_134, ↓b230_139, ↓b230_144, ↓b230_149, ↓b230_155, b230_0, b230_9, b230_12, b230_24, b230_27, b230_29, b230_31, b230_36, b230_45, b230_51, b230_56, b230_59, b230_62, b230_68, b230_82, b230_88, b230_93, b230_98, b230_106, b230_113, b230_128, b230_134, b230_139, b230_144, b230_149, b230_155, nLE4, layE8, hk, k3_128, r128, n3_229, n3_201, n3_231, I32, ↓xb, xb, ps, lpad, lat, aok2, rd2, aaok, aav, alok, alen, aok, akk, csum, isLg, cmpI, clsE, Option.elim, eq_self, List.mem_cons, List.not_mem_nil, or_false, false_or, List.append_nil, List.nil_append, List.cons_append, List.append_eq, List.replicate, List.length_cons, List.length_nil, List.map_cons, List.map_nil, ↓reduceIte, reduceCtorEq, if_true, if_false, true_and, and_true, false_and, and_false, and_self, not_true_eq_false, not_false_eq_true, forall_const, true_implies, false_implies, implies_true, Nat.reduceAdd, Nat.reduceSub, Nat.reduceLT, Nat.reduceLeDiff, Nat.reduceEqDiff, Nat.reduceMul, Nat.reducePow, Nat.add_one_ne_zero, Nat.add_one_sub_one, Nat.add_zero, Nat.zero_add, Int.reduceLT, Int.reduceLE, Int.reduceNeg, Int.reduceAdd, Int.reduceSub, Int.reduceToNat, Int.reduceEq, Int.reduceMul, Int.reducePow, Int.cast_ofNat_Int, Int.toNat_natCast, ne_eq, Bool.false_eq_true, true_or, or_true, or_self, Nat.not_lt_zero, ite_e0, ite_e1, lc_lt, lc_ge, lc_gt, lc_le, lc_eq, Classical.not_not]
    with_reducible repeat' (first | (refine And.intro ?_ ?_) | intro _)
    all_goals try omega
    all_goals first | omega | exact q0 c
end RX2

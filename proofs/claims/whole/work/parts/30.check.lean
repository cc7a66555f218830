/-! 30.check: the check's quarter, first half: words, sums, spoil, first, what begins a quarter -/
def wx (σ : Mem) (i : Nat) : Int := if i < 15 then σ 21 59 0 i else 0
abbrev SXw : Nat → Nat → Bool := fun o f => o == 21 && f == 59
abbrev SXs : Nat → Nat → Bool := fun o f => o == 21 && f == 60
/-- what the check's quarter may change -/
def SX (o f : Nat) : Bool := o == 21 && (f == 2 || f == 8 || f == 26 || f == 37 || f == 38 || f == 59 || f == 60 || f == 61 || f == 62 || f == 63)
theorem SX_f {f : Nat} (h : f = 2 ∨ f = 8 ∨ f = 26 ∨ f = 37 ∨ f = 38 ∨ f = 59 ∨ f = 60 ∨ f = 61 ∨ f = 62 ∨ f = 63) : SX 21 f = true := by
  unfold SX
  rcases h with rfl | rfl | rfl | rfl | rfl | rfl | rfl | rfl | rfl | rfl <;> rfl
theorem same_xw {σ σ' : Mem} (h : same SXw σ σ') : same SX σ σ' := h.mono (fun o f z => by
  have z' : (o == 21 && f == 59) = true := z
  simp only [Bool.and_eq_true, beq_iff_eq] at z'
  rw [z'.1, z'.2]; rfl)
theorem same_xs {σ σ' : Mem} (h : same SXs σ σ') : same SX σ σ' := h.mono (fun o f z => by
  have z' : (o == 21 && f == 60) = true := z
  simp only [Bool.and_eq_true, beq_iff_eq] at z'
  rw [z'.1, z'.2]; rfl)
def RuX (G : Gl) (w : Wd) (kk : Nat) (r : Int) (U : RU) (σ : Mem) : Prop :=
  (0 ≤ U.2 ∧ U.2 ≤ 9999) ∧
  (∀ (σ' : Mem) (Q : Option AV → Mem → Prop) (k' : Nat), kk ≤ k' → (∀ f, 50 ≤ f → f ≤ 57 → ∀ r c, σ' 21 f r c = σ 21 f r c) → Q (some (vi U.2)) σ' → CC G w w k' (0, 0) 180 [vr 21 0 0, vi r] σ' Q) ∧
  (∀ (σ' : Mem) (Q : Option AV → Mem → Prop) (k' : Nat) (s : Int), kk ≤ k' → (∀ f, 50 ≤ f → f ≤ 57 → ∀ r c, σ' 21 f r c = σ 21 f r c) → (s = 0 ∨ s = 1 ∨ s = 2) → (∀ σ'', same SXs σ' σ'' → Q (some (vl (U.1 (s + 15).toNat (wx σ')))) σ'') → CC G w w k' (0, 0) 179 [vr 21 0 0, vi r, vi s] σ' Q)
theorem RuX.keep {G : Gl} {w : Wd} {kk : Nat} {r : Int} {U : RU} {σ σ' : Mem} (h : RuX G w kk r U σ) (hs : ∀ f, 50 ≤ f → f ≤ 57 → ∀ r c, σ' 21 f r c = σ 21 f r c) : RuX G w kk r U σ' :=
  ⟨h.1, fun τ Q k' hk hf => h.2.1 τ Q k' hk (fun f a b r c => (hf f a b r c).trans (hs f a b r c)), fun τ Q k' s hk hf => h.2.2 τ Q k' s hk (fun f a b r c => (hf f a b r c).trans (hs f a b r c))⟩
theorem RuX.sx {G : Gl} {w : Wd} {kk : Nat} {r : Int} {U : RU} {σ σ' : Mem} (h : RuX G w kk r U σ) (hs : same SX σ σ') : RuX G w kk r U σ' := h.keep (fun f a b r c => hs 21 f (by
  have : f = 50 ∨ f = 51 ∨ f = 52 ∨ f = 53 ∨ f = 54 ∨ f = 55 ∨ f = 56 ∨ f = 57 := by omega
  rcases this with rfl | rfl | rfl | rfl | rfl | rfl | rfl | rfl <;> rfl) r c)
theorem MR.same59 {σ σ' : Mem} {P : Pt} (M : MR σ P) (hs : same SXw σ σ') : MR σ' P := M.keep hs (fun f _ h => by
  show ((21 : Nat) == 21 && f == 59) = false
  rw [show (f == 59) = false by simp; omega]; rfl)
theorem MR.same60 {σ σ' : Mem} {P : Pt} (M : MR σ P) (hs : same SXs σ σ') : MR σ' P := M.keep hs (fun f _ h => by
  show ((21 : Nat) == 21 && f == 60) = false
  rw [show (f == 60) = false by simp; omega]; rfl)
section CHK
variable {G : Gl} {w : Wd} {k : Nat} {σ : Mem} {Q : Option AV → Mem → Prop} {P : Pt} {U : RU} {r : Int}
set_option maxRecDepth 100000 in
set_option maxHeartbeats 1000000 in
theorem kx_askH (M : MR σ P) (W : WF P) (hk : 6 ≤ k) (hn : P 2 6 ≤ 99999) {h : Int} (hh : 0 ≤ h ∧ h < 12) (q : ∀ σ', wx σ' = wH P h → same SXw σ σ' → Q none σ') : CC G w w k (0, 0) 181 [vr 21 0 0, vi h] σ Q := by
  have w13 := W.sc.2.2.2.2.2.2
  have hM : ∀ f i, 2 ≤ f → f ≤ 38 → σ 21 f 0 i = P f i := M
  have tc : tillC (P 2 7) (P 2 6) := by unfold tillC; omega
  refine CC_vb ok181 (by decide) (sm3_ok G w) 60 [] (Nat.le_of_ble_eq_true rfl) ?_
  simp -implicitDefEqProofs only [↓b181_0, ↓b181_42, ↓b181_86, ↓b181_92, ↓b181_105, b181_0, b181_42, b181_86, b181_92, b181_105, nLE3, layE8, hM, tc, up_rd, k3_147, r147, I32, ↓xb, xb, ps, lpad, lat, aok2, rd2, aaok, aav, alok, alen, aok, akk, csum, isLg, cmpI, clsE, Option.elim, eq_self, List.mem_cons, List.not_mem_nil, or_false, false_or, List.append_nil, List.nil_append, List.cons_append, List.append_eq, List.replicate, List.length_cons, List.length_nil, List.map_cons, List.map_nil, ↓reduceIte, reduceCtorEq, if_true, if_false, true_and, and_true, false_and, and_false, and_self, not_true_eq_false, not_false_eq_true, forall_const, true_implies, false_implies, implies_true, Nat.reduceAdd, Nat.reduceSub, Nat.reduceLT, Nat.reduceLeDiff, Nat.reduceEqDiff, Nat.reduceMul, Nat.reducePow, Nat.add_one_ne_zero, Nat.add_one_sub_one, Nat.add_zero, Nat.zero_add, Int.reduceLT, Int.reduceLE, Int.reduceNeg, Int.reduceAdd, Int.reduceSub, Int.reduceToNat, Int.reduceEq, Int.reduceMul, Int.reducePow, Int.cast_ofNat_Int, Int.toNat_natCast, ne_eq, Bool.false_eq_true, true_or, or_true, or_self, Nat.not_lt_zero, ite_e0, ite_e1, lc_lt, lc_ge, lc_gt, lc_le, lc_eq, Classical.not_not]
  with_reducible repeat' (first | (refine And.intro ?_ ?_) | intro _)
  all_goals try omega
  refine q _ ?_ ((((((((((((((((same.refl.put rfl).put rfl).put rfl).put rfl).put rfl).put rfl).put rfl).put rfl).put rfl).put rfl).put rfl).put rfl).put rfl).put rfl).put rfl))
  funext i
  unfold wx wH
  simp only [up_rd, true_and]
  by_cases c : i < 15
  · rw [if_pos c]
    have : i = 0 ∨ i = 1 ∨ i = 2 ∨ i = 3 ∨ i = 4 ∨ i = 5 ∨ i = 6 ∨ i = 7 ∨ i = 8 ∨ i = 9 ∨ i = 10 ∨ i = 11 ∨ i = 12 ∨ i = 13 ∨ i = 14 := by omega
    rcases this with e | e | e | e | e | e | e | e | e | e | e | e | e | e | e <;> subst e <;> rfl
  · rw [if_neg c]
    repeat' (first | rw [if_neg (by omega)])
set_option maxRecDepth 100000 in
set_option maxHeartbeats 1000000 in
theorem kx_askN (M : MR σ P) (W : WF P) (hk : 7 ≤ k) (hn : P 2 6 ≤ 99999) {n : Nat} (hh : (n : Int) < P 2 1) {lack : Int} (q : ∀ σ', wx σ' = wN P n lack → same SXw σ σ' → Q none σ') : CC G w w k (0, 0) 182 [vr 21 0 0, vi n, vi lack] σ Q := by
  have w1 := W.sc.1; have w2 := W.sc.2.1
  have hM : ∀ f i, 2 ≤ f → f ≤ 38 → σ 21 f 0 i = P f i := M
  obtain ⟨d1, d2, d3, d4, d5, d6, d7⟩ := W.nd (n := n) hh
  refine CC_vb ok182 (by decide) (sm3_ok G w) 60 [] (Nat.le_of_ble_eq_true rfl) ?_
  simp -implicitDefEqProofs only [↓b182_0, ↓b182_10, b182_0, b182_10, nLE3, layE8, hM, n3_181, I32, ↓xb, xb, ps, lpad, lat, aok2, rd2, aaok, aav, alok, alen, aok, akk, csum, isLg, cmpI, clsE, Option.elim, eq_self, List.mem_cons, List.not_mem_nil, or_false, false_or, List.append_nil, List.nil_append, List.cons_append, List.append_eq, List.replicate, List.length_cons, List.length_nil, List.map_cons, List.map_nil, ↓reduceIte, reduceCtorEq, if_true, if_false, true_and, and_true, false_and, and_false, and_self, not_true_eq_false, not_false_eq_true, forall_const, true_implies, false_implies, implies_true, Nat.reduceAdd, Nat.reduceSub, Nat.reduceLT, Nat.reduceLeDiff, Nat.reduceEqDiff, Nat.reduceMul, Nat.reducePow, Nat.add_one_ne_zero, Nat.add_one_sub_one, Nat.add_zero, Nat.zero_add, Int.reduceLT, Int.reduceLE, Int.reduceNeg, Int.reduceAdd, Int.reduceSub, Int.reduceToNat, Int.reduceEq, Int.reduceMul, Int.reducePow, Int.cast_ofNat_Int, Int.toNat_natCast, ne_eq, Bool.false_eq_true, true_or, or_true, or_self, Nat.not_lt_zero, ite_e0, ite_e1, lc_lt, lc_ge, lc_gt, lc_le, lc_eq, Classical.not_not]
  with_reducible repeat' (first | (refine And.intro ?_ ?_) | intro _)
  all_goals try omega
  refine kx_askH M W (by omega) hn (by omega) (fun σ1 hw hs => ?_)
  have hM1 : ∀ f i, 2 ≤ f → f ≤ 38 → σ1 21 f 0 i = P f i := M.same59 hs
  simp -implicitDefEqProofs only [↓b182_0, ↓b182_10, b182_0, b182_10, nLE3, layE8, hM1, up_rd, n3_181, I32, ↓xb, xb, ps, lpad, lat, aok2, rd2, aaok, aav, alok, alen, aok, akk, csum, isLg, cmpI, clsE, Option.elim, eq_self, List.mem_cons, List.not_mem_nil, or_false, false_or, List.append_nil, List.nil_append, List.cons_append, List.append_eq, List.replicate, List.length_cons, List.length_nil, List.map_cons, List.map_nil, ↓reduceIte, reduceCtorEq, if_true, if_false, true_and, and_true, false_and, and_false, and_self, not_true_eq_false, not_false_eq_true, forall_const, true_implies, false_implies, implies_true, Nat.reduceAdd, Nat.reduceSub, Nat.reduceLT, Nat.reduceLeDiff, Nat.reduceEqDiff, Nat.reduceMul, Nat.reducePow, Nat.add_one_ne_zero, Nat.add_one_sub_one, Nat.add_zero, Nat.zero_add, Int.reduceLT, Int.reduceLE, Int.reduceNeg, Int.reduceAdd, Int.reduceSub, Int.reduceToNat, Int.reduceEq, Int.reduceMul, Int.reducePow, Int.cast_ofNat_Int, Int.toNat_natCast, ne_eq, Bool.false_eq_true, true_or, or_true, or_self, Nat.not_lt_zero, ite_e0, ite_e1, lc_lt, lc_ge, lc_gt, lc_le, lc_eq, Classical.not_not]
  with_reducible repeat' (first | (refine And.intro ?_ ?_) | intro _)
  all_goals try omega
  refine q _ ?_ (((((hs.put rfl).put rfl).put rfl).put rfl))
  funext i
  have hi := congrFun hw i
  unfold wx at hi
  unfold wx wN
  simp only [up_rd, true_and]
  by_cases c : i < 15
  · rw [if_pos c] at hi ⊢
    by_cases c9 : i = 9
    · subst c9; rfl
    · by_cases c8 : i = 8
      · subst c8; rfl
      · by_cases c7 : i = 7
        · subst c7; rfl
        · by_cases c6 : i = 6
          · subst c6; rfl
          · rw [if_neg c9, if_neg c8, if_neg c7, if_neg c6, if_neg c6, if_neg c7, if_neg c8, if_neg c9]; exact hi
  · rw [if_neg c] at hi ⊢
    rw [if_neg (by omega), if_neg (by omega), if_neg (by omega), if_neg (by omega)]; exact hi
set_option maxRecDepth 100000 in
set_option maxHeartbeats 1000000 in
theorem kx_askG (M : MR σ P) (W : WF P) (hk : 8 ≤ k) (hn : P 2 6 ≤ 99999) {n : Nat} (hh : (n : Int) < P 2 1) {lack o : Int} (ho : 0 ≤ o ∧ o < 12) (q : ∀ σ', wx σ' = wG P o (P 9 n) (P 10 n) (wN P n lack) → same SXw σ σ' → Q none σ') : CC G w w k (0, 0) 183 [vr 21 0 0, vi n, vi lack, vi o] σ Q := by
  have w1 := W.sc.1; have w2 := W.sc.2.1
  have hM : ∀ f i, 2 ≤ f → f ≤ 38 → σ 21 f 0 i = P f i := M
  obtain ⟨d1, d2, d3, d4, d5, d6, d7⟩ := W.nd (n := n) hh
  refine CC_vb ok183 (by decide) (sm3_ok G w) 60 [] (Nat.le_of_ble_eq_true rfl) ?_
  simp -implicitDefEqProofs only [↓b183_0, ↓b183_14, ↓b183_109, b183_0, b183_14, b183_109, nLE3, layE8, hM, n3_182, k3_133, r133, I32, ↓xb, xb, ps, lpad, lat, aok2, rd2, aaok, aav, alok, alen, aok, akk, csum, isLg, cmpI, clsE, Option.elim, eq_self, List.mem_cons, List.not_mem_nil, or_false, false_or, List.append_nil, List.nil_append, List.cons_append, List.append_eq, List.replicate, List.length_cons, List.length_nil, List.map_cons, List.map_nil, ↓reduceIte, reduceCtorEq, if_true, if_false, true_and, and_true, false_and, and_false, and_self, not_true_eq_false, not_false_eq_true, forall_const, true_implies, false_implies, implies_true, Nat.reduceAdd, Nat.reduceSub, Nat.reduceLT, Nat.reduceLeDiff, Nat.reduceEqDiff, Nat.reduceMul, Nat.reducePow, Nat.add_one_ne_zero, Nat.add_one_sub_one, Nat.add_zero, Nat.zero_add, Int.reduceLT, Int.reduceLE, Int.reduceNeg, Int.reduceAdd, Int.reduceSub, Int.reduceToNat, Int.reduceEq, Int.reduceMul, Int.reducePow, Int.cast_ofNat_Int, Int.toNat_natCast, ne_eq, Bool.false_eq_true, true_or, or_true, or_self, Nat.not_lt_zero, ite_e0, ite_e1, lc_lt, lc_ge, lc_gt, lc_le, lc_eq, Classical.not_not]
  with_reducible repeat' (first | (refine And.intro ?_ ?_) | intro _)
  all_goals try omega
  refine kx_askN M W (by omega) hn hh (fun σ1 hw hs => ?_)
  have M1 := M.same59 hs
  have hM1 : ∀ f i, 2 ≤ f → f ≤ 38 → σ1 21 f 0 i = P f i := M1
  have R2 : ∀ v1 v2 v3 v4, MR (up (up (up (up σ1 21 59 0 10 v1) 21 59 0 11 v2) 21 59 0 12 v3) 21 59 0 13 v4) P := fun v1 v2 v3 v4 => (((M1.put2 (by omega)).put2 (by omega)).put2 (by omega)).put2 (by omega)
  have x1 := fun v1 v2 v3 v4 => (R2 v1 v2 v3 v4).xy W (a := o) ho
  have x2 := fun v1 v2 v3 v4 => (R2 v1 v2 v3 v4).xy W (a := P 9 n) (by omega)
  have x3 := fun v1 v2 v3 v4 => (R2 v1 v2 v3 v4).far_m (a := o) (b := P 9 n)
  simp -implicitDefEqProofs only [↓b183_0, ↓b183_14, ↓b183_109, b183_0, b183_14, b183_109, nLE3, layE8, hM1, up_rd, x1, x2, x3, n3_182, k3_133, r133, I32, ↓xb, xb, ps, lpad, lat, aok2, rd2, aaok, aav, alok, alen, aok, akk, csum, isLg, cmpI, clsE, Option.elim, eq_self, List.mem_cons, List.not_mem_nil, or_false, false_or, List.append_nil, List.nil_append, List.cons_append, List.append_eq, List.replicate, List.length_cons, List.length_nil, List.map_cons, List.map_nil, ↓reduceIte, reduceCtorEq, if_true, if_false, true_and, and_true, false_and, and_false, and_self, not_true_eq_false, not_false_eq_true, forall_const, true_implies, false_implies, implies_true, Nat.reduceAdd, Nat.reduceSub, Nat.reduceLT, Nat.reduceLeDiff, Nat.reduceEqDiff, Nat.reduceMul, Nat.reducePow, Nat.add_one_ne_zero, Nat.add_one_sub_one, Nat.add_zero, Nat.zero_add, Int.reduceLT, Int.reduceLE, Int.reduceNeg, Int.reduceAdd, Int.reduceSub, Int.reduceToNat, Int.reduceEq, Int.reduceMul, Int.reducePow, Int.cast_ofNat_Int, Int.toNat_natCast, ne_eq, Bool.false_eq_true, true_or, or_true, or_self, Nat.not_lt_zero, ite_e0, ite_e1, lc_lt, lc_ge, lc_gt, lc_le, lc_eq, Classical.not_not]
  with_reducible repeat' (first | (refine And.intro ?_ ?_) | intro _)
  all_goals try omega
  refine q _ ?_ ((((((hs.put rfl).put rfl).put rfl).put rfl).put rfl))
  funext i
  have hi := congrFun hw i
  unfold wx at hi
  unfold wG wx
  simp only [up_rd, true_and]
  by_cases c : i < 15
  · rw [if_pos c] at hi ⊢
    by_cases c14 : i = 14
    · subst c14; rfl
    · by_cases c13 : i = 13
      · subst c13; rfl
      · by_cases c12 : i = 12
        · subst c12; rfl
        · by_cases c11 : i = 11
          · subst c11; rfl
          · by_cases c10 : i = 10
            · subst c10; rfl
            · rw [if_neg c14, if_neg c13, if_neg c12, if_neg c11, if_neg c10, if_neg c10, if_neg c11, if_neg c12, if_neg c13, if_neg c14]; exact hi
  · rw [if_neg c] at hi ⊢
    rw [if_neg (by omega), if_neg (by omega), if_neg (by omega), if_neg (by omega), if_neg (by omega)]; exact hi
set_option maxRecDepth 100000 in
set_option maxHeartbeats 1000000 in
theorem kx_spoils (M : MR σ P) (W : WF P) (hX : RuX G w 6 r U σ) (hk : 12 ≤ k) (hn : P 2 6 ≤ 99999) {h : Int} (hh : 0 ≤ h ∧ h < 12) (q : ∀ σ', MR σ' P → same SX σ σ' → Q (some (vi (spV U P h))) σ') : CC G w w k (0, 0) 186 [vr 21 0 0, vi r, vi h] σ Q := by
  refine CC_vb ok186 (by decide) (sm3_ok G w) 60 [] (Nat.le_of_ble_eq_true rfl) ?_
  simp -implicitDefEqProofs only [↓b186_0, ↓b186_5, ↓b186_11, ↓b186_27, b186_0, b186_5, b186_11, b186_27, nLE3, layE8, hn, n3_181, n3_179, k3_129, r129, I32, ↓xb, xb, ps, lpad, lat, aok2, rd2, aaok, aav, alok, alen, aok, akk, csum, isLg, cmpI, clsE, Option.elim, eq_self, List.mem_cons, List.not_mem_nil, or_false, false_or, List.append_nil, List.nil_append, List.cons_append, List.append_eq, List.replicate, List.length_cons, List.length_nil, List.map_cons, List.map_nil, ↓reduceIte, reduceCtorEq, if_true, if_false, true_and, and_true, false_and, and_false, and_self, not_true_eq_false, not_false_eq_true, forall_const, true_implies, false_implies, implies_true, Nat.reduceAdd, Nat.reduceSub, Nat.reduceLT, Nat.reduceLeDiff, Nat.reduceEqDiff, Nat.reduceMul, Nat.reducePow, Nat.add_one_ne_zero, Nat.add_one_sub_one, Nat.add_zero, Nat.zero_add, Int.reduceLT, Int.reduceLE, Int.reduceNeg, Int.reduceAdd, Int.reduceSub, Int.reduceToNat, Int.reduceEq, Int.reduceMul, Int.reducePow, Int.cast_ofNat_Int, Int.toNat_natCast, ne_eq, Bool.false_eq_true, true_or, or_true, or_self, Nat.not_lt_zero, ite_e0, ite_e1, lc_lt, lc_ge, lc_gt, lc_le, lc_eq, Classical.not_not]
  with_reducible repeat' (first | (refine And.intro ?_ ?_) | intro _)
  all_goals try omega
  refine kx_askH M W (by omega) hn hh (fun σ1 hw hs => ?_)
  simp -implicitDefEqProofs only [↓b186_0, ↓b186_5, ↓b186_11, ↓b186_27, b186_0, b186_5, b186_11, b186_27, nLE3, layE8, hn, n3_181, n3_179, k3_129, r129, I32, ↓xb, xb, ps, lpad, lat, aok2, rd2, aaok, aav, alok, alen, aok, akk, csum, isLg, cmpI, clsE, Option.elim, eq_self, List.mem_cons, List.not_mem_nil, or_false, false_or, List.append_nil, List.nil_append, List.cons_append, List.append_eq, List.replicate, List.length_cons, List.length_nil, List.map_cons, List.map_nil, ↓reduceIte, reduceCtorEq, if_true, if_false, true_and, and_true, false_and, and_false, and_self, not_true_eq_false, not_false_eq_true, forall_const, true_implies, false_implies, implies_true, Nat.reduceAdd, Nat.reduceSub, Nat.reduceLT, Nat.reduceLeDiff, Nat.reduceEqDiff, Nat.reduceMul, Nat.reducePow, Nat.add_one_ne_zero, Nat.add_one_sub_one, Nat.add_zero, Nat.zero_add, Int.reduceLT, Int.reduceLE, Int.reduceNeg, Int.reduceAdd, Int.reduceSub, Int.reduceToNat, Int.reduceEq, Int.reduceMul, Int.reducePow, Int.cast_ofNat_Int, Int.toNat_natCast, ne_eq, Bool.false_eq_true, true_or, or_true, or_self, Nat.not_lt_zero, ite_e0, ite_e1, lc_lt, lc_ge, lc_gt, lc_le, lc_eq, Classical.not_not]
  with_reducible repeat' (first | (refine And.intro ?_ ?_) | intro _)
  all_goals try omega
  refine (hX.sx (same_xw hs)).2.2 σ1 _ (k - 1) 0 (by omega) (fun _ _ _ _ _ => rfl) (Or.inl rfl) (fun σ2 hs2 => ?_)
  have M2 := (M.same59 hs).same60 hs2
  have hM2 : ∀ f i, 2 ≤ f → f ≤ 38 → σ2 21 f 0 i = P f i := M2
  have sb := W.st (n := (6 * h + 1).toNat) (by omega)
  have n15 : ((0 : Int) + 15).toNat = 15 := rfl
  rw [hw, n15]
  have ev : w32 (if U.1 15 (wH P h) < 0 then 0 else if P 8 (6 * h + 1).toNat < U.1 15 (wH P h) then P 8 (6 * h + 1).toNat else U.1 15 (wH P h)) = spV U P h := by
    unfold spV w32; (repeat' split) <;> omega
  simp -implicitDefEqProofs only [↓b186_0, ↓b186_5, ↓b186_11, ↓b186_27, b186_0, b186_5, b186_11, b186_27, nLE3, layE8, hM2, ev, n3_181, n3_179, k3_129, r129, I32, ↓xb, xb, ps, lpad, lat, aok2, rd2, aaok, aav, alok, alen, aok, akk, csum, isLg, cmpI, clsE, Option.elim, eq_self, List.mem_cons, List.not_mem_nil, or_false, false_or, List.append_nil, List.nil_append, List.cons_append, List.append_eq, List.replicate, List.length_cons, List.length_nil, List.map_cons, List.map_nil, ↓reduceIte, reduceCtorEq, if_true, if_false, true_and, and_true, false_and, and_false, and_self, not_true_eq_false, not_false_eq_true, forall_const, true_implies, false_implies, implies_true, Nat.reduceAdd, Nat.reduceSub, Nat.reduceLT, Nat.reduceLeDiff, Nat.reduceEqDiff, Nat.reduceMul, Nat.reducePow, Nat.add_one_ne_zero, Nat.add_one_sub_one, Nat.add_zero, Nat.zero_add, Int.reduceLT, Int.reduceLE, Int.reduceNeg, Int.reduceAdd, Int.reduceSub, Int.reduceToNat, Int.reduceEq, Int.reduceMul, Int.reducePow, Int.cast_ofNat_Int, Int.toNat_natCast, ne_eq, Bool.false_eq_true, true_or, or_true, or_self, Nat.not_lt_zero, ite_e0, ite_e1, lc_lt, lc_ge, lc_gt, lc_le, lc_eq, Classical.not_not]
  with_reducible repeat' (first | (refine And.intro ?_ ?_) | intro _)
  all_goals try omega
  exact q σ2 M2 ((same_xw hs).trans (same_xs hs2))
set_option maxRecDepth 100000 in
set_option maxHeartbeats 1000000 in
theorem kx_first (M : MR σ P) (W : WF P) (hX : RuX G w 6 r U σ) (hk : 12 ≤ k) (hn : P 2 6 ≤ 99999) {n : Int} (hh : 0 ≤ n ∧ n < P 2 1) (q : ∀ σ', MR σ' P → same (fun o f => o == 21 && (f == 59 || f == 60)) σ σ' → Q (some (vl (keyN U P n.toNat))) σ') : CC G w w k (0, 0) 185 [vr 21 0 0, vi r, vi n] σ Q := by
  have w2 := W.sc.2.1
  have hM : ∀ f i, 2 ≤ f → f ≤ 38 → σ 21 f 0 i = P f i := M
  refine CC_vb ok185 (by decide) (sm3_ok G w) 60 [] (Nat.le_of_ble_eq_true rfl) ?_
  simp -implicitDefEqProofs only [↓b185_0, ↓b185_11, ↓b185_17, b185_0, b185_11, b185_17, nLE3, layE8, hM, n3_182, n3_179, I32, ↓xb, xb, ps, lpad, lat, aok2, rd2, aaok, aav, alok, alen, aok, akk, csum, isLg, cmpI, clsE, Option.elim, eq_self, List.mem_cons, List.not_mem_nil, or_false, false_or, List.append_nil, List.nil_append, List.cons_append, List.append_eq, List.replicate, List.length_cons, List.length_nil, List.map_cons, List.map_nil, ↓reduceIte, reduceCtorEq, if_true, if_false, true_and, and_true, false_and, and_false, and_self, not_true_eq_false, not_false_eq_true, forall_const, true_implies, false_implies, implies_true, Nat.reduceAdd, Nat.reduceSub, Nat.reduceLT, Nat.reduceLeDiff, Nat.reduceEqDiff, Nat.reduceMul, Nat.reducePow, Nat.add_one_ne_zero, Nat.add_one_sub_one, Nat.add_zero, Nat.zero_add, Int.reduceLT, Int.reduceLE, Int.reduceNeg, Int.reduceAdd, Int.reduceSub, Int.reduceToNat, Int.reduceEq, Int.reduceMul, Int.reducePow, Int.cast_ofNat_Int, Int.toNat_natCast, ne_eq, Bool.false_eq_true, true_or, or_true, or_self, Nat.not_lt_zero, ite_e0, ite_e1, lc_lt, lc_ge, lc_gt, lc_le, lc_eq, Classical.not_not]
  with_reducible repeat' (first | (refine And.intro ?_ ?_) | intro _)
  all_goals try omega
  have en : vi n = vi ((n.toNat : Nat) : Int) := by rw [show ((n.toNat : Nat) : Int) = n by omega]
  rw [en]
  refine kx_askN M W (by omega) hn (n := n.toNat) (by omega) (fun σ1 hw hs => ?_)
  rw [← en]
  simp -implicitDefEqProofs only [↓b185_0, ↓b185_11, ↓b185_17, b185_0, b185_11, b185_17, nLE3, layE8, hn, n3_182, n3_179, I32, ↓xb, xb, ps, lpad, lat, aok2, rd2, aaok, aav, alok, alen, aok, akk, csum, isLg, cmpI, clsE, Option.elim, eq_self, List.mem_cons, List.not_mem_nil, or_false, false_or, List.append_nil, List.nil_append, List.cons_append, List.append_eq, List.replicate, List.length_cons, List.length_nil, List.map_cons, List.map_nil, ↓reduceIte, reduceCtorEq, if_true, if_false, true_and, and_true, false_and, and_false, and_self, not_true_eq_false, not_false_eq_true, forall_const, true_implies, false_implies, implies_true, Nat.reduceAdd, Nat.reduceSub, Nat.reduceLT, Nat.reduceLeDiff, Nat.reduceEqDiff, Nat.reduceMul, Nat.reducePow, Nat.add_one_ne_zero, Nat.add_one_sub_one, Nat.add_zero, Nat.zero_add, Int.reduceLT, Int.reduceLE, Int.reduceNeg, Int.reduceAdd, Int.reduceSub, Int.reduceToNat, Int.reduceEq, Int.reduceMul, Int.reducePow, Int.cast_ofNat_Int, Int.toNat_natCast, ne_eq, Bool.false_eq_true, true_or, or_true, or_self, Nat.not_lt_zero, ite_e0, ite_e1, lc_lt, lc_ge, lc_gt, lc_le, lc_eq, Classical.not_not]
  with_reducible repeat' (first | (refine And.intro ?_ ?_) | intro _)
  all_goals try omega
  refine (hX.sx (same_xw hs)).2.2 σ1 _ (k - 1) 1 (by omega) (fun _ _ _ _ _ => rfl) (Or.inr (Or.inl rfl)) (fun σ2 hs2 => ?_)
  have n16 : ((1 : Int) + 15).toNat = 16 := rfl
  rw [hw, n16]
  simp -implicitDefEqProofs only [↓b185_0, ↓b185_11, ↓b185_17, b185_0, b185_11, b185_17, nLE3, layE8, hn, n3_182, n3_179, I32, ↓xb, xb, ps, lpad, lat, aok2, rd2, aaok, aav, alok, alen, aok, akk, csum, isLg, cmpI, clsE, Option.elim, eq_self, List.mem_cons, List.not_mem_nil, or_false, false_or, List.append_nil, List.nil_append, List.cons_append, List.append_eq, List.replicate, List.length_cons, List.length_nil, List.map_cons, List.map_nil, ↓reduceIte, reduceCtorEq, if_true, if_false, true_and, and_true, false_and, and_false, and_self, not_true_eq_false, not_false_eq_true, forall_const, true_implies, false_implies, implies_true, Nat.reduceAdd, Nat.reduceSub, Nat.reduceLT, Nat.reduceLeDiff, Nat.reduceEqDiff, Nat.reduceMul, Nat.reducePow, Nat.add_one_ne_zero, Nat.add_one_sub_one, Nat.add_zero, Nat.zero_add, Int.reduceLT, Int.reduceLE, Int.reduceNeg, Int.reduceAdd, Int.reduceSub, Int.reduceToNat, Int.reduceEq, Int.reduceMul, Int.reducePow, Int.cast_ofNat_Int, Int.toNat_natCast, ne_eq, Bool.false_eq_true, true_or, or_true, or_self, Nat.not_lt_zero, ite_e0, ite_e1, lc_lt, lc_ge, lc_gt, lc_le, lc_eq, Classical.not_not]
  with_reducible repeat' (first | (refine And.intro ?_ ?_) | intro _)
  all_goals try omega
  refine q σ2 ((M.same59 hs).same60 hs2) ((hs.mono (fun o f z => ?_)).trans (hs2.mono (fun o f z => ?_)))
  · have z' : (o == 21 && f == 59) = true := z
    simp only [Bool.and_eq_true, beq_iff_eq] at z'
    rw [z'.1, z'.2]; rfl
  · have z' : (o == 21 && f == 60) = true := z
    simp only [Bool.and_eq_true, beq_iff_eq] at z'
    rw [z'.1, z'.2]; rfl
end CHK

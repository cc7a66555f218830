/-! 47.should: what a van should say (both) -/
theorem w64_ex (x : Int) : ∃ y : Int, w64 x = x + 18446744073709551616 * y := ⟨-((x + 9223372036854775808) / 18446744073709551616), by unfold w64; omega⟩
theorem w64_pe (x y : Int) : w64 (x + 18446744073709551616 * y) = w64 x := by unfold w64; omega
theorem w64_mul {a b : Int} : w64 (a * w64 b) = w64 (a * b) := by
  obtain ⟨y, hy⟩ := w64_ex b
  rw [hy, Int.mul_add, show a * (18446744073709551616 * y) = 18446744073709551616 * (a * y) by rw [Int.mul_left_comm], w64_pe]
def wtP (P : Pt) (s : Int) : Int := iter (wst P s) (P 2 5).toNat 0
noncomputable def sdS (U : RU) (P1 P : Pt) (j : Nat) (c : Int) : Int := w64 (c + w64 ((rnP U 0 (j + 1) P1).2 * wtP P (P 2 6 + (j + 1 : Nat))))
noncomputable def sdR (U : RU) (q : Int) (P : Pt) (n : Nat) : Int := iter (sdS U (pu P 2 7 q) P) n 0
def goP (P : Pt) : Int := iter (est P 60) (P 2 5).toNat 0
theorem go_all {P : Pt} (n : Nat) : 0 ≤ iter (est P 60) n 0 ∧ iter (est P 60) n 0 ≤ 60 ∧ ∀ i : Nat, i < n → P 32 i - P 2 6 ≤ 60 → P 32 i - P 2 6 ≤ iter (est P 60) n 0 := by
  refine iter_inv (st := est P 60) (I := fun n c => 0 ≤ c ∧ c ≤ 60 ∧ ∀ i : Nat, i < n → P 32 i - P 2 6 ≤ 60 → P 32 i - P 2 6 ≤ c) ⟨by omega, by omega, fun i h => by omega⟩ (fun j c _ hc => ?_)
  obtain ⟨c1, c2, c3⟩ := hc
  unfold est
  split
  · refine ⟨by omega, by omega, fun i hi h => ?_⟩
    by_cases e : i = j
    · subst e; omega
    · have := c3 i (by omega) h; omega
  · refine ⟨c1, c2, fun i hi h => ?_⟩
    by_cases e : i = j
    · subst e; omega
    · exact c3 i (by omega) h
theorem wt_0 {P : Pt} {s : Int} (n : Nat) (h : ∀ i : Nat, i < n → P 32 i ≠ s) : iter (wst P s) n 0 = 0 := by
  refine iter_inv (st := wst P s) (I := fun _ c => c = 0) rfl (fun j c hj hc => ?_)
  unfold wst
  rw [if_neg (h j hj)]
  exact hc
theorem sd_w {U : RU} {q : Int} {P : Pt} : ∀ n : Nat, w64 (sdR U q P n) = sdR U q P n
  | 0 => show w64 0 = 0 by decide
  | n + 1 => w64_w64
theorem sd_60 {U : RU} {q : Int} {P : Pt} (W : WF P) : ∀ d : Nat, (goP P).toNat + d ≤ 60 → sdR U q P ((goP P).toNat + d) = sdR U q P (goP P).toNat
  | 0, _ => rfl
  | d + 1, h => by
    have ih := sd_60 (U := U) (q := q) W d (by omega)
    obtain ⟨g1, g2, g3⟩ := go_all (P := P) (P 2 5).toNat
    have e : wtP P (P 2 6 + ((goP P).toNat + d + 1 : Nat)) = 0 := wt_0 _ (fun i hi e => by
      have := g3 i hi
      have : goP P = iter (est P 60) (P 2 5).toNat 0 := rfl
      omega)
    show sdS U (pu P 2 7 q) P ((goP P).toNat + d) (sdR U q P ((goP P).toNat + d)) = _
    rw [ih]
    unfold sdS
    rw [e, Int.mul_zero, show w64 0 = 0 by decide, Int.add_zero]
    exact sd_w _
theorem WF.said {P : Pt} (h : WF P) {v : Int} (hv : -1 ≤ v ∧ v ≤ 99999) : WF (pu P 2 7 v) := ⟨⟨h.sc.1, h.sc.2.1, h.sc.2.2.1, h.sc.2.2.2.1, h.sc.2.2.2.2.1, h.sc.2.2.2.2.2.1, h.sc.2.2.2.2.2.2.1, hv⟩, h.2⟩
noncomputable def shS (U : RU) (P : Pt) (i : Nat) (a : Int × Int) : Int × Int := if a.1 = -2 ∨ sdR U (P 32 i) P 60 < a.2 ∨ (sdR U (P 32 i) P 60 = a.2 ∧ P 32 i < a.1) then (P 32 i, sdR U (P 32 i) P 60) else a
noncomputable def shR (U : RU) (P : Pt) (n : Nat) : Int × Int := iter (shS U P) n (-2, 0)
theorem sh_st {U : RU} {P : Pt} {i b v : Int} (h0 : 0 ≤ i) (hc : (b, v) = shR U P i.toNat) : (b = -2 ∨ sdR U (P 32 i.toNat) P 60 < v ∨ (sdR U (P 32 i.toNat) P 60 = v ∧ P 32 i.toNat < b) → (P 32 i.toNat, sdR U (P 32 i.toNat) P 60) = shR U P (i + 1).toNat) ∧ (¬ (b = -2 ∨ sdR U (P 32 i.toNat) P 60 < v ∨ (sdR U (P 32 i.toNat) P 60 = v ∧ P 32 i.toNat < b)) → (b, v) = shR U P (i + 1).toNat) := by
  have e : shR U P (i + 1).toNat = shS U P i.toNat (b, v) := by
    rw [hc]; unfold shR; exact iter_toNat _ h0 _
  rw [e]
  unfold shS
  exact ⟨fun z => (if_pos z).symm, fun z => (if_neg z).symm⟩
theorem sh_r {U : RU} {P : Pt} (W : WF P) (n : Nat) (hn : (n : Int) ≤ P 2 5) : (shR U P n).1 = -2 ∨ (0 ≤ (shR U P n).1 ∧ (shR U P n).1 ≤ 99999) := by
  refine iter_inv (st := shS U P) (I := fun _ a => a.1 = -2 ∨ (0 ≤ a.1 ∧ a.1 ≤ 99999)) (Or.inl rfl) (fun j a hj ha => ?_)
  have d := (W.en (n := j) (by omega)).1
  unfold shS
  split
  · exact Or.inr d
  · exact ha
section SHD
variable {G : Gl} {w : Wd} {k : Nat} {σ : Mem} {Q : Option AV → Mem → Prop} {P : Pt} {ro : Nat} {U : RU} {r : Int}
set_option maxRecDepth 100000 in
set_option maxHeartbeats 1000000 in
theorem kc_sum_l (W : WF P) (N : N38 P) (hn6 : P 2 6 ≤ 9999) (hr : 13 ≤ ro ∧ ro ≤ 20) (hk : 26 ≤ k) (hU2 : 0 ≤ U.2) {qq : Int} (hq : -1 ≤ qq ∧ qq ≤ 99999)
    (q : ∀ σ', same (Str ro) σ σ' → Q (some (vl (sdR U qq P (goP P).toNat))) σ') :
    ∀ (m : Nat) (i : Int) (σ' : Mem), 0 ≤ i → i ≤ goP P → goP P < i + m → TF σ' P → RuC G w 6 ro U σ' → RT True σ' 2 (rnP U 0 i.toNat (pu P 2 7 qq)).1 → NRs σ' 2 (rnP U 0 i.toNat (pu P 2 7 qq)).1 → WRs σ' 2 (rnP U 0 i.toNat (pu P 2 7 qq)).1 → same (Str ro) σ σ' → TT G w w w k (0, 0) 112 38 [some (vr 0 0 0), some (vr ro 0 0), some (vi qq), some (vi (goP P)), some (vl (rnP U 0 i.toNat (pu P 2 7 qq)).2), none, some (vl (sdR U qq P i.toNat)), none, some (vi (i + 1))] [] σ' Q
  | 0, i, σ', h0, h1, h2, _, _, _, _, _, _ => by omega
  | m + 1, i, σ', h0, h1, h2, T, hU, R, Nr, Wr, hs => by
    have ih := kc_sum_l W N hn6 hr hk hU2 hq q m (i + 1)
    have g := go_all (P := P) (P 2 5).toNat
    have gP : goP P = iter (est P 60) (P 2 5).toNat 0 := rfl
    have st : rnP U 0 (i + 1).toNat (pu P 2 7 qq) = (quP U 0 (rnP U 0 i.toNat (pu P 2 7 qq)).1, w64 ((rnP U 0 i.toNat (pu P 2 7 qq)).2 + quH U 0 (rnP U 0 i.toNat (pu P 2 7 qq)).1)) := by
      rw [show (i + 1).toNat = i.toNat + 1 by omega]; rfl
    have sd : sdR U qq P (i + 1).toNat = w64 (sdR U qq P i.toNat + w64 ((rnP U 0 (i + 1).toNat (pu P 2 7 qq)).2 * wtP P (P 2 6 + (i + 1)))) := by
      rw [show (i + 1).toNat = i.toNat + 1 by omega]
      show sdS U (pu P 2 7 qq) P i.toNat (sdR U qq P i.toNat) = _
      unfold sdS
      rw [show ((i.toNat + 1 : Nat) : Int) = i + 1 by omega]
    rw [sd, st] at ih
    have W1 := W.said hq
    have N1 : N38 (pu P 2 7 qq) := N.keep (by decide)
    have z := rn_k (kd := 0) W1 N1 hU2 i.toNat
    have w6 := W.sc.2.2.2.2.2.2.1
    have e7 := T.1.now
    by_cases hi : i < goP P
    · refine TT_vb ok112 (sm3_ok G w) 60 [38] ?_
      simp -implicitDefEqProofs only [↓b112_0, ↓b112_11, ↓b112_28, ↓b112_38, ↓b112_44, ↓b112_59, ↓b112_83, ↓b112_93, b112_0, b112_11, b112_28, b112_38, b112_44, b112_59, b112_83, b112_93, nLE2, layE7, layE4, layE3, layE2, hk, n3_43, n3_59, n3_6, n3_60, I32, ↓xb, xb, ps, lpad, lat, aok2, rd2, aaok, aav, alok, alen, aok, akk, csum, isLg, cmpI, clsE, Option.elim, eq_self, List.mem_cons, List.not_mem_nil, or_false, false_or, List.append_nil, List.nil_append, List.cons_append, List.append_eq, List.replicate, List.length_cons, List.length_nil, List.map_cons, List.map_nil, ↓reduceIte, reduceCtorEq, if_true, if_false, true_and, and_true, false_and, and_false, and_self, not_true_eq_false, not_false_eq_true, forall_const, true_implies, false_implies, implies_true, Nat.reduceAdd, Nat.reduceSub, Nat.reduceLT, Nat.reduceLeDiff, Nat.reduceEqDiff, Nat.reduceMul, Nat.reducePow, Nat.add_one_ne_zero, Nat.add_one_sub_one, Nat.add_zero, Nat.zero_add, Int.reduceLT, Int.reduceLE, Int.reduceNeg, Int.reduceAdd, Int.reduceSub, Int.reduceToNat, Int.reduceEq, Int.reduceMul, Int.reducePow, Int.cast_ofNat_Int, Int.toNat_natCast, ne_eq, Bool.false_eq_true, true_or, or_true, or_self, Nat.not_lt_zero, ite_e0, ite_e1, lc_lt, lc_ge, lc_gt, lc_le, lc_eq, Classical.not_not]
      with_reducible repeat' (first | (refine And.intro ?_ ?_) | intro _)
      all_goals try omega
      refine kc_pass (t := 2) (kd := 0) (R.weak (fun _ => trivial)) z.1.1 z.1.2.1 Wr Nr (Or.inr rfl) hr hU (by omega) (by have := z.2.2.1; have e : pu P 2 7 qq 2 6 = P 2 6 := rfl; omega) (by omega) (fun σ2 R2 s2 => ?_)
      have kk := (qu_k (kd := 0) z.1.1 z.1.2.1 hU2).1
      have tr : ((2 : Nat) == ro) = false := by simp; omega
      have s2' : same (Str ro) σ' σ2 := Str_sp s2
      have T2 := T.str hr s2'
      have e72 := T2.1.now
      simp -implicitDefEqProofs only [↓b112_0, ↓b112_11, ↓b112_28, ↓b112_38, ↓b112_44, ↓b112_59, ↓b112_83, ↓b112_93, b112_0, b112_11, b112_28, b112_38, b112_44, b112_59, b112_83, b112_93, nLE2, layE7, layE4, layE3, layE2, e72, n3_43, n3_59, n3_6, n3_60, I32, ↓xb, xb, ps, lpad, lat, aok2, rd2, aaok, aav, alok, alen, aok, akk, csum, isLg, cmpI, clsE, Option.elim, eq_self, List.mem_cons, List.not_mem_nil, or_false, false_or, List.append_nil, List.nil_append, List.cons_append, List.append_eq, List.replicate, List.length_cons, List.length_nil, List.map_cons, List.map_nil, ↓reduceIte, reduceCtorEq, if_true, if_false, true_and, and_true, false_and, and_false, and_self, not_true_eq_false, not_false_eq_true, forall_const, true_implies, false_implies, implies_true, Nat.reduceAdd, Nat.reduceSub, Nat.reduceLT, Nat.reduceLeDiff, Nat.reduceEqDiff, Nat.reduceMul, Nat.reducePow, Nat.add_one_ne_zero, Nat.add_one_sub_one, Nat.add_zero, Nat.zero_add, Int.reduceLT, Int.reduceLE, Int.reduceNeg, Int.reduceAdd, Int.reduceSub, Int.reduceToNat, Int.reduceEq, Int.reduceMul, Int.reducePow, Int.cast_ofNat_Int, Int.toNat_natCast, ne_eq, Bool.false_eq_true, true_or, or_true, or_self, Nat.not_lt_zero, ite_e0, ite_e1, lc_lt, lc_ge, lc_gt, lc_le, lc_eq, Classical.not_not]
      with_reducible repeat' (first | (refine And.intro ?_ ?_) | intro _)
      all_goals try omega
      refine kc_weight T2.1 W (by omega) ?_
      have ew : iter (wst P (P 2 6 + (i + 1))) (P 2 5).toNat 0 = wtP P (P 2 6 + (i + 1)) := rfl
      rw [ew]
      simp -implicitDefEqProofs only [↓b112_0, ↓b112_11, ↓b112_28, ↓b112_38, ↓b112_44, ↓b112_59, ↓b112_83, ↓b112_93, b112_0, b112_11, b112_28, b112_38, b112_44, b112_59, b112_83, b112_93, nLE2, layE7, layE4, layE3, layE2, e72, n3_43, n3_59, n3_6, n3_60, I32, ↓xb, xb, ps, lpad, lat, aok2, rd2, aaok, aav, alok, alen, aok, akk, csum, isLg, cmpI, clsE, Option.elim, eq_self, List.mem_cons, List.not_mem_nil, or_false, false_or, List.append_nil, List.nil_append, List.cons_append, List.append_eq, List.replicate, List.length_cons, List.length_nil, List.map_cons, List.map_nil, ↓reduceIte, reduceCtorEq, if_true, if_false, true_and, and_true, false_and, and_false, and_self, not_true_eq_false, not_false_eq_true, forall_const, true_implies, false_implies, implies_true, Nat.reduceAdd, Nat.reduceSub, Nat.reduceLT, Nat.reduceLeDiff, Nat.reduceEqDiff, Nat.reduceMul, Nat.reducePow, Nat.add_one_ne_zero, Nat.add_one_sub_one, Nat.add_zero, Nat.zero_add, Int.reduceLT, Int.reduceLE, Int.reduceNeg, Int.reduceAdd, Int.reduceSub, Int.reduceToNat, Int.reduceEq, Int.reduceMul, Int.reducePow, Int.cast_ofNat_Int, Int.toNat_natCast, ne_eq, Bool.false_eq_true, true_or, or_true, or_self, Nat.not_lt_zero, ite_e0, ite_e1, lc_lt, lc_ge, lc_gt, lc_le, lc_eq, Classical.not_not]
      with_reducible repeat' (first | (refine And.intro ?_ ?_) | intro _)
      all_goals try omega
      refine ih σ2 (by omega) (by omega) (by omega) T2 (hU.str hr s2') (R2.weak (fun _ => by decide)) (Nr.kn (fun r c => s2 2 10 (by unfold SP SQ; rw [tr]; simp) r c) kk) (Wr.kn (fun r c => s2 2 14 (by unfold SP SQ; rw [tr]; simp) r c) kk) (hs.trans s2')
    · have ei : i = goP P := by omega
      have zz := q σ' hs
      rw [← ei] at zz
      refine TT_vb ok112 (sm3_ok G w) 60 [38] ?_
      simp -implicitDefEqProofs only [↓b112_0, ↓b112_11, ↓b112_28, ↓b112_38, ↓b112_44, ↓b112_59, ↓b112_83, ↓b112_93, b112_0, b112_11, b112_28, b112_38, b112_44, b112_59, b112_83, b112_93, nLE2, layE7, layE4, layE3, layE2, hk, n3_43, n3_59, n3_6, n3_60, I32, ↓xb, xb, ps, lpad, lat, aok2, rd2, aaok, aav, alok, alen, aok, akk, csum, isLg, cmpI, clsE, Option.elim, eq_self, List.mem_cons, List.not_mem_nil, or_false, false_or, List.append_nil, List.nil_append, List.cons_append, List.append_eq, List.replicate, List.length_cons, List.length_nil, List.map_cons, List.map_nil, ↓reduceIte, reduceCtorEq, if_true, if_false, true_and, and_true, false_and, and_false, and_self, not_true_eq_false, not_false_eq_true, forall_const, true_implies, false_implies, implies_true, Nat.reduceAdd, Nat.reduceSub, Nat.reduceLT, Nat.reduceLeDiff, Nat.reduceEqDiff, Nat.reduceMul, Nat.reducePow, Nat.add_one_ne_zero, Nat.add_one_sub_one, Nat.add_zero, Nat.zero_add, Int.reduceLT, Int.reduceLE, Int.reduceNeg, Int.reduceAdd, Int.reduceSub, Int.reduceToNat, Int.reduceEq, Int.reduceMul, Int.reducePow, Int.cast_ofNat_Int, Int.toNat_natCast, ne_eq, Bool.false_eq_true, true_or, or_true, or_self, Nat.not_lt_zero, ite_e0, ite_e1, lc_lt, lc_ge, lc_gt, lc_le, lc_eq, Classical.not_not]
      with_reducible repeat' (first | (refine And.intro ?_ ?_) | intro _)
      all_goals try omega
      all_goals first | omega | exact zz
set_option maxRecDepth 100000 in
set_option maxHeartbeats 1000000 in
theorem kc_sum (T : TF σ P) (W : WF P) (N : N38 P) (hn6 : P 2 6 ≤ 9999) (hr : 13 ≤ ro ∧ ro ≤ 20) (hU : RuC G w 6 ro U σ) (hk : 30 ≤ k) {qq : Int} (hq : -1 ≤ qq ∧ qq ≤ 99999)
    (q : ∀ σ', same (Str ro) σ σ' → Q (some (vl (sdR U qq P 60))) σ') : CC G w w k (0, 0) 112 [vr 0 0 0, vr ro 0 0, vi qq] σ Q := by
  have g := go_all (P := P) (P 2 5).toNat
  have gP : goP P = iter (est P 60) (P 2 5).toNat 0 := rfl
  have e60 := sd_60 (U := U) (q := qq) W (60 - (goP P).toNat) (by omega)
  rw [show (goP P).toNat + (60 - (goP P).toNat) = 60 by omega] at e60
  refine CC_vb ok112 (by decide) (sm3_ok G w) 60 [38] (Nat.le_of_ble_eq_true rfl) ?_
  simp -implicitDefEqProofs only [↓b112_0, ↓b112_11, ↓b112_28, ↓b112_38, ↓b112_44, ↓b112_59, ↓b112_83, ↓b112_93, b112_0, b112_11, b112_28, b112_38, b112_44, b112_59, b112_83, b112_93, nLE2, layE7, layE4, layE3, layE2, hk, n3_43, n3_59, n3_6, n3_60, I32, ↓xb, xb, ps, lpad, lat, aok2, rd2, aaok, aav, alok, alen, aok, akk, csum, isLg, cmpI, clsE, Option.elim, eq_self, List.mem_cons, List.not_mem_nil, or_false, false_or, List.append_nil, List.nil_append, List.cons_append, List.append_eq, List.replicate, List.length_cons, List.length_nil, List.map_cons, List.map_nil, ↓reduceIte, reduceCtorEq, if_true, if_false, true_and, and_true, false_and, and_false, and_self, not_true_eq_false, not_false_eq_true, forall_const, true_implies, false_implies, implies_true, Nat.reduceAdd, Nat.reduceSub, Nat.reduceLT, Nat.reduceLeDiff, Nat.reduceEqDiff, Nat.reduceMul, Nat.reducePow, Nat.add_one_ne_zero, Nat.add_one_sub_one, Nat.add_zero, Nat.zero_add, Int.reduceLT, Int.reduceLE, Int.reduceNeg, Int.reduceAdd, Int.reduceSub, Int.reduceToNat, Int.reduceEq, Int.reduceMul, Int.reducePow, Int.cast_ofNat_Int, Int.toNat_natCast, ne_eq, Bool.false_eq_true, true_or, or_true, or_self, Nat.not_lt_zero, ite_e0, ite_e1, lc_lt, lc_ge, lc_gt, lc_le, lc_eq, Classical.not_not]
  with_reducible repeat' (first | (refine And.intro ?_ ?_) | intro _)
  all_goals try omega
  refine kc_trial T.1 W T.2.1 T.2.2 (by omega) (fun σ1 R1 W1 N1 s1 => ?_)
  have st1 : same (Str ro) σ (up σ1 2 2 0 0 qq) := (Str_2 (ro := ro) s1).put rfl
  have T1 := T.str hr st1
  simp -implicitDefEqProofs only [↓b112_0, ↓b112_11, ↓b112_28, ↓b112_38, ↓b112_44, ↓b112_59, ↓b112_83, ↓b112_93, b112_0, b112_11, b112_28, b112_38, b112_44, b112_59, b112_83, b112_93, nLE2, layE7, layE4, layE3, layE2, hk, n3_43, n3_59, n3_6, n3_60, I32, ↓xb, xb, ps, lpad, lat, aok2, rd2, aaok, aav, alok, alen, aok, akk, csum, isLg, cmpI, clsE, Option.elim, eq_self, List.mem_cons, List.not_mem_nil, or_false, false_or, List.append_nil, List.nil_append, List.cons_append, List.append_eq, List.replicate, List.length_cons, List.length_nil, List.map_cons, List.map_nil, ↓reduceIte, reduceCtorEq, if_true, if_false, true_and, and_true, false_and, and_false, and_self, not_true_eq_false, not_false_eq_true, forall_const, true_implies, false_implies, implies_true, Nat.reduceAdd, Nat.reduceSub, Nat.reduceLT, Nat.reduceLeDiff, Nat.reduceEqDiff, Nat.reduceMul, Nat.reducePow, Nat.add_one_ne_zero, Nat.add_one_sub_one, Nat.add_zero, Nat.zero_add, Int.reduceLT, Int.reduceLE, Int.reduceNeg, Int.reduceAdd, Int.reduceSub, Int.reduceToNat, Int.reduceEq, Int.reduceMul, Int.reducePow, Int.cast_ofNat_Int, Int.toNat_natCast, ne_eq, Bool.false_eq_true, true_or, or_true, or_self, Nat.not_lt_zero, ite_e0, ite_e1, lc_lt, lc_ge, lc_gt, lc_le, lc_eq, Classical.not_not]
  with_reducible repeat' (first | (refine And.intro ?_ ?_) | intro _)
  all_goals try omega
  refine kc_last (P := P) T1.1 W (by omega) (by omega) ?_
  rw [← gP]
  simp -implicitDefEqProofs only [↓b112_0, ↓b112_11, ↓b112_28, ↓b112_38, ↓b112_44, ↓b112_59, ↓b112_83, ↓b112_93, b112_0, b112_11, b112_28, b112_38, b112_44, b112_59, b112_83, b112_93, nLE2, layE7, layE4, layE3, layE2, hk, n3_43, n3_59, n3_6, n3_60, I32, ↓xb, xb, ps, lpad, lat, aok2, rd2, aaok, aav, alok, alen, aok, akk, csum, isLg, cmpI, clsE, Option.elim, eq_self, List.mem_cons, List.not_mem_nil, or_false, false_or, List.append_nil, List.nil_append, List.cons_append, List.append_eq, List.replicate, List.length_cons, List.length_nil, List.map_cons, List.map_nil, ↓reduceIte, reduceCtorEq, if_true, if_false, true_and, and_true, false_and, and_false, and_self, not_true_eq_false, not_false_eq_true, forall_const, true_implies, false_implies, implies_true, Nat.reduceAdd, Nat.reduceSub, Nat.reduceLT, Nat.reduceLeDiff, Nat.reduceEqDiff, Nat.reduceMul, Nat.reducePow, Nat.add_one_ne_zero, Nat.add_one_sub_one, Nat.add_zero, Nat.zero_add, Int.reduceLT, Int.reduceLE, Int.reduceNeg, Int.reduceAdd, Int.reduceSub, Int.reduceToNat, Int.reduceEq, Int.reduceMul, Int.reducePow, Int.cast_ofNat_Int, Int.toNat_natCast, ne_eq, Bool.false_eq_true, true_or, or_true, or_self, Nat.not_lt_zero, ite_e0, ite_e1, lc_lt, lc_ge, lc_gt, lc_le, lc_eq, Classical.not_not]
  with_reducible repeat' (first | (refine And.intro ?_ ?_) | intro _)
  all_goals try omega
  rw [e60] at q
  refine kc_sum_l (U := U) (P := P) W N hn6 hr (by omega) hU.1.2.1 hq q 61 0 _ (by omega) (by omega) (by omega) T1 (hU.str hr st1) R1.u_said (fun f a b c d => ?_) (fun a b ha hb => ?_) st1
  · rw [upp_nf (by decide)]; exact (NRs.of (P' := pu P 2 7 qq) N1 rfl (fun _ => rfl) (fun _ => rfl)) f a b c d
  · rw [upp_nf (by decide)]; exact (WRs.of (P' := pu P 2 7 qq) W1 rfl (fun _ => rfl) (fun _ => rfl)) a b ha hb
set_option maxRecDepth 100000 in
set_option maxHeartbeats 1000000 in
theorem kc_should_l (W : WF P) (N : N38 P) (hn6 : P 2 6 ≤ 9999) (hr : 13 ≤ ro ∧ ro ≤ 20) (hk : 32 ≤ k) {wh : Int}
    (q : ∀ σ', same (Str ro) σ σ' → Q (some (vl (hpA wh (shR U P (P 2 5).toNat)))) σ') :
    ∀ (m : Nat) (i b v : Int) (σ' : Mem) (l8 l9 l10 : Option AV), 0 ≤ i → i ≤ P 2 5 → P 2 5 < i + m → TF σ' P → RuC G w 6 ro U σ' → (b, v) = shR U P i.toNat → same (Str ro) σ σ' → TT G w w w k (0, 0) 111 33 [some (vr 0 0 0), some (vi r), some (vi wh), some (vr ro 0 0), some (vi b), some (vl v), none, some (vi i), l8, l9, l10] [] σ' Q
  | 0, i, b, v, σ', l8, l9, l10, h0, h1, h2, _, _, _, _ => by omega
  | m + 1, i, b, v, σ', l8, l9, l10, h0, h1, h2, T, hU, hc, hs => by
    have ih := kc_should_l W N hn6 hr hk (wh := wh) q m (i + 1)
    have w1 := W.sc.2.2.2.2.2.1
    have e0 := T.1.ends
    obtain ⟨c1, c0⟩ := sh_st h0 hc
    have br := sh_r (U := U) W i.toNat (by omega)
    rw [← hc] at br
    have br' : b = -2 ∨ (0 ≤ b ∧ b ≤ 99999) := br
    by_cases hi : i < P 2 5
    · have s7 := T.1.end0 (n := i.toNat) (by omega)
      have d := (W.en (n := i.toNat) (by omega)).1
      refine TT_vb ok111 (sm3_ok G w) 60 [33] ?_
      simp -implicitDefEqProofs only [↓b111_0, ↓b111_5, ↓b111_10, ↓b111_16, ↓b111_19, ↓b111_23, ↓b111_33, ↓b111_45, ↓b111_55, ↓b111_66, ↓b111_75, ↓b111_83, ↓b111_91, ↓b111_98, ↓b111_106, ↓b111_112, ↓b111_119, ↓b111_123, ↓b111_129, ↓b111_131, b111_0, b111_5, b111_10, b111_16, b111_19, b111_23, b111_33, b111_45, b111_55, b111_66, b111_75, b111_83, b111_91, b111_98, b111_106, b111_112, b111_119, b111_123, b111_129, b111_131, nLE2, layE7, layE4, layE3, layE2, e0, s7, n3_92, k3_76, r76, n3_112, I32, ↓xb, xb, ps, lpad, lat, aok2, rd2, aaok, aav, alok, alen, aok, akk, csum, isLg, cmpI, clsE, Option.elim, eq_self, List.mem_cons, List.not_mem_nil, or_false, false_or, List.append_nil, List.nil_append, List.cons_append, List.append_eq, List.replicate, List.length_cons, List.length_nil, List.map_cons, List.map_nil, ↓reduceIte, reduceCtorEq, if_true, if_false, true_and, and_true, false_and, and_false, and_self, not_true_eq_false, not_false_eq_true, forall_const, true_implies, false_implies, implies_true, Nat.reduceAdd, Nat.reduceSub, Nat.reduceLT, Nat.reduceLeDiff, Nat.reduceEqDiff, Nat.reduceMul, Nat.reducePow, Nat.add_one_ne_zero, Nat.add_one_sub_one, Nat.add_zero, Nat.zero_add, Int.reduceLT, Int.reduceLE, Int.reduceNeg, Int.reduceAdd, Int.reduceSub, Int.reduceToNat, Int.reduceEq, Int.reduceMul, Int.reducePow, Int.cast_ofNat_Int, Int.toNat_natCast, ne_eq, Bool.false_eq_true, true_or, or_true, or_self, Nat.not_lt_zero, ite_e0, ite_e1, lc_lt, lc_ge, lc_gt, lc_le, lc_eq, Classical.not_not]
      with_reducible repeat' (first | (refine And.intro ?_ ?_) | intro _)
      all_goals try omega
      refine kc_sum T W N hn6 hr hU (by omega) (by omega) (fun σ2 s2 => ?_)
      rcases br' with hb2 | hb2
      · have hb2' := eq_true hb2
        simp -implicitDefEqProofs only [↓b111_0, ↓b111_5, ↓b111_10, ↓b111_16, ↓b111_19, ↓b111_23, ↓b111_33, ↓b111_45, ↓b111_55, ↓b111_66, ↓b111_75, ↓b111_83, ↓b111_91, ↓b111_98, ↓b111_106, ↓b111_112, ↓b111_119, ↓b111_123, ↓b111_129, ↓b111_131, b111_0, b111_5, b111_10, b111_16, b111_19, b111_23, b111_33, b111_45, b111_55, b111_66, b111_75, b111_83, b111_91, b111_98, b111_106, b111_112, b111_119, b111_123, b111_129, b111_131, nLE2, layE7, layE4, layE3, layE2, hb2', n3_92, k3_76, r76, n3_112, I32, ↓xb, xb, ps, lpad, lat, aok2, rd2, aaok, aav, alok, alen, aok, akk, csum, isLg, cmpI, clsE, Option.elim, eq_self, List.mem_cons, List.not_mem_nil, or_false, false_or, List.append_nil, List.nil_append, List.cons_append, List.append_eq, List.replicate, List.length_cons, List.length_nil, List.map_cons, List.map_nil, ↓reduceIte, reduceCtorEq, if_true, if_false, true_and, and_true, false_and, and_false, and_self, not_true_eq_false, not_false_eq_true, forall_const, true_implies, false_implies, implies_true, Nat.reduceAdd, Nat.reduceSub, Nat.reduceLT, Nat.reduceLeDiff, Nat.reduceEqDiff, Nat.reduceMul, Nat.reducePow, Nat.add_one_ne_zero, Nat.add_one_sub_one, Nat.add_zero, Nat.zero_add, Int.reduceLT, Int.reduceLE, Int.reduceNeg, Int.reduceAdd, Int.reduceSub, Int.reduceToNat, Int.reduceEq, Int.reduceMul, Int.reducePow, Int.cast_ofNat_Int, Int.toNat_natCast, ne_eq, Bool.false_eq_true, true_or, or_true, or_self, Nat.not_lt_zero, ite_e0, ite_e1, lc_lt, lc_ge, lc_gt, lc_le, lc_eq, Classical.not_not]
        with_reducible repeat' (first | (refine And.intro ?_ ?_) | intro _)
        all_goals try omega
        exact ih _ _ σ2 _ _ _ (by omega) (by omega) (by omega) (T.str hr s2) (hU.str hr s2) (c1 (Or.inl hb2)) (hs.trans s2)
      · have hb2' : ¬ b = -2 := by omega
        simp -implicitDefEqProofs only [↓b111_0, ↓b111_5, ↓b111_10, ↓b111_16, ↓b111_19, ↓b111_23, ↓b111_33, ↓b111_45, ↓b111_55, ↓b111_66, ↓b111_75, ↓b111_83, ↓b111_91, ↓b111_98, ↓b111_106, ↓b111_112, ↓b111_119, ↓b111_123, ↓b111_129, ↓b111_131, b111_0, b111_5, b111_10, b111_16, b111_19, b111_23, b111_33, b111_45, b111_55, b111_66, b111_75, b111_83, b111_91, b111_98, b111_106, b111_112, b111_119, b111_123, b111_129, b111_131, nLE2, layE7, layE4, layE3, layE2, hb2', n3_92, k3_76, r76, n3_112, I32, ↓xb, xb, ps, lpad, lat, aok2, rd2, aaok, aav, alok, alen, aok, akk, csum, isLg, cmpI, clsE, Option.elim, eq_self, List.mem_cons, List.not_mem_nil, or_false, false_or, List.append_nil, List.nil_append, List.cons_append, List.append_eq, List.replicate, List.length_cons, List.length_nil, List.map_cons, List.map_nil, ↓reduceIte, reduceCtorEq, if_true, if_false, true_and, and_true, false_and, and_false, and_self, not_true_eq_false, not_false_eq_true, forall_const, true_implies, false_implies, implies_true, Nat.reduceAdd, Nat.reduceSub, Nat.reduceLT, Nat.reduceLeDiff, Nat.reduceEqDiff, Nat.reduceMul, Nat.reducePow, Nat.add_one_ne_zero, Nat.add_one_sub_one, Nat.add_zero, Nat.zero_add, Int.reduceLT, Int.reduceLE, Int.reduceNeg, Int.reduceAdd, Int.reduceSub, Int.reduceToNat, Int.reduceEq, Int.reduceMul, Int.reducePow, Int.cast_ofNat_Int, Int.toNat_natCast, ne_eq, Bool.false_eq_true, true_or, or_true, or_self, Nat.not_lt_zero, ite_e0, ite_e1, lc_lt, lc_ge, lc_gt, lc_le, lc_eq, Classical.not_not]
        with_reducible repeat' (first | (refine And.intro ?_ ?_) | intro _)
        all_goals try omega
        all_goals first | exact ih _ _ σ2 _ _ _ (by omega) (by omega) (by omega) (T.str hr s2) (hU.str hr s2) (c1 (by omega)) (hs.trans s2) | exact ih _ _ σ2 _ _ _ (by omega) (by omega) (by omega) (T.str hr s2) (hU.str hr s2) (c0 (by omega)) (hs.trans s2)
    · have ei : i = P 2 5 := by omega
      have z := q σ' hs
      rw [← ei, ← hc] at z
      refine TT_vb ok111 (sm3_ok G w) 60 [33] ?_
      simp -implicitDefEqProofs only [↓b111_0, ↓b111_5, ↓b111_10, ↓b111_16, ↓b111_19, ↓b111_23, ↓b111_33, ↓b111_45, ↓b111_55, ↓b111_66, ↓b111_75, ↓b111_83, ↓b111_91, ↓b111_98, ↓b111_106, ↓b111_112, ↓b111_119, ↓b111_123, ↓b111_129, ↓b111_131, b111_0, b111_5, b111_10, b111_16, b111_19, b111_23, b111_33, b111_45, b111_55, b111_66, b111_75, b111_83, b111_91, b111_98, b111_106, b111_112, b111_119, b111_123, b111_129, b111_131, nLE2, layE7, layE4, layE3, layE2, e0, n3_92, k3_76, r76, n3_112, I32, ↓xb, xb, ps, lpad, lat, aok2, rd2, aaok, aav, alok, alen, aok, akk, csum, isLg, cmpI, clsE, Option.elim, eq_self, List.mem_cons, List.not_mem_nil, or_false, false_or, List.append_nil, List.nil_append, List.cons_append, List.append_eq, List.replicate, List.length_cons, List.length_nil, List.map_cons, List.map_nil, ↓reduceIte, reduceCtorEq, if_true, if_false, true_and, and_true, false_and, and_false, and_self, not_true_eq_false, not_false_eq_true, forall_const, true_implies, false_implies, implies_true, Nat.reduceAdd, Nat.reduceSub, Nat.reduceLT, Nat.reduceLeDiff, Nat.reduceEqDiff, Nat.reduceMul, Nat.reducePow, Nat.add_one_ne_zero, Nat.add_one_sub_one, Nat.add_zero, Nat.zero_add, Int.reduceLT, Int.reduceLE, Int.reduceNeg, Int.reduceAdd, Int.reduceSub, Int.reduceToNat, Int.reduceEq, Int.reduceMul, Int.reducePow, Int.cast_ofNat_Int, Int.toNat_natCast, ne_eq, Bool.false_eq_true, true_or, or_true, or_self, Nat.not_lt_zero, ite_e0, ite_e1, lc_lt, lc_ge, lc_gt, lc_le, lc_eq, Classical.not_not]
      with_reducible repeat' (first | (refine And.intro ?_ ?_) | intro _)
      all_goals try omega
      all_goals first | (rw [hpA_0 (by omega)] at z; exact z) | (rw [hpA_1 (by omega)] at z; exact z)
set_option maxRecDepth 100000 in
set_option maxHeartbeats 1000000 in
theorem kc_should (T : TF σ P) (W : WF P) (N : N38 P) (hn6 : P 2 6 ≤ 9999) {nr : Int} (L : RLs w σ nr) {u : Nat → RU} (hU : RUs G w nr u σ) (hk : 34 ≤ k) {wh : Int}
    (q0 : ¬ ((0 ≤ r ∧ r < nr) ∧ (0 ≤ wh ∧ wh ≤ 1)) → Q (some (vl (-1))) σ)
    (q1 : (0 ≤ r ∧ r < nr) ∧ (0 ≤ wh ∧ wh ≤ 1) → ∀ σ', same (Str (13 + r.toNat)) σ σ' → Q (some (vl (hpA wh (shR (u r.toNat) P (P 2 5).toNat)))) σ') : CC G w w k (0, 0) 111 [vr 0 0 0, vi r, vi wh] σ Q := by
  have hL := L.2.1
  have w1 := W.sc.2.2.2.2.2.1
  refine CC_vb ok111 (by decide) (sm3_ok G w) 60 [33] (Nat.le_of_ble_eq_true rfl) ?_
  simp -implicitDefEqProofs only [↓b111_0, ↓b111_5, ↓b111_10, ↓b111_16, ↓b111_19, ↓b111_23, ↓b111_33, ↓b111_45, ↓b111_55, ↓b111_66, ↓b111_75, ↓b111_83, ↓b111_91, ↓b111_98, ↓b111_106, ↓b111_112, ↓b111_119, ↓b111_123, ↓b111_129, ↓b111_131, b111_0, b111_5, b111_10, b111_16, b111_19, b111_23, b111_33, b111_45, b111_55, b111_66, b111_75, b111_83, b111_91, b111_98, b111_106, b111_112, b111_119, b111_123, b111_129, b111_131, nLE2, layE7, layE4, layE3, layE2, hk, n3_92, k3_76, r76, n3_112, I32, ↓xb, xb, ps, lpad, lat, aok2, rd2, aaok, aav, alok, alen, aok, akk, csum, isLg, cmpI, clsE, Option.elim, eq_self, List.mem_cons, List.not_mem_nil, or_false, false_or, List.append_nil, List.nil_append, List.cons_append, List.append_eq, List.replicate, List.length_cons, List.length_nil, List.map_cons, List.map_nil, ↓reduceIte, reduceCtorEq, if_true, if_false, true_and, and_true, false_and, and_false, and_self, not_true_eq_false, not_false_eq_true, forall_const, true_implies, false_implies, implies_true, Nat.reduceAdd, Nat.reduceSub, Nat.reduceLT, Nat.reduceLeDiff, Nat.reduceEqDiff, Nat.reduceMul, Nat.reducePow, Nat.add_one_ne_zero, Nat.add_one_sub_one, Nat.add_zero, Nat.zero_add, Int.reduceLT, Int.reduceLE, Int.reduceNeg, Int.reduceAdd, Int.reduceSub, Int.reduceToNat, Int.reduceEq, Int.reduceMul, Int.reducePow, Int.cast_ofNat_Int, Int.toNat_natCast, ne_eq, Bool.false_eq_true, true_or, or_true, or_self, Nat.not_lt_zero, ite_e0, ite_e1, lc_lt, lc_ge, lc_gt, lc_le, lc_eq, Classical.not_not]
  with_reducible repeat' (first | (refine And.intro ?_ ?_) | intro _)
  all_goals try omega
  refine kc_ruleOf L (by omega) (fun h => ?_) (fun h => ?_)
  · simp -implicitDefEqProofs only [↓b111_0, ↓b111_5, ↓b111_10, ↓b111_16, ↓b111_19, ↓b111_23, ↓b111_33, ↓b111_45, ↓b111_55, ↓b111_66, ↓b111_75, ↓b111_83, ↓b111_91, ↓b111_98, ↓b111_106, ↓b111_112, ↓b111_119, ↓b111_123, ↓b111_129, ↓b111_131, b111_0, b111_5, b111_10, b111_16, b111_19, b111_23, b111_33, b111_45, b111_55, b111_66, b111_75, b111_83, b111_91, b111_98, b111_106, b111_112, b111_119, b111_123, b111_129, b111_131, nLE2, layE7, layE4, layE3, layE2, hk, n3_92, k3_76, r76, n3_112, I32, ↓xb, xb, ps, lpad, lat, aok2, rd2, aaok, aav, alok, alen, aok, akk, csum, isLg, cmpI, clsE, Option.elim, eq_self, List.mem_cons, List.not_mem_nil, or_false, false_or, List.append_nil, List.nil_append, List.cons_append, List.append_eq, List.replicate, List.length_cons, List.length_nil, List.map_cons, List.map_nil, ↓reduceIte, reduceCtorEq, if_true, if_false, true_and, and_true, false_and, and_false, and_self, not_true_eq_false, not_false_eq_true, forall_const, true_implies, false_implies, implies_true, Nat.reduceAdd, Nat.reduceSub, Nat.reduceLT, Nat.reduceLeDiff, Nat.reduceEqDiff, Nat.reduceMul, Nat.reducePow, Nat.add_one_ne_zero, Nat.add_one_sub_one, Nat.add_zero, Nat.zero_add, Int.reduceLT, Int.reduceLE, Int.reduceNeg, Int.reduceAdd, Int.reduceSub, Int.reduceToNat, Int.reduceEq, Int.reduceMul, Int.reducePow, Int.cast_ofNat_Int, Int.toNat_natCast, ne_eq, Bool.false_eq_true, true_or, or_true, or_self, Nat.not_lt_zero, ite_e0, ite_e1, lc_lt, lc_ge, lc_gt, lc_le, lc_eq, Classical.not_not]
    with_reducible repeat' (first | (refine And.intro ?_ ?_) | intro _)
    all_goals try omega
    exact q0 (fun z => h z.1)
  · simp -implicitDefEqProofs only [↓b111_0, ↓b111_5, ↓b111_10, ↓b111_16, ↓b111_19, ↓b111_23, ↓b111_33, ↓b111_45, ↓b111_55, ↓b111_66, ↓b111_75, ↓b111_83, ↓b111_91, ↓b111_98, ↓b111_106, ↓b111_112, ↓b111_119, ↓b111_123, ↓b111_129, ↓b111_131, b111_0, b111_5, b111_10, b111_16, b111_19, b111_23, b111_33, b111_45, b111_55, b111_66, b111_75, b111_83, b111_91, b111_98, b111_106, b111_112, b111_119, b111_123, b111_129, b111_131, nLE2, layE7, layE4, layE3, layE2, hk, n3_92, k3_76, r76, n3_112, I32, ↓xb, xb, ps, lpad, lat, aok2, rd2, aaok, aav, alok, alen, aok, akk, csum, isLg, cmpI, clsE, Option.elim, eq_self, List.mem_cons, List.not_mem_nil, or_false, false_or, List.append_nil, List.nil_append, List.cons_append, List.append_eq, List.replicate, List.length_cons, List.length_nil, List.map_cons, List.map_nil, ↓reduceIte, reduceCtorEq, if_true, if_false, true_and, and_true, false_and, and_false, and_self, not_true_eq_false, not_false_eq_true, forall_const, true_implies, false_implies, implies_true, Nat.reduceAdd, Nat.reduceSub, Nat.reduceLT, Nat.reduceLeDiff, Nat.reduceEqDiff, Nat.reduceMul, Nat.reducePow, Nat.add_one_ne_zero, Nat.add_one_sub_one, Nat.add_zero, Nat.zero_add, Int.reduceLT, Int.reduceLE, Int.reduceNeg, Int.reduceAdd, Int.reduceSub, Int.reduceToNat, Int.reduceEq, Int.reduceMul, Int.reducePow, Int.cast_ofNat_Int, Int.toNat_natCast, ne_eq, Bool.false_eq_true, true_or, or_true, or_self, Nat.not_lt_zero, ite_e0, ite_e1, lc_lt, lc_ge, lc_gt, lc_le, lc_eq, Classical.not_not]
    with_reducible repeat' (first | (refine And.intro ?_ ?_) | intro _)
    all_goals try omega
    all_goals first | omega | exact q0 (fun z => by omega) | skip
    exact kc_should_l (U := u r.toNat) W N hn6 (by omega) (by omega) (q1 ⟨h, by omega⟩) 7 0 (-2) 0 σ _ _ _ (by omega) (by omega) (by omega) T (hU r.toNat (by omega)) rfl same.refl
/-- the check's inner round -/
def siS (P : Pt) (s H : Int) (e : Nat) (c : Int) : Int := w64 (c + if P 32 e = s then w64 (P 33 e * H) else 0)
theorem si_eq {P : Pt} {s H c : Int} (hc : w64 c = c) : ∀ n : Nat, iter (siS P s H) n c = w64 (c + w64 (H * iter (wst P s) n 0))
  | 0 => by
    show c = w64 (c + w64 (H * 0))
    rw [Int.mul_zero, show w64 0 = 0 by decide, Int.add_zero, hc]
  | n + 1 => by
    have ih := si_eq (P := P) (s := s) (H := H) hc n
    show siS P s H n (iter (siS P s H) n c) = w64 (c + w64 (H * wst P s n (iter (wst P s) n 0)))
    rw [ih]
    generalize iter (wst P s) n 0 = x
    unfold siS wst
    split
    · rw [w64_mul, Int.mul_add, Int.mul_comm (P 33 n) H]
      generalize H * x = a
      generalize H * P 33 n = b
      unfold w64; omega
    · rw [Int.add_zero, w64_w64]
set_option maxRecDepth 100000 in
set_option maxHeartbeats 1000000 in
theorem kx_sum_i (W : WF P) (hk : 10 ≤ k) {P2 : Pt} (k2 : WF P2) (e5 : P2 2 5 = P 2 5) (e32 : ∀ j, P2 32 j = P 32 j) (e33 : ∀ j, P2 33 j = P 33 j) {qq was fr i c0 : Int} (hf : 0 ≤ fr ∧ fr ≤ 9999) (hi0 : 0 ≤ i ∧ i ≤ 60)
    (q : ∀ (l9 : Option AV), TT G w w w k (0, 0) 218 104 [some (vr 21 0 0), some (vi r), some (vi qq), some (vi fr), some (vl was), none, some (vl (iter (siS P (fr + i) (w64 (ahP P2 - was))) (P 2 5).toNat c0)), none, some (vi i), l9] [] σ Q) (M : MR σ P2) :
    ∀ (m : Nat) (e c : Int), 0 ≤ e → e ≤ P 2 5 → P 2 5 < e + m → c = iter (siS P (fr + i) (w64 (ahP P2 - was))) e.toNat c0 → TT G w w w k (0, 0) 218 48 [some (vr 21 0 0), some (vi r), some (vi qq), some (vi fr), some (vl was), none, some (vl c), none, some (vi i), some (vi e)] [] σ Q
  | 0, e, c, h0, h1, h2, _ => by omega
  | m + 1, e, c, h0, h1, h2, hc => by
    have ih := kx_sum_i W hk k2 e5 e32 e33 hf hi0 q M m (e + 1)
    have w5 := W.sc.2.2.2.2.2.1
    have stp : iter (siS P (fr + i) (w64 (ahP P2 - was))) (e + 1).toNat c0 = siS P (fr + i) (w64 (ahP P2 - was)) e.toNat c := by rw [hc]; exact iter_toNat _ h0 _
    rw [stp] at ih
    have g5 : σ 21 2 0 5 = P 2 5 := (M 2 5 (by decide) (by decide)).trans e5
    have g32 : ∀ j, σ 21 32 0 j = P 32 j := fun j => (M 32 j (by decide) (by decide)).trans (e32 j)
    have g33 : ∀ j, σ 21 33 0 j = P 33 j := fun j => (M 33 j (by decide) (by decide)).trans (e33 j)
    by_cases he : e < P 2 5
    · by_cases hb : P 32 e.toNat = fr + i
      · have es : siS P (fr + i) (w64 (ahP P2 - was)) e.toNat c = w64 (c + w64 (P 33 e.toNat * w64 (ahP P2 - was))) := by unfold siS; rw [if_pos hb]
        rw [es] at ih
        refine TT_vb ok218 (sm3_ok G w) 60 [48, 104] ?_
        simp -implicitDefEqProofs only [↓b218_0, ↓b218_4, ↓b218_24, ↓b218_32, ↓b218_39, ↓b218_45, ↓b218_48, ↓b218_59, ↓b218_75, ↓b218_87, ↓b218_94, ↓b218_95, ↓b218_104, ↓b218_110, ↓b218_114, b218_0, b218_4, b218_24, b218_32, b218_39, b218_45, b218_48, b218_59, b218_75, b218_87, b218_94, b218_95, b218_104, b218_110, b218_114, nLE4, layE8, g5, g32, g33, hb, n3_203, n3_193, n3_192, n3_204, I32, ↓xb, xb, ps, lpad, lat, aok2, rd2, aaok, aav, alok, alen, aok, akk, csum, isLg, cmpI, clsE, Option.elim, eq_self, List.mem_cons, List.not_mem_nil, or_false, false_or, List.append_nil, List.nil_append, List.cons_append, List.append_eq, List.replicate, List.length_cons, List.length_nil, List.map_cons, List.map_nil, ↓reduceIte, reduceCtorEq, if_true, if_false, true_and, and_true, false_and, and_false, and_self, not_true_eq_false, not_false_eq_true, forall_const, true_implies, false_implies, implies_true, Nat.reduceAdd, Nat.reduceSub, Nat.reduceLT, Nat.reduceLeDiff, Nat.reduceEqDiff, Nat.reduceMul, Nat.reducePow, Nat.add_one_ne_zero, Nat.add_one_sub_one, Nat.add_zero, Nat.zero_add, Int.reduceLT, Int.reduceLE, Int.reduceNeg, Int.reduceAdd, Int.reduceSub, Int.reduceToNat, Int.reduceEq, Int.reduceMul, Int.reducePow, Int.cast_ofNat_Int, Int.toNat_natCast, ne_eq, Bool.false_eq_true, true_or, or_true, or_self, Nat.not_lt_zero, ite_e0, ite_e1, lc_lt, lc_ge, lc_gt, lc_le, lc_eq, Classical.not_not]
        with_reducible repeat' (first | (refine And.intro ?_ ?_) | intro _)
        all_goals try omega
        refine kx_all M k2 (by omega) ?_
        simp -implicitDefEqProofs only [↓b218_0, ↓b218_4, ↓b218_24, ↓b218_32, ↓b218_39, ↓b218_45, ↓b218_48, ↓b218_59, ↓b218_75, ↓b218_87, ↓b218_94, ↓b218_95, ↓b218_104, ↓b218_110, ↓b218_114, b218_0, b218_4, b218_24, b218_32, b218_39, b218_45, b218_48, b218_59, b218_75, b218_87, b218_94, b218_95, b218_104, b218_110, b218_114, nLE4, layE8, g5, n3_203, n3_193, n3_192, n3_204, I32, ↓xb, xb, ps, lpad, lat, aok2, rd2, aaok, aav, alok, alen, aok, akk, csum, isLg, cmpI, clsE, Option.elim, eq_self, List.mem_cons, List.not_mem_nil, or_false, false_or, List.append_nil, List.nil_append, List.cons_append, List.append_eq, List.replicate, List.length_cons, List.length_nil, List.map_cons, List.map_nil, ↓reduceIte, reduceCtorEq, if_true, if_false, true_and, and_true, false_and, and_false, and_self, not_true_eq_false, not_false_eq_true, forall_const, true_implies, false_implies, implies_true, Nat.reduceAdd, Nat.reduceSub, Nat.reduceLT, Nat.reduceLeDiff, Nat.reduceEqDiff, Nat.reduceMul, Nat.reducePow, Nat.add_one_ne_zero, Nat.add_one_sub_one, Nat.add_zero, Nat.zero_add, Int.reduceLT, Int.reduceLE, Int.reduceNeg, Int.reduceAdd, Int.reduceSub, Int.reduceToNat, Int.reduceEq, Int.reduceMul, Int.reducePow, Int.cast_ofNat_Int, Int.toNat_natCast, ne_eq, Bool.false_eq_true, true_or, or_true, or_self, Nat.not_lt_zero, ite_e0, ite_e1, lc_lt, lc_ge, lc_gt, lc_le, lc_eq, Classical.not_not]
        with_reducible repeat' (first | (refine And.intro ?_ ?_) | intro _)
        all_goals try omega
        exact ih _ (by omega) (by omega) (by omega) rfl
      · have es : siS P (fr + i) (w64 (ahP P2 - was)) e.toNat c = w64 (c + 0) := by unfold siS; rw [if_neg hb]
        rw [es] at ih
        refine TT_vb ok218 (sm3_ok G w) 60 [48, 104] ?_
        simp -implicitDefEqProofs only [↓b218_0, ↓b218_4, ↓b218_24, ↓b218_32, ↓b218_39, ↓b218_45, ↓b218_48, ↓b218_59, ↓b218_75, ↓b218_87, ↓b218_94, ↓b218_95, ↓b218_104, ↓b218_110, ↓b218_114, b218_0, b218_4, b218_24, b218_32, b218_39, b218_45, b218_48, b218_59, b218_75, b218_87, b218_94, b218_95, b218_104, b218_110, b218_114, nLE4, layE8, g5, g32, g33, hb, n3_203, n3_193, n3_192, n3_204, I32, ↓xb, xb, ps, lpad, lat, aok2, rd2, aaok, aav, alok, alen, aok, akk, csum, isLg, cmpI, clsE, Option.elim, eq_self, List.mem_cons, List.not_mem_nil, or_false, false_or, List.append_nil, List.nil_append, List.cons_append, List.append_eq, List.replicate, List.length_cons, List.length_nil, List.map_cons, List.map_nil, ↓reduceIte, reduceCtorEq, if_true, if_false, true_and, and_true, false_and, and_false, and_self, not_true_eq_false, not_false_eq_true, forall_const, true_implies, false_implies, implies_true, Nat.reduceAdd, Nat.reduceSub, Nat.reduceLT, Nat.reduceLeDiff, Nat.reduceEqDiff, Nat.reduceMul, Nat.reducePow, Nat.add_one_ne_zero, Nat.add_one_sub_one, Nat.add_zero, Nat.zero_add, Int.reduceLT, Int.reduceLE, Int.reduceNeg, Int.reduceAdd, Int.reduceSub, Int.reduceToNat, Int.reduceEq, Int.reduceMul, Int.reducePow, Int.cast_ofNat_Int, Int.toNat_natCast, ne_eq, Bool.false_eq_true, true_or, or_true, or_self, Nat.not_lt_zero, ite_e0, ite_e1, lc_lt, lc_ge, lc_gt, lc_le, lc_eq, Classical.not_not]
        with_reducible repeat' (first | (refine And.intro ?_ ?_) | intro _)
        all_goals try omega
        exact ih _ (by omega) (by omega) (by omega) rfl
    · have ei : e = P 2 5 := by omega
      have z := q (some (vi e))
      rw [← ei, ← hc] at z
      refine TT_vb ok218 (sm3_ok G w) 60 [48, 104] ?_
      simp -implicitDefEqProofs only [↓b218_0, ↓b218_4, ↓b218_24, ↓b218_32, ↓b218_39, ↓b218_45, ↓b218_48, ↓b218_59, ↓b218_75, ↓b218_87, ↓b218_94, ↓b218_95, ↓b218_104, ↓b218_110, ↓b218_114, b218_0, b218_4, b218_24, b218_32, b218_39, b218_45, b218_48, b218_59, b218_75, b218_87, b218_94, b218_95, b218_104, b218_110, b218_114, nLE4, layE8, g5, n3_203, n3_193, n3_192, n3_204, I32, ↓xb, xb, ps, lpad, lat, aok2, rd2, aaok, aav, alok, alen, aok, akk, csum, isLg, cmpI, clsE, Option.elim, eq_self, List.mem_cons, List.not_mem_nil, or_false, false_or, List.append_nil, List.nil_append, List.cons_append, List.append_eq, List.replicate, List.length_cons, List.length_nil, List.map_cons, List.map_nil, ↓reduceIte, reduceCtorEq, if_true, if_false, true_and, and_true, false_and, and_false, and_self, not_true_eq_false, not_false_eq_true, forall_const, true_implies, false_implies, implies_true, Nat.reduceAdd, Nat.reduceSub, Nat.reduceLT, Nat.reduceLeDiff, Nat.reduceEqDiff, Nat.reduceMul, Nat.reducePow, Nat.add_one_ne_zero, Nat.add_one_sub_one, Nat.add_zero, Nat.zero_add, Int.reduceLT, Int.reduceLE, Int.reduceNeg, Int.reduceAdd, Int.reduceSub, Int.reduceToNat, Int.reduceEq, Int.reduceMul, Int.reducePow, Int.cast_ofNat_Int, Int.toNat_natCast, ne_eq, Bool.false_eq_true, true_or, or_true, or_self, Nat.not_lt_zero, ite_e0, ite_e1, lc_lt, lc_ge, lc_gt, lc_le, lc_eq, Classical.not_not]
      with_reducible repeat' (first | (refine And.intro ?_ ?_) | intro _)
      all_goals try omega
      all_goals exact z
set_option maxRecDepth 100000 in
set_option maxHeartbeats 1000000 in
theorem kx_sum_l (W : WF P) (N : N38 P) (hn6 : P 2 6 ≤ 9999) (hk : 30 ≤ k) (hU2 : 0 ≤ U.2) {qq : Int} (hq : -1 ≤ qq ∧ qq ≤ 99999)
    (q : ∀ (σ' : Mem) (l8 l9 : Option AV), MR σ' (rnP U 0 60 (pu P 2 7 qq)).1 → same SX σ σ' → TT G w w w k (0, 0) 218 110 [some (vr 21 0 0), some (vi r), some (vi qq), some (vi (P 2 6)), some (vl (ahP (pu P 2 7 qq))), none, some (vl (sdR U qq P 60)), none, l8, l9] [] σ' Q) :
    ∀ (m : Nat) (i : Int) (σ' : Mem) (l9 : Option AV), 0 ≤ i → i + m = 60 → RuX G w 6 r U σ' → MR σ' (rnP U 0 i.toNat (pu P 2 7 qq)).1 → same SX σ σ' → TT G w w w k (0, 0) 218 32 [some (vr 21 0 0), some (vi r), some (vi qq), some (vi (P 2 6)), some (vl (ahP (pu P 2 7 qq))), none, some (vl (sdR U qq P i.toNat)), none, some (vi (i + 1)), l9] [] σ' Q
  | 0, i, σ', l9, h0, h1, hX, M, hs => by
    have ei : i.toNat = 60 := by omega
    rw [ei] at M ⊢
    refine TT_vb ok218 (sm3_ok G w) 60 [32, 110] ?_
    simp -implicitDefEqProofs only [↓b218_0, ↓b218_4, ↓b218_24, ↓b218_32, ↓b218_39, ↓b218_45, ↓b218_48, ↓b218_59, ↓b218_75, ↓b218_87, ↓b218_94, ↓b218_95, ↓b218_104, ↓b218_110, ↓b218_114, b218_0, b218_4, b218_24, b218_32, b218_39, b218_45, b218_48, b218_59, b218_75, b218_87, b218_94, b218_95, b218_104, b218_110, b218_114, nLE4, layE8, h0, n3_203, n3_193, n3_192, n3_204, I32, ↓xb, xb, ps, lpad, lat, aok2, rd2, aaok, aav, alok, alen, aok, akk, csum, isLg, cmpI, clsE, Option.elim, eq_self, List.mem_cons, List.not_mem_nil, or_false, false_or, List.append_nil, List.nil_append, List.cons_append, List.append_eq, List.replicate, List.length_cons, List.length_nil, List.map_cons, List.map_nil, ↓reduceIte, reduceCtorEq, if_true, if_false, true_and, and_true, false_and, and_false, and_self, not_true_eq_false, not_false_eq_true, forall_const, true_implies, false_implies, implies_true, Nat.reduceAdd, Nat.reduceSub, Nat.reduceLT, Nat.reduceLeDiff, Nat.reduceEqDiff, Nat.reduceMul, Nat.reducePow, Nat.add_one_ne_zero, Nat.add_one_sub_one, Nat.add_zero, Nat.zero_add, Int.reduceLT, Int.reduceLE, Int.reduceNeg, Int.reduceAdd, Int.reduceSub, Int.reduceToNat, Int.reduceEq, Int.reduceMul, Int.reducePow, Int.cast_ofNat_Int, Int.toNat_natCast, ne_eq, Bool.false_eq_true, true_or, or_true, or_self, Nat.not_lt_zero, ite_e0, ite_e1, lc_lt, lc_ge, lc_gt, lc_le, lc_eq, Classical.not_not]
    with_reducible repeat' (first | (refine And.intro ?_ ?_) | intro _)
    all_goals try omega
    all_goals exact q σ' _ _ M hs
  | m + 1, i, σ', l9, h0, h1, hX, M, hs => by
    have ih := kx_sum_l W N hn6 hk hU2 hq q m (i + 1)
    have st : (rnP U 0 (i + 1).toNat (pu P 2 7 qq)).1 = quP U 0 (rnP U 0 i.toNat (pu P 2 7 qq)).1 := by
      rw [show (i + 1).toNat = i.toNat + 1 by omega]; rfl
    have W1 := W.said hq
    have N1 : N38 (pu P 2 7 qq) := N.keep (by decide)
    have z := rn_k (kd := 0) W1 N1 hU2 i.toNat
    have z' := rn_k (kd := 0) W1 N1 hU2 (i + 1).toNat
    have dd := rn_d (kd := 0) W1 N1 hU2 (i + 1).toNat
    have w6 := W.sc.2.2.2.2.2.2.1
    have sd : sdR U qq P (i + 1).toNat = w64 (sdR U qq P i.toNat + w64 ((rnP U 0 (i + 1).toNat (pu P 2 7 qq)).2 * wtP P (P 2 6 + (i + 1)))) := by
      rw [show (i + 1).toNat = i.toNat + 1 by omega]
      show sdS U (pu P 2 7 qq) P i.toNat (sdR U qq P i.toNat) = _
      unfold sdS
      rw [show ((i.toNat + 1 : Nat) : Int) = i + 1 by omega]
    have se := si_eq (P := P) (s := P 2 6 + (i + 1)) (H := (rnP U 0 (i + 1).toNat (pu P 2 7 qq)).2) (sd_w (U := U) (q := qq) (P := P) i.toNat) (P 2 5).toNat
    have ew : iter (wst P (P 2 6 + (i + 1))) (P 2 5).toNat 0 = wtP P (P 2 6 + (i + 1)) := rfl
    rw [ew, ← sd, ← dd] at se
    have w5 := W.sc.2.2.2.2.2.1
    refine TT_vb ok218 (sm3_ok G w) 60 [32, 48, 110] ?_
    simp -implicitDefEqProofs only [↓b218_0, ↓b218_4, ↓b218_24, ↓b218_32, ↓b218_39, ↓b218_45, ↓b218_48, ↓b218_59, ↓b218_75, ↓b218_87, ↓b218_94, ↓b218_95, ↓b218_104, ↓b218_110, ↓b218_114, b218_0, b218_4, b218_24, b218_32, b218_39, b218_45, b218_48, b218_59, b218_75, b218_87, b218_94, b218_95, b218_104, b218_110, b218_114, nLE4, layE8, h0, n3_203, n3_193, n3_192, n3_204, I32, ↓xb, xb, ps, lpad, lat, aok2, rd2, aaok, aav, alok, alen, aok, akk, csum, isLg, cmpI, clsE, Option.elim, eq_self, List.mem_cons, List.not_mem_nil, or_false, false_or, List.append_nil, List.nil_append, List.cons_append, List.append_eq, List.replicate, List.length_cons, List.length_nil, List.map_cons, List.map_nil, ↓reduceIte, reduceCtorEq, if_true, if_false, true_and, and_true, false_and, and_false, and_self, not_true_eq_false, not_false_eq_true, forall_const, true_implies, false_implies, implies_true, Nat.reduceAdd, Nat.reduceSub, Nat.reduceLT, Nat.reduceLeDiff, Nat.reduceEqDiff, Nat.reduceMul, Nat.reducePow, Nat.add_one_ne_zero, Nat.add_one_sub_one, Nat.add_zero, Nat.zero_add, Int.reduceLT, Int.reduceLE, Int.reduceNeg, Int.reduceAdd, Int.reduceSub, Int.reduceToNat, Int.reduceEq, Int.reduceMul, Int.reducePow, Int.cast_ofNat_Int, Int.toNat_natCast, ne_eq, Bool.false_eq_true, true_or, or_true, or_self, Nat.not_lt_zero, ite_e0, ite_e1, lc_lt, lc_ge, lc_gt, lc_le, lc_eq, Classical.not_not]
    with_reducible repeat' (first | (refine And.intro ?_ ?_) | intro _)
    all_goals try omega
    refine kx_quarter (kd := 0) M z.1.1 z.1.2.1 hX (by omega) (by have := z.2.2.1; have e : pu P 2 7 qq 2 6 = P 2 6 := rfl; omega) (by omega) (fun σ2 M2 s2 => ?_)
    rw [← st] at M2
    simp -implicitDefEqProofs only [↓b218_0, ↓b218_4, ↓b218_24, ↓b218_32, ↓b218_39, ↓b218_45, ↓b218_48, ↓b218_59, ↓b218_75, ↓b218_87, ↓b218_94, ↓b218_95, ↓b218_104, ↓b218_110, ↓b218_114, b218_0, b218_4, b218_24, b218_32, b218_39, b218_45, b218_48, b218_59, b218_75, b218_87, b218_94, b218_95, b218_104, b218_110, b218_114, nLE4, layE8, h0, n3_203, n3_193, n3_192, n3_204, I32, ↓xb, xb, ps, lpad, lat, aok2, rd2, aaok, aav, alok, alen, aok, akk, csum, isLg, cmpI, clsE, Option.elim, eq_self, List.mem_cons, List.not_mem_nil, or_false, false_or, List.append_nil, List.nil_append, List.cons_append, List.append_eq, List.replicate, List.length_cons, List.length_nil, List.map_cons, List.map_nil, ↓reduceIte, reduceCtorEq, if_true, if_false, true_and, and_true, false_and, and_false, and_self, not_true_eq_false, not_false_eq_true, forall_const, true_implies, false_implies, implies_true, Nat.reduceAdd, Nat.reduceSub, Nat.reduceLT, Nat.reduceLeDiff, Nat.reduceEqDiff, Nat.reduceMul, Nat.reducePow, Nat.add_one_ne_zero, Nat.add_one_sub_one, Nat.add_zero, Nat.zero_add, Int.reduceLT, Int.reduceLE, Int.reduceNeg, Int.reduceAdd, Int.reduceSub, Int.reduceToNat, Int.reduceEq, Int.reduceMul, Int.reducePow, Int.cast_ofNat_Int, Int.toNat_natCast, ne_eq, Bool.false_eq_true, true_or, or_true, or_self, Nat.not_lt_zero, ite_e0, ite_e1, lc_lt, lc_ge, lc_gt, lc_le, lc_eq, Classical.not_not]
    with_reducible repeat' (first | (refine And.intro ?_ ?_) | intro _)
    all_goals try omega
    refine kx_sum_i (P := P) (fr := P 2 6) (i := i + 1) (was := ahP (pu P 2 7 qq)) (c0 := sdR U qq P i.toNat) W (by omega) z'.1.1 (z'.1.2.2 2 5 (by decide) (by decide) (by decide) (by decide) (by decide)) (fun j => z'.1.2.2 32 j (by decide) (by decide) (by decide) (by decide) (by omega)) (fun j => z'.1.2.2 33 j (by decide) (by decide) (by decide) (by decide) (by omega)) (by omega) (by omega) (fun l9 => ?_) M2 7 0 _ (by omega) (by omega) (by omega) rfl
    rw [se]
    refine TT_vb ok218 (sm3_ok G w) 60 [32] ?_
    simp -implicitDefEqProofs only [↓b218_0, ↓b218_4, ↓b218_24, ↓b218_32, ↓b218_39, ↓b218_45, ↓b218_48, ↓b218_59, ↓b218_75, ↓b218_87, ↓b218_94, ↓b218_95, ↓b218_104, ↓b218_110, ↓b218_114, b218_0, b218_4, b218_24, b218_32, b218_39, b218_45, b218_48, b218_59, b218_75, b218_87, b218_94, b218_95, b218_104, b218_110, b218_114, nLE4, layE8, h0, n3_203, n3_193, n3_192, n3_204, I32, ↓xb, xb, ps, lpad, lat, aok2, rd2, aaok, aav, alok, alen, aok, akk, csum, isLg, cmpI, clsE, Option.elim, eq_self, List.mem_cons, List.not_mem_nil, or_false, false_or, List.append_nil, List.nil_append, List.cons_append, List.append_eq, List.replicate, List.length_cons, List.length_nil, List.map_cons, List.map_nil, ↓reduceIte, reduceCtorEq, if_true, if_false, true_and, and_true, false_and, and_false, and_self, not_true_eq_false, not_false_eq_true, forall_const, true_implies, false_implies, implies_true, Nat.reduceAdd, Nat.reduceSub, Nat.reduceLT, Nat.reduceLeDiff, Nat.reduceEqDiff, Nat.reduceMul, Nat.reducePow, Nat.add_one_ne_zero, Nat.add_one_sub_one, Nat.add_zero, Nat.zero_add, Int.reduceLT, Int.reduceLE, Int.reduceNeg, Int.reduceAdd, Int.reduceSub, Int.reduceToNat, Int.reduceEq, Int.reduceMul, Int.reducePow, Int.cast_ofNat_Int, Int.toNat_natCast, ne_eq, Bool.false_eq_true, true_or, or_true, or_self, Nat.not_lt_zero, ite_e0, ite_e1, lc_lt, lc_ge, lc_gt, lc_le, lc_eq, Classical.not_not]
    with_reducible repeat' (first | (refine And.intro ?_ ?_) | intro _)
    all_goals try omega
    exact ih σ2 _ (by omega) (by omega) (hX.sx s2) M2 (hs.trans s2)
set_option maxRecDepth 100000 in
set_option maxHeartbeats 1000000 in
theorem kx_sumSaid (M : MR σ P) (W : WF P) (N : N38 P) (hX : RuX G w 6 r U σ) (hk : 34 ≤ k) (hn6 : P 2 6 ≤ 9999) {qq : Int} (hq : -1 ≤ qq ∧ qq ≤ 99999)
    (q : ∀ σ', MR σ' P → same SA σ σ' → Q (some (vl (sdR U qq P 60))) σ') : CC G w w k (0, 0) 218 [vr 21 0 0, vi r, vi qq] σ Q := by
  have hU2 := hX.1.1
  have W1 := W.said hq
  have N1 : N38 (pu P 2 7 qq) := N.keep (by decide)
  refine CC_vb ok218 (by decide) (sm3_ok G w) 60 [32, 110] (Nat.le_of_ble_eq_true rfl) ?_
  simp -implicitDefEqProofs only [↓b218_0, ↓b218_4, ↓b218_24, ↓b218_32, ↓b218_39, ↓b218_45, ↓b218_48, ↓b218_59, ↓b218_75, ↓b218_87, ↓b218_94, ↓b218_95, ↓b218_104, ↓b218_110, ↓b218_114, b218_0, b218_4, b218_24, b218_32, b218_39, b218_45, b218_48, b218_59, b218_75, b218_87, b218_94, b218_95, b218_104, b218_110, b218_114, nLE4, layE8, hk, n3_203, n3_193, n3_192, n3_204, I32, ↓xb, xb, ps, lpad, lat, aok2, rd2, aaok, aav, alok, alen, aok, akk, csum, isLg, cmpI, clsE, Option.elim, eq_self, List.mem_cons, List.not_mem_nil, or_false, false_or, List.append_nil, List.nil_append, List.cons_append, List.append_eq, List.replicate, List.length_cons, List.length_nil, List.map_cons, List.map_nil, ↓reduceIte, reduceCtorEq, if_true, if_false, true_and, and_true, false_and, and_false, and_self, not_true_eq_false, not_false_eq_true, forall_const, true_implies, false_implies, implies_true, Nat.reduceAdd, Nat.reduceSub, Nat.reduceLT, Nat.reduceLeDiff, Nat.reduceEqDiff, Nat.reduceMul, Nat.reducePow, Nat.add_one_ne_zero, Nat.add_one_sub_one, Nat.add_zero, Nat.zero_add, Int.reduceLT, Int.reduceLE, Int.reduceNeg, Int.reduceAdd, Int.reduceSub, Int.reduceToNat, Int.reduceEq, Int.reduceMul, Int.reducePow, Int.cast_ofNat_Int, Int.toNat_natCast, ne_eq, Bool.false_eq_true, true_or, or_true, or_self, Nat.not_lt_zero, ite_e0, ite_e1, lc_lt, lc_ge, lc_gt, lc_le, lc_eq, Classical.not_not]
  with_reducible repeat' (first | (refine And.intro ?_ ?_) | intro _)
  all_goals try omega
  refine kx_keeps M (by omega) (fun σ1 K1 M1 s1 => ?_)
  have hM1 : ∀ f i, 2 ≤ f → f ≤ 38 → σ1 21 f 0 i = P f i := M1
  have M2 : MR (up σ1 21 2 0 7 qq) (pu P 2 7 qq) := M1.put
  have s2 : same SA σ (up σ1 21 2 0 7 qq) := (SA_k s1).put rfl
  simp -implicitDefEqProofs only [↓b218_0, ↓b218_4, ↓b218_24, ↓b218_32, ↓b218_39, ↓b218_45, ↓b218_48, ↓b218_59, ↓b218_75, ↓b218_87, ↓b218_94, ↓b218_95, ↓b218_104, ↓b218_110, ↓b218_114, b218_0, b218_4, b218_24, b218_32, b218_39, b218_45, b218_48, b218_59, b218_75, b218_87, b218_94, b218_95, b218_104, b218_110, b218_114, nLE4, layE8, hM1, up_rd, n3_203, n3_193, n3_192, n3_204, I32, ↓xb, xb, ps, lpad, lat, aok2, rd2, aaok, aav, alok, alen, aok, akk, csum, isLg, cmpI, clsE, Option.elim, eq_self, List.mem_cons, List.not_mem_nil, or_false, false_or, List.append_nil, List.nil_append, List.cons_append, List.append_eq, List.replicate, List.length_cons, List.length_nil, List.map_cons, List.map_nil, ↓reduceIte, reduceCtorEq, if_true, if_false, true_and, and_true, false_and, and_false, and_self, not_true_eq_false, not_false_eq_true, forall_const, true_implies, false_implies, implies_true, Nat.reduceAdd, Nat.reduceSub, Nat.reduceLT, Nat.reduceLeDiff, Nat.reduceEqDiff, Nat.reduceMul, Nat.reducePow, Nat.add_one_ne_zero, Nat.add_one_sub_one, Nat.add_zero, Nat.zero_add, Int.reduceLT, Int.reduceLE, Int.reduceNeg, Int.reduceAdd, Int.reduceSub, Int.reduceToNat, Int.reduceEq, Int.reduceMul, Int.reducePow, Int.cast_ofNat_Int, Int.toNat_natCast, ne_eq, Bool.false_eq_true, true_or, or_true, or_self, Nat.not_lt_zero, ite_e0, ite_e1, lc_lt, lc_ge, lc_gt, lc_le, lc_eq, Classical.not_not]
  with_reducible repeat' (first | (refine And.intro ?_ ?_) | intro _)
  all_goals try omega
  refine kx_all M2 W1 (by omega) ?_
  simp -implicitDefEqProofs only [↓b218_0, ↓b218_4, ↓b218_24, ↓b218_32, ↓b218_39, ↓b218_45, ↓b218_48, ↓b218_59, ↓b218_75, ↓b218_87, ↓b218_94, ↓b218_95, ↓b218_104, ↓b218_110, ↓b218_114, b218_0, b218_4, b218_24, b218_32, b218_39, b218_45, b218_48, b218_59, b218_75, b218_87, b218_94, b218_95, b218_104, b218_110, b218_114, nLE4, layE8, hk, n3_203, n3_193, n3_192, n3_204, I32, ↓xb, xb, ps, lpad, lat, aok2, rd2, aaok, aav, alok, alen, aok, akk, csum, isLg, cmpI, clsE, Option.elim, eq_self, List.mem_cons, List.not_mem_nil, or_false, false_or, List.append_nil, List.nil_append, List.cons_append, List.append_eq, List.replicate, List.length_cons, List.length_nil, List.map_cons, List.map_nil, ↓reduceIte, reduceCtorEq, if_true, if_false, true_and, and_true, false_and, and_false, and_self, not_true_eq_false, not_false_eq_true, forall_const, true_implies, false_implies, implies_true, Nat.reduceAdd, Nat.reduceSub, Nat.reduceLT, Nat.reduceLeDiff, Nat.reduceEqDiff, Nat.reduceMul, Nat.reducePow, Nat.add_one_ne_zero, Nat.add_one_sub_one, Nat.add_zero, Nat.zero_add, Int.reduceLT, Int.reduceLE, Int.reduceNeg, Int.reduceAdd, Int.reduceSub, Int.reduceToNat, Int.reduceEq, Int.reduceMul, Int.reducePow, Int.cast_ofNat_Int, Int.toNat_natCast, ne_eq, Bool.false_eq_true, true_or, or_true, or_self, Nat.not_lt_zero, ite_e0, ite_e1, lc_lt, lc_ge, lc_gt, lc_le, lc_eq, Classical.not_not]
  with_reducible repeat' (first | (refine And.intro ?_ ?_) | intro _)
  all_goals try omega
  refine kx_sum_l (U := U) (σ := up σ1 21 2 0 7 qq) W N hn6 (by omega) hU2 hq (fun σ3 l8 l9 M3 s3 => ?_) 60 0 _ _ (by omega) (by omega) (hX.sa s2) M2 same.refl
  refine TT_vb ok218 (sm3_ok G w) 60 [] ?_
  simp -implicitDefEqProofs only [↓b218_0, ↓b218_4, ↓b218_24, ↓b218_32, ↓b218_39, ↓b218_45, ↓b218_48, ↓b218_59, ↓b218_75, ↓b218_87, ↓b218_94, ↓b218_95, ↓b218_104, ↓b218_110, ↓b218_114, b218_0, b218_4, b218_24, b218_32, b218_39, b218_45, b218_48, b218_59, b218_75, b218_87, b218_94, b218_95, b218_104, b218_110, b218_114, nLE4, layE8, hk, n3_203, n3_193, n3_192, n3_204, I32, ↓xb, xb, ps, lpad, lat, aok2, rd2, aaok, aav, alok, alen, aok, akk, csum, isLg, cmpI, clsE, Option.elim, eq_self, List.mem_cons, List.not_mem_nil, or_false, false_or, List.append_nil, List.nil_append, List.cons_append, List.append_eq, List.replicate, List.length_cons, List.length_nil, List.map_cons, List.map_nil, ↓reduceIte, reduceCtorEq, if_true, if_false, true_and, and_true, false_and, and_false, and_self, not_true_eq_false, not_false_eq_true, forall_const, true_implies, false_implies, implies_true, Nat.reduceAdd, Nat.reduceSub, Nat.reduceLT, Nat.reduceLeDiff, Nat.reduceEqDiff, Nat.reduceMul, Nat.reducePow, Nat.add_one_ne_zero, Nat.add_one_sub_one, Nat.add_zero, Nat.zero_add, Int.reduceLT, Int.reduceLE, Int.reduceNeg, Int.reduceAdd, Int.reduceSub, Int.reduceToNat, Int.reduceEq, Int.reduceMul, Int.reducePow, Int.cast_ofNat_Int, Int.toNat_natCast, ne_eq, Bool.false_eq_true, true_or, or_true, or_self, Nat.not_lt_zero, ite_e0, ite_e1, lc_lt, lc_ge, lc_gt, lc_le, lc_eq, Classical.not_not]
  with_reducible repeat' (first | (refine And.intro ?_ ?_) | intro _)
  all_goals try omega
  have hbk : BK P (rnP U 0 60 (pu P 2 7 qq)).1 := (BK.upd (by omega) (show 7 < 8 by decide)).trans (BK.of_kn (rn_k (kd := 0) W1 N1 hU2 60).1 (or_rn W1 N1 hU2 60))
  refine kx_back (K1.keep (fun f c a b => (s3 21 f (by
    have : f = 64 ∨ f = 65 ∨ f = 66 ∨ f = 67 ∨ f = 68 ∨ f = 69 := by omega
    rcases this with rfl | rfl | rfl | rfl | rfl | rfl <;> rfl) 0 c).trans (upp_nf (by omega)))) M3 hbk (by omega) (fun σ4 M4 s4 => ?_)
  simp -implicitDefEqProofs only [↓b218_0, ↓b218_4, ↓b218_24, ↓b218_32, ↓b218_39, ↓b218_45, ↓b218_48, ↓b218_59, ↓b218_75, ↓b218_87, ↓b218_94, ↓b218_95, ↓b218_104, ↓b218_110, ↓b218_114, b218_0, b218_4, b218_24, b218_32, b218_39, b218_45, b218_48, b218_59, b218_75, b218_87, b218_94, b218_95, b218_104, b218_110, b218_114, nLE4, layE8, hk, n3_203, n3_193, n3_192, n3_204, I32, ↓xb, xb, ps, lpad, lat, aok2, rd2, aaok, aav, alok, alen, aok, akk, csum, isLg, cmpI, clsE, Option.elim, eq_self, List.mem_cons, List.not_mem_nil, or_false, false_or, List.append_nil, List.nil_append, List.cons_append, List.append_eq, List.replicate, List.length_cons, List.length_nil, List.map_cons, List.map_nil, ↓reduceIte, reduceCtorEq, if_true, if_false, true_and, and_true, false_and, and_false, and_self, not_true_eq_false, not_false_eq_true, forall_const, true_implies, false_implies, implies_true, Nat.reduceAdd, Nat.reduceSub, Nat.reduceLT, Nat.reduceLeDiff, Nat.reduceEqDiff, Nat.reduceMul, Nat.reducePow, Nat.add_one_ne_zero, Nat.add_one_sub_one, Nat.add_zero, Nat.zero_add, Int.reduceLT, Int.reduceLE, Int.reduceNeg, Int.reduceAdd, Int.reduceSub, Int.reduceToNat, Int.reduceEq, Int.reduceMul, Int.reducePow, Int.cast_ofNat_Int, Int.toNat_natCast, ne_eq, Bool.false_eq_true, true_or, or_true, or_self, Nat.not_lt_zero, ite_e0, ite_e1, lc_lt, lc_ge, lc_gt, lc_le, lc_eq, Classical.not_not]
  with_reducible repeat' (first | (refine And.intro ?_ ?_) | intro _)
  all_goals try omega
  exact q σ4 M4 ((s2.trans (SA_x s3)).trans (SA_b s4))
set_option maxRecDepth 100000 in
set_option maxHeartbeats 1000000 in
theorem kx_should_l (W : WF P) (N : N38 P) (hn6 : P 2 6 ≤ 9999) (hk : 36 ≤ k) {wh : Int}
    (q : ∀ σ', MR σ' P → same SA σ σ' → Q (some (vl (hpA wh (shR U P (P 2 5).toNat)))) σ') :
    ∀ (m : Nat) (i b v : Int) (σ' : Mem) (l7 l8 : Option AV), 0 ≤ i → i ≤ P 2 5 → P 2 5 < i + m → MR σ' P → RuX G w 6 r U σ' → (b, v) = shR U P i.toNat → same SA σ σ' → TT G w w w k (0, 0) 219 31 [some (vr 21 0 0), some (vi r), some (vi wh), some (vi b), some (vl v), none, some (vi i), l7, l8] [] σ' Q
  | 0, i, b, v, σ', l7, l8, h0, h1, h2, _, _, _, _ => by omega
  | m + 1, i, b, v, σ', l7, l8, h0, h1, h2, M, hX, hc, hs => by
    have ih := kx_should_l W N hn6 hk (wh := wh) q m (i + 1)
    have w1 := W.sc.2.2.2.2.2.1
    have hM : ∀ f i, 2 ≤ f → f ≤ 38 → σ' 21 f 0 i = P f i := M
    obtain ⟨c1, c0⟩ := sh_st h0 hc
    have br := sh_r (U := U) W i.toNat (by omega)
    rw [← hc] at br
    have br' : b = -2 ∨ (0 ≤ b ∧ b ≤ 99999) := br
    by_cases hi : i < P 2 5
    · have d := (W.en (n := i.toNat) (by omega)).1
      refine TT_vb ok219 (sm3_ok G w) 60 [31] ?_
      simp -implicitDefEqProofs only [↓b219_0, ↓b219_5, ↓b219_8, ↓b219_15, ↓b219_18, ↓b219_22, ↓b219_31, ↓b219_42, ↓b219_54, ↓b219_62, ↓b219_70, ↓b219_78, ↓b219_89, ↓b219_101, ↓b219_107, ↓b219_113, ↓b219_117, ↓b219_122, ↓b219_124, b219_0, b219_5, b219_8, b219_15, b219_18, b219_22, b219_31, b219_42, b219_54, b219_62, b219_70, b219_78, b219_89, b219_101, b219_107, b219_113, b219_117, b219_122, b219_124, nLE4, layE8, hM, k3_175, r175, k3_128, r128, n3_218, I32, ↓xb, xb, ps, lpad, lat, aok2, rd2, aaok, aav, alok, alen, aok, akk, csum, isLg, cmpI, clsE, Option.elim, eq_self, List.mem_cons, List.not_mem_nil, or_false, false_or, List.append_nil, List.nil_append, List.cons_append, List.append_eq, List.replicate, List.length_cons, List.length_nil, List.map_cons, List.map_nil, ↓reduceIte, reduceCtorEq, if_true, if_false, true_and, and_true, false_and, and_false, and_self, not_true_eq_false, not_false_eq_true, forall_const, true_implies, false_implies, implies_true, Nat.reduceAdd, Nat.reduceSub, Nat.reduceLT, Nat.reduceLeDiff, Nat.reduceEqDiff, Nat.reduceMul, Nat.reducePow, Nat.add_one_ne_zero, Nat.add_one_sub_one, Nat.add_zero, Nat.zero_add, Int.reduceLT, Int.reduceLE, Int.reduceNeg, Int.reduceAdd, Int.reduceSub, Int.reduceToNat, Int.reduceEq, Int.reduceMul, Int.reducePow, Int.cast_ofNat_Int, Int.toNat_natCast, ne_eq, Bool.false_eq_true, true_or, or_true, or_self, Nat.not_lt_zero, ite_e0, ite_e1, lc_lt, lc_ge, lc_gt, lc_le, lc_eq, Classical.not_not]
      with_reducible repeat' (first | (refine And.intro ?_ ?_) | intro _)
      all_goals try omega
      refine kx_sumSaid M W N hX (by omega) hn6 (by omega) (fun σ2 M2 s2 => ?_)
      have hM2 : ∀ f i, 2 ≤ f → f ≤ 38 → σ2 21 f 0 i = P f i := M2
      rcases br' with hb2 | hb2
      · have hb2' := eq_true hb2
        simp -implicitDefEqProofs only [↓b219_0, ↓b219_5, ↓b219_8, ↓b219_15, ↓b219_18, ↓b219_22, ↓b219_31, ↓b219_42, ↓b219_54, ↓b219_62, ↓b219_70, ↓b219_78, ↓b219_89, ↓b219_101, ↓b219_107, ↓b219_113, ↓b219_117, ↓b219_122, ↓b219_124, b219_0, b219_5, b219_8, b219_15, b219_18, b219_22, b219_31, b219_42, b219_54, b219_62, b219_70, b219_78, b219_89, b219_101, b219_107, b219_113, b219_117, b219_122, b219_124, nLE4, layE8, hb2', hM2, k3_175, r175, k3_128, r128, n3_218, I32, ↓xb, xb, ps, lpad, lat, aok2, rd2, aaok, aav, alok, alen, aok, akk, csum, isLg, cmpI, clsE, Option.elim, eq_self, List.mem_cons, List.not_mem_nil, or_false, false_or, List.append_nil, List.nil_append, List.cons_append, List.append_eq, List.replicate, List.length_cons, List.length_nil, List.map_cons, List.map_nil, ↓reduceIte, reduceCtorEq, if_true, if_false, true_and, and_true, false_and, and_false, and_self, not_true_eq_false, not_false_eq_true, forall_const, true_implies, false_implies, implies_true, Nat.reduceAdd, Nat.reduceSub, Nat.reduceLT, Nat.reduceLeDiff, Nat.reduceEqDiff, Nat.reduceMul, Nat.reducePow, Nat.add_one_ne_zero, Nat.add_one_sub_one, Nat.add_zero, Nat.zero_add, Int.reduceLT, Int.reduceLE, Int.reduceNeg, Int.reduceAdd, Int.reduceSub, Int.reduceToNat, Int.reduceEq, Int.reduceMul, Int.reducePow, Int.cast_ofNat_Int, Int.toNat_natCast, ne_eq, Bool.false_eq_true, true_or, or_true, or_self, Nat.not_lt_zero, ite_e0, ite_e1, lc_lt, lc_ge, lc_gt, lc_le, lc_eq, Classical.not_not]
        with_reducible repeat' (first | (refine And.intro ?_ ?_) | intro _)
        all_goals try omega
        exact ih _ _ σ2 _ _ (by omega) (by omega) (by omega) M2 (hX.sa s2) (c1 (Or.inl hb2)) (hs.trans s2)
      · have hb2' : ¬ b = -2 := by omega
        simp -implicitDefEqProofs only [↓b219_0, ↓b219_5, ↓b219_8, ↓b219_15, ↓b219_18, ↓b219_22, ↓b219_31, ↓b219_42, ↓b219_54, ↓b219_62, ↓b219_70, ↓b219_78, ↓b219_89, ↓b219_101, ↓b219_107, ↓b219_113, ↓b219_117, ↓b219_122, ↓b219_124, b219_0, b219_5, b219_8, b219_15, b219_18, b219_22, b219_31, b219_42, b219_54, b219_62, b219_70, b219_78, b219_89, b219_101, b219_107, b219_113, b219_117, b219_122, b219_124, nLE4, layE8, hb2', hM2, k3_175, r175, k3_128, r128, n3_218, I32, ↓xb, xb, ps, lpad, lat, aok2, rd2, aaok, aav, alok, alen, aok, akk, csum, isLg, cmpI, clsE, Option.elim, eq_self, List.mem_cons, List.not_mem_nil, or_false, false_or, List.append_nil, List.nil_append, List.cons_append, List.append_eq, List.replicate, List.length_cons, List.length_nil, List.map_cons, List.map_nil, ↓reduceIte, reduceCtorEq, if_true, if_false, true_and, and_true, false_and, and_false, and_self, not_true_eq_false, not_false_eq_true, forall_const, true_implies, false_implies, implies_true, Nat.reduceAdd, Nat.reduceSub, Nat.reduceLT, Nat.reduceLeDiff, Nat.reduceEqDiff, Nat.reduceMul, Nat.reducePow, Nat.add_one_ne_zero, Nat.add_one_sub_one, Nat.add_zero, Nat.zero_add, Int.reduceLT, Int.reduceLE, Int.reduceNeg, Int.reduceAdd, Int.reduceSub, Int.reduceToNat, Int.reduceEq, Int.reduceMul, Int.reducePow, Int.cast_ofNat_Int, Int.toNat_natCast, ne_eq, Bool.false_eq_true, true_or, or_true, or_self, Nat.not_lt_zero, ite_e0, ite_e1, lc_lt, lc_ge, lc_gt, lc_le, lc_eq, Classical.not_not]
        with_reducible repeat' (first | (refine And.intro ?_ ?_) | intro _)
        all_goals try omega
        all_goals first | exact ih _ _ σ2 _ _ (by omega) (by omega) (by omega) M2 (hX.sa s2) (c1 (by omega)) (hs.trans s2) | exact ih _ _ σ2 _ _ (by omega) (by omega) (by omega) M2 (hX.sa s2) (c0 (by omega)) (hs.trans s2)
    · have ei : i = P 2 5 := by omega
      have z := q σ' M hs
      rw [← ei, ← hc] at z
      refine TT_vb ok219 (sm3_ok G w) 60 [31] ?_
      simp -implicitDefEqProofs only [↓b219_0, ↓b219_5, ↓b219_8, ↓b219_15, ↓b219_18, ↓b219_22, ↓b219_31, ↓b219_42, ↓b219_54, ↓b219_62, ↓b219_70, ↓b219_78, ↓b219_89, ↓b219_101, ↓b219_107, ↓b219_113, ↓b219_117, ↓b219_122, ↓b219_124, b219_0, b219_5, b219_8, b219_15, b219_18, b219_22, b219_31, b219_42, b219_54, b219_62, b219_70, b219_78, b219_89, b219_101, b219_107, b219_113, b219_117, b219_122, b219_124, nLE4, layE8, hM, k3_175, r175, k3_128, r128, n3_218, I32, ↓xb, xb, ps, lpad, lat, aok2, rd2, aaok, aav, alok, alen, aok, akk, csum, isLg, cmpI, clsE, Option.elim, eq_self, List.mem_cons, List.not_mem_nil, or_false, false_or, List.append_nil, List.nil_append, List.cons_append, List.append_eq, List.replicate, List.length_cons, List.length_nil, List.map_cons, List.map_nil, ↓reduceIte, reduceCtorEq, if_true, if_false, true_and, and_true, false_and, and_false, and_self, not_true_eq_false, not_false_eq_true, forall_const, true_implies, false_implies, implies_true, Nat.reduceAdd, Nat.reduceSub, Nat.reduceLT, Nat.reduceLeDiff, Nat.reduceEqDiff, Nat.reduceMul, Nat.reducePow, Nat.add_one_ne_zero, Nat.add_one_sub_one, Nat.add_zero, Nat.zero_add, Int.reduceLT, Int.reduceLE, Int.reduceNeg, Int.reduceAdd, Int.reduceSub, Int.reduceToNat, Int.reduceEq, Int.reduceMul, Int.reducePow, Int.cast_ofNat_Int, Int.toNat_natCast, ne_eq, Bool.false_eq_true, true_or, or_true, or_self, Nat.not_lt_zero, ite_e0, ite_e1, lc_lt, lc_ge, lc_gt, lc_le, lc_eq, Classical.not_not]
      with_reducible repeat' (first | (refine And.intro ?_ ?_) | intro _)
      all_goals try omega
      all_goals first | (rw [hpA_0 (by omega)] at z; exact z) | (rw [hpA_1 (by omega)] at z; exact z)
set_option maxRecDepth 100000 in
set_option maxHeartbeats 1000000 in
theorem kx_should (M : MR σ P) (W : WF P) (N : N38 P) (hn6 : P 2 6 ≤ 9999) {nr : Int} (en : σ 21 43 0 0 = nr) (hnr : 0 ≤ nr ∧ nr ≤ 8) {u : Nat → RU} (hX : XUs G w nr u σ) (hk : 40 ≤ k) {wh : Int}
    (q0 : ¬ ((0 ≤ r ∧ r < nr) ∧ (0 ≤ wh ∧ wh ≤ 1)) → Q (some (vl (-1))) σ)
    (q1 : (0 ≤ r ∧ r < nr) ∧ (0 ≤ wh ∧ wh ≤ 1) → ∀ σ', MR σ' P → same SA σ σ' → Q (some (vl (hpA wh (shR (u r.toNat) P (P 2 5).toNat)))) σ') : CC G w w k (0, 0) 219 [vr 21 0 0, vi r, vi wh] σ Q := by
  have w1 := W.sc.2.2.2.2.2.1
  by_cases c : (0 ≤ r ∧ r < nr) ∧ (0 ≤ wh ∧ wh ≤ 1)
  · refine CC_vb ok219 (by decide) (sm3_ok G w) 60 [31] (Nat.le_of_ble_eq_true rfl) ?_
    simp -implicitDefEqProofs only [↓b219_0, ↓b219_5, ↓b219_8, ↓b219_15, ↓b219_18, ↓b219_22, ↓b219_31, ↓b219_42, ↓b219_54, ↓b219_62, ↓b219_70, ↓b219_78, ↓b219_89, ↓b219_101, ↓b219_107, ↓b219_113, ↓b219_117, ↓b219_122, ↓b219_124, b219_0, b219_5, b219_8, b219_15, b219_18, b219_22, b219_31, b219_42, b219_54, b219_62, b219_70, b219_78, b219_89, b219_101, b219_107, b219_113, b219_117, b219_122, b219_124, nLE4, layE8, en, k3_175, r175, k3_128, r128, n3_218, I32, ↓xb, xb, ps, lpad, lat, aok2, rd2, aaok, aav, alok, alen, aok, akk, csum, isLg, cmpI, clsE, Option.elim, eq_self, List.mem_cons, List.not_mem_nil, or_false, false_or, List.append_nil, List.nil_append, List.cons_append, List.append_eq, List.replicate, List.length_cons, List.length_nil, List.map_cons, List.map_nil, ↓reduceIte, reduceCtorEq, if_true, if_false, true_and, and_true, false_and, and_false, and_self, not_true_eq_false, not_false_eq_true, forall_const, true_implies, false_implies, implies_true, Nat.reduceAdd, Nat.reduceSub, Nat.reduceLT, Nat.reduceLeDiff, Nat.reduceEqDiff, Nat.reduceMul, Nat.reducePow, Nat.add_one_ne_zero, Nat.add_one_sub_one, Nat.add_zero, Nat.zero_add, Int.reduceLT, Int.reduceLE, Int.reduceNeg, Int.reduceAdd, Int.reduceSub, Int.reduceToNat, Int.reduceEq, Int.reduceMul, Int.reducePow, Int.cast_ofNat_Int, Int.toNat_natCast, ne_eq, Bool.false_eq_true, true_or, or_true, or_self, Nat.not_lt_zero, ite_e0, ite_e1, lc_lt, lc_ge, lc_gt, lc_le, lc_eq, Classical.not_not]
    with_reducible repeat' (first | (refine And.intro ?_ ?_) | intro _)
    all_goals try omega
    exact kx_should_l (U := u r.toNat) W N hn6 (by omega) (q1 c) 7 0 (-2) 0 σ _ _ (by omega) (by omega) (by omega) M (hX.at c.1) rfl same.refl
  · refine CC_vb ok219 (by decide) (sm3_ok G w) 60 [22] (Nat.le_of_ble_eq_true rfl) ?_
    simp -implicitDefEqProofs only [↓b219_0, ↓b219_5, ↓b219_8, ↓b219_15, ↓b219_18, ↓b219_22, ↓b219_31, ↓b219_42, ↓b219_54, ↓b219_62, ↓b219_70, ↓b219_78, ↓b219_89, ↓b219_101, ↓b219_107, ↓b219_113, ↓b219_117, ↓b219_122, ↓b219_124, b219_0, b219_5, b219_8, b219_15, b219_18, b219_22, b219_31, b219_42, b219_54, b219_62, b219_70, b219_78, b219_89, b219_101, b219_107, b219_113, b219_117, b219_122, b219_124, nLE4, layE8, en, k3_175, r175, k3_128, r128, n3_218, I32, ↓xb, xb, ps, lpad, lat, aok2, rd2, aaok, aav, alok, alen, aok, akk, csum, isLg, cmpI, clsE, Option.elim, eq_self, List.mem_cons, List.not_mem_nil, or_false, false_or, List.append_nil, List.nil_append, List.cons_append, List.append_eq, List.replicate, List.length_cons, List.length_nil, List.map_cons, List.map_nil, ↓reduceIte, reduceCtorEq, if_true, if_false, true_and, and_true, false_and, and_false, and_self, not_true_eq_false, not_false_eq_true, forall_const, true_implies, false_implies, implies_true, Nat.reduceAdd, Nat.reduceSub, Nat.reduceLT, Nat.reduceLeDiff, Nat.reduceEqDiff, Nat.reduceMul, Nat.reducePow, Nat.add_one_ne_zero, Nat.add_one_sub_one, Nat.add_zero, Nat.zero_add, Int.reduceLT, Int.reduceLE, Int.reduceNeg, Int.reduceAdd, Int.reduceSub, Int.reduceToNat, Int.reduceEq, Int.reduceMul, Int.reducePow, Int.cast_ofNat_Int, Int.toNat_natCast, ne_eq, Bool.false_eq_true, true_or, or_true, or_self, Nat.not_lt_zero, ite_e0, ite_e1, lc_lt, lc_ge, lc_gt, lc_le, lc_eq, Classical.not_not]
    with_reducible repeat' (first | (refine And.intro ?_ ?_) | intro _)
    all_goals try omega
    all_goals first | omega | exact q0 c
end SHD

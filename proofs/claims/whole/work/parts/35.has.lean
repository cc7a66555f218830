/-! 35.has: a need served, by the check -/
abbrev S63 : Nat → Nat → Bool := fun o f => o == 21 && f == 63
def SH (o f : Nat) : Bool := o == 21 && (f == 8 || f == 26 || f == 38 || f == 59 || f == 60 || f == 63)
theorem same_sh {σ σ' : Mem} (h : same SH σ σ') : same SX σ σ' := h.mono (fun o f z => by
  unfold SH at z
  simp only [Bool.and_eq_true, Bool.or_eq_true, beq_iff_eq] at z
  obtain ⟨rfl, z⟩ := z
  exact SX_f (by omega))
theorem same_g {σ σ' : Mem} (h : same (fun o f => o == 21 && (f == 26 || f == 59 || f == 60)) σ σ') : same SH σ σ' := h.mono (fun o f z => by
  have z' : (o == 21 && (f == 26 || f == 59 || f == 60)) = true := z
  simp only [Bool.and_eq_true, Bool.or_eq_true, beq_iff_eq] at z'
  obtain ⟨rfl, z'⟩ := z'
  rcases z' with (rfl | rfl) | rfl <;> rfl)
theorem same_63 {σ σ' : Mem} (h : same S63 σ σ') : same SH σ σ' := h.mono (fun o f z => by
  have z' : (o == 21 && f == 63) = true := z
  simp only [Bool.and_eq_true, beq_iff_eq] at z'
  rw [z'.1, z'.2]; rfl)
theorem MR.same63 {σ σ' : Mem} {P : Pt} (M : MR σ P) (hs : same S63 σ σ') : MR σ' P := M.keep hs (fun f _ h => by
  show ((21 : Nat) == 21 && f == 63) = false
  rw [show (f == 63) = false by simp; omega]; rfl)
theorem far_ext {P P' : Pt} (k : KQ P P') {a b : Int} : farP P' a b = farP P a b := by
  unfold farP
  rw [k.2 3 _ (by decide) (by decide) (by decide) (by decide), k.2 3 _ (by decide) (by decide) (by decide) (by decide), k.2 4 _ (by decide) (by decide) (by decide) (by decide), k.2 4 _ (by decide) (by decide) (by decide) (by decide)]
theorem NB_ext {P P' : Pt} (k : KQ P P') {h : Int} {ask : Int → Prop} {o b : Int} (z : NB P' h ask o b) : NB P h ask o b := by
  unfold NB LTn at z ⊢
  simp only [far_ext k] at z
  exact z
theorem ask_s {P : Pt} {h : Int} {j : Nat} {x : Int} : askP P h (j + 1) x ↔ (askP P h j x ∧ nrP P h j ≠ x) := by
  constructor
  · intro ⟨a, b⟩
    exact ⟨⟨a, fun c hc => b c (by omega)⟩, b j (by omega)⟩
  · intro ⟨⟨a, b⟩, d⟩
    exact ⟨a, fun c hc => by
      by_cases e : c = j
      · rw [e]; exact d
      · exact b c (by omega)⟩
theorem gc_ne {P : Pt} {n : Nat} {o v : Int} {f i : Nat} (h : f ≠ 26) : gcP P n o v f i = P f i := by
  unfold gcP
  split
  · exact pu_nf h
  · rfl
section HAS
variable {G : Gl} {w : Wd} {k : Nat} {σ : Mem} {Q : Option AV → Mem → Prop} {P P1 : Pt} {U : RU} {r kd : Int}
set_option maxRecDepth 100000 in
set_option maxHeartbeats 1000000 in
theorem kx_hs_f (hk : 8 ≤ k) {h on : Int} {l1 l2 l3 l5 l6 l7 : Option AV} (ho : on = 0 ∨ on = 1) (q : ∀ σ', (∀ x : Int, 0 ≤ x → x < 12 → (σ' 21 63 0 x.toNat = 0 ↔ ¬ (on = 1 ∧ x ≠ h))) → same S63 σ σ' → TT G w w w k (0, 0) 191 145 [some (vr 21 0 0), l1, l2, l3, some (vi h), l5, l6, l7, some (vi on), some (vi 12), none] [] σ' Q) :
    ∀ (m : Nat) (i : Int) (σ' : Mem), 0 ≤ i → i ≤ 12 → 12 < i + m → (∀ x : Int, 0 ≤ x → x < i → (σ' 21 63 0 x.toNat = 0 ↔ ¬ (on = 1 ∧ x ≠ h))) → same S63 σ σ' → TT G w w w k (0, 0) 191 108 [some (vr 21 0 0), l1, l2, l3, some (vi h), l5, l6, l7, some (vi on), some (vi i), none] [] σ' Q
  | 0, i, σ', h0, h1, h2, _, _ => by omega
  | m + 1, i, σ', h0, h1, h2, hx, hs => by
    have ih := kx_hs_f hk ho q m (i + 1)
    have st : ∀ v : Int, (v = 0 ↔ ¬ (on = 1 ∧ i ≠ h)) → ∀ x : Int, 0 ≤ x → x < i + 1 → (up σ' 21 63 0 i.toNat v 21 63 0 x.toNat = 0 ↔ ¬ (on = 1 ∧ x ≠ h)) := fun v hv x x0 x1 => by
      by_cases e : x = i
      · subst e; rw [upp_eq]; exact hv
      · rw [upp_nc (by omega)]; exact hx x x0 (by omega)
    by_cases hi : i < 12
    · refine TT_vb ok191 (sm3_ok G w) 60 [108, 145] ?_
      simp -implicitDefEqProofs only [↓b191_0, ↓b191_38, ↓b191_48, ↓b191_54, ↓b191_84, ↓b191_88, ↓b191_98, ↓b191_102, ↓b191_103, ↓b191_108, ↓b191_115, ↓b191_126, ↓b191_133, ↓b191_137, ↓b191_138, ↓b191_145, ↓b191_151, ↓b191_153, ↓b191_159, ↓b191_164, ↓b191_183, ↓b191_239, ↓b191_244, b191_0, b191_38, b191_48, b191_54, b191_84, b191_88, b191_98, b191_102, b191_103, b191_108, b191_115, b191_126, b191_133, b191_137, b191_138, b191_145, b191_151, b191_153, b191_159, b191_164, b191_183, b191_239, b191_244, nLE3, layE8, h0, n3_190, n3_189, I32, ↓xb, xb, ps, lpad, lat, aok2, rd2, aaok, aav, alok, alen, aok, akk, csum, isLg, cmpI, clsE, Option.elim, eq_self, List.mem_cons, List.not_mem_nil, or_false, false_or, List.append_nil, List.nil_append, List.cons_append, List.append_eq, List.replicate, List.length_cons, List.length_nil, List.map_cons, List.map_nil, ↓reduceIte, reduceCtorEq, if_true, if_false, true_and, and_true, false_and, and_false, and_self, not_true_eq_false, not_false_eq_true, forall_const, true_implies, false_implies, implies_true, Nat.reduceAdd, Nat.reduceSub, Nat.reduceLT, Nat.reduceLeDiff, Nat.reduceEqDiff, Nat.reduceMul, Nat.reducePow, Nat.add_one_ne_zero, Nat.add_one_sub_one, Nat.add_zero, Nat.zero_add, Int.reduceLT, Int.reduceLE, Int.reduceNeg, Int.reduceAdd, Int.reduceSub, Int.reduceToNat, Int.reduceEq, Int.reduceMul, Int.reducePow, Int.cast_ofNat_Int, Int.toNat_natCast, ne_eq, Bool.false_eq_true, true_or, or_true, or_self, Nat.not_lt_zero, ite_e0, ite_e1, lc_lt, lc_ge, lc_gt, lc_le, lc_eq, Classical.not_not]
      with_reducible repeat' (first | (refine And.intro ?_ ?_) | intro _)
      all_goals try omega
      · exact ih _ (by omega) (by omega) (by omega) (st 0 (by omega)) (hs.put rfl)
      · exact ih _ (by omega) (by omega) (by omega) (st 0 (by omega)) (hs.put rfl)
      · exact ih _ (by omega) (by omega) (by omega) (st 1 (by omega)) (hs.put rfl)
    · have e : i = 12 := by omega
      subst e
      refine TT_vb ok191 (sm3_ok G w) 60 [108, 145] ?_
      simp -implicitDefEqProofs only [↓b191_0, ↓b191_38, ↓b191_48, ↓b191_54, ↓b191_84, ↓b191_88, ↓b191_98, ↓b191_102, ↓b191_103, ↓b191_108, ↓b191_115, ↓b191_126, ↓b191_133, ↓b191_137, ↓b191_138, ↓b191_145, ↓b191_151, ↓b191_153, ↓b191_159, ↓b191_164, ↓b191_183, ↓b191_239, ↓b191_244, b191_0, b191_38, b191_48, b191_54, b191_84, b191_88, b191_98, b191_102, b191_103, b191_108, b191_115, b191_126, b191_133, b191_137, b191_138, b191_145, b191_151, b191_153, b191_159, b191_164, b191_183, b191_239, b191_244, nLE3, layE8, h0, n3_190, n3_189, I32, ↓xb, xb, ps, lpad, lat, aok2, rd2, aaok, aav, alok, alen, aok, akk, csum, isLg, cmpI, clsE, Option.elim, eq_self, List.mem_cons, List.not_mem_nil, or_false, false_or, List.append_nil, List.nil_append, List.cons_append, List.append_eq, List.replicate, List.length_cons, List.length_nil, List.map_cons, List.map_nil, ↓reduceIte, reduceCtorEq, if_true, if_false, true_and, and_true, false_and, and_false, and_self, not_true_eq_false, not_false_eq_true, forall_const, true_implies, false_implies, implies_true, Nat.reduceAdd, Nat.reduceSub, Nat.reduceLT, Nat.reduceLeDiff, Nat.reduceEqDiff, Nat.reduceMul, Nat.reducePow, Nat.add_one_ne_zero, Nat.add_one_sub_one, Nat.add_zero, Nat.zero_add, Int.reduceLT, Int.reduceLE, Int.reduceNeg, Int.reduceAdd, Int.reduceSub, Int.reduceToNat, Int.reduceEq, Int.reduceMul, Int.reducePow, Int.cast_ofNat_Int, Int.toNat_natCast, ne_eq, Bool.false_eq_true, true_or, or_true, or_self, Nat.not_lt_zero, ite_e0, ite_e1, lc_lt, lc_ge, lc_gt, lc_le, lc_eq, Classical.not_not]
      with_reducible repeat' (first | (refine And.intro ?_ ?_) | intro _)
      all_goals try omega
      exact q σ' hx hs
set_option maxRecDepth 100000 in
set_option maxHeartbeats 1000000 in
theorem kx_hs_0 (M : MR σ P1) (W : WF P1) (hk : 10 ≤ k) {h lack : Int} (hh : 0 ≤ h ∧ h < P1 2 0) {on : Int} {l1 l2 l3 l5 l6 : Option AV} (hx : ∀ x : Int, 0 ≤ x → x < 12 → (σ 21 63 0 x.toNat = 0 ↔ ¬ ((0 : Int) = 1 ∧ x ≠ h))) (q : Q (some (vi lack)) σ) : TT G w w w k (0, 0) 191 145 [some (vr 21 0 0), l1, l2, l3, some (vi h), l5, l6, some (vi lack), some (vi on), some (vi 12), none] [] σ Q := by
  have w1 := W.sc.1
  refine TT_vb ok191 (sm3_ok G w) 60 [] ?_
  simp -implicitDefEqProofs only [↓b191_0, ↓b191_38, ↓b191_48, ↓b191_54, ↓b191_84, ↓b191_88, ↓b191_98, ↓b191_102, ↓b191_103, ↓b191_108, ↓b191_115, ↓b191_126, ↓b191_133, ↓b191_137, ↓b191_138, ↓b191_145, ↓b191_151, ↓b191_153, ↓b191_159, ↓b191_164, ↓b191_183, ↓b191_239, ↓b191_244, b191_0, b191_38, b191_48, b191_54, b191_84, b191_88, b191_98, b191_102, b191_103, b191_108, b191_115, b191_126, b191_133, b191_137, b191_138, b191_145, b191_151, b191_153, b191_159, b191_164, b191_183, b191_239, b191_244, nLE3, layE8, hk, n3_190, n3_189, I32, ↓xb, xb, ps, lpad, lat, aok2, rd2, aaok, aav, alok, alen, aok, akk, csum, isLg, cmpI, clsE, Option.elim, eq_self, List.mem_cons, List.not_mem_nil, or_false, false_or, List.append_nil, List.nil_append, List.cons_append, List.append_eq, List.replicate, List.length_cons, List.length_nil, List.map_cons, List.map_nil, ↓reduceIte, reduceCtorEq, if_true, if_false, true_and, and_true, false_and, and_false, and_self, not_true_eq_false, not_false_eq_true, forall_const, true_implies, false_implies, implies_true, Nat.reduceAdd, Nat.reduceSub, Nat.reduceLT, Nat.reduceLeDiff, Nat.reduceEqDiff, Nat.reduceMul, Nat.reducePow, Nat.add_one_ne_zero, Nat.add_one_sub_one, Nat.add_zero, Nat.zero_add, Int.reduceLT, Int.reduceLE, Int.reduceNeg, Int.reduceAdd, Int.reduceSub, Int.reduceToNat, Int.reduceEq, Int.reduceMul, Int.reducePow, Int.cast_ofNat_Int, Int.toNat_natCast, ne_eq, Bool.false_eq_true, true_or, or_true, or_self, Nat.not_lt_zero, ite_e0, ite_e1, lc_lt, lc_ge, lc_gt, lc_le, lc_eq, Classical.not_not]
  with_reducible repeat' (first | (refine And.intro ?_ ?_) | intro _)
  all_goals try omega
  refine kx_near M W (by omega) hh (ask := fun _ => False) (fun x x0 x1 => ?_) (fun b hb => ?_)
  · rw [hx x x0 (by omega)]; exact ⟨fun _ z => z, fun _ z => absurd z.1 (by decide)⟩
  · have eb : b = -1 := by
      rcases hb with z | z
      · exact z.1
      · exact z.2.1.elim
    simp -implicitDefEqProofs only [↓b191_0, ↓b191_38, ↓b191_48, ↓b191_54, ↓b191_84, ↓b191_88, ↓b191_98, ↓b191_102, ↓b191_103, ↓b191_108, ↓b191_115, ↓b191_126, ↓b191_133, ↓b191_137, ↓b191_138, ↓b191_145, ↓b191_151, ↓b191_153, ↓b191_159, ↓b191_164, ↓b191_183, ↓b191_239, ↓b191_244, b191_0, b191_38, b191_48, b191_54, b191_84, b191_88, b191_98, b191_102, b191_103, b191_108, b191_115, b191_126, b191_133, b191_137, b191_138, b191_145, b191_151, b191_153, b191_159, b191_164, b191_183, b191_239, b191_244, nLE3, layE8, eb, n3_190, n3_189, I32, ↓xb, xb, ps, lpad, lat, aok2, rd2, aaok, aav, alok, alen, aok, akk, csum, isLg, cmpI, clsE, Option.elim, eq_self, List.mem_cons, List.not_mem_nil, or_false, false_or, List.append_nil, List.nil_append, List.cons_append, List.append_eq, List.replicate, List.length_cons, List.length_nil, List.map_cons, List.map_nil, ↓reduceIte, reduceCtorEq, if_true, if_false, true_and, and_true, false_and, and_false, and_self, not_true_eq_false, not_false_eq_true, forall_const, true_implies, false_implies, implies_true, Nat.reduceAdd, Nat.reduceSub, Nat.reduceLT, Nat.reduceLeDiff, Nat.reduceEqDiff, Nat.reduceMul, Nat.reducePow, Nat.add_one_ne_zero, Nat.add_one_sub_one, Nat.add_zero, Nat.zero_add, Int.reduceLT, Int.reduceLE, Int.reduceNeg, Int.reduceAdd, Int.reduceSub, Int.reduceToNat, Int.reduceEq, Int.reduceMul, Int.reducePow, Int.cast_ofNat_Int, Int.toNat_natCast, ne_eq, Bool.false_eq_true, true_or, or_true, or_self, Nat.not_lt_zero, ite_e0, ite_e1, lc_lt, lc_ge, lc_gt, lc_le, lc_eq, Classical.not_not]
    with_reducible repeat' (first | (refine And.intro ?_ ?_) | intro _)
    all_goals try omega
    all_goals exact q
set_option maxRecDepth 100000 in
set_option maxHeartbeats 1000000 in
theorem kx_hs_l (hk : 18 ≤ k) (hn6 : P1 2 6 ≤ 99999) (hkd : kd = 0 ∨ kd = 2) {n : Nat} (hn : (n : Int) < P1 2 1) (W1 : WF P1) (hU2 : 0 ≤ U.2) {s0 : Pt × Int} (h0 : GI P1 n s0) {on ow : Int} {l5 : Option AV}
    (q : ∀ (σ' : Mem), MR σ' (iter (sgP U kd (nrP P1 (P1 9 n)) n) (P1 2 0 - 1).toNat s0).1 → same SH σ σ' → Q (some (vi (iter (sgP U kd (nrP P1 (P1 9 n)) n) (P1 2 0 - 1).toNat s0).2)) σ') :
    ∀ (m : Nat) (j b : Int) (σ' : Mem) (l10 : Option AV), 0 ≤ j → j ≤ P1 2 0 - 1 → P1 2 0 - 1 < j + m → RuX G w 6 r U σ' → MR σ' (iter (sgP U kd (nrP P1 (P1 9 n)) n) j.toNat s0).1 → (∀ x : Int, 0 ≤ x → x < P1 2 0 → (σ' 21 63 0 x.toNat = 0 ↔ ¬ askP P1 (P1 9 n) j.toNat x)) → NB P1 (P1 9 n) (askP P1 (P1 9 n) j.toNat) (P1 2 0) b → same SH σ σ' → TT G w w w k (0, 0) 191 153 [some (vr 21 0 0), some (vi r), some (vi kd), some (vi n), some (vi (P1 9 n)), l5, some (vi ow), some (vi (iter (sgP U kd (nrP P1 (P1 9 n)) n) j.toNat s0).2), some (vi on), some (vi b), l10] [] σ' Q
  | 0, j, b, σ', l10, h1, h2, h3, _, _, _, _, _ => by omega
  | m + 1, j, b, σ', l10, h1, h2, h3, hX, M, ha, hb, hs => by
    have ih := kx_hs_l hk hn6 hkd hn W1 hU2 h0 q (m := m) (j := j + 1) (l5 := l5) (on := on) (ow := ow)
    rw [iter_toNat _ h1] at ih
    have hh := (W1.nd hn).1
    have hnr : ∀ j : Nat, (j : Int) < P1 2 0 - 1 → 0 ≤ nrP P1 (P1 9 n) j ∧ nrP P1 (P1 9 n) j < P1 2 0 ∧ nrP P1 (P1 9 n) j ≠ P1 9 n := fun j hj => nr_r W1 hh hj
    have gi : GI P1 n (iter (sgP U kd (nrP P1 (P1 9 n)) n) j.toNat s0) := iter_inv (I := fun _ s => GI P1 n s) h0 (fun i b hi hb => sg_step hU2 hn (hnr i (by omega)) hb)
    have stay := sg_stay (U := U) (kd := kd) (nr := nrP P1 (P1 9 n)) (n := n) (s := iter (sgP U kd (nrP P1 (P1 9 n)) n) j.toNat s0) (i := j.toNat)
    have hst : sgP U kd (nrP P1 (P1 9 n)) n j.toNat (iter (sgP U kd (nrP P1 (P1 9 n)) n) j.toNat s0) = if 0 < (iter (sgP U kd (nrP P1 (P1 9 n)) n) j.toNat s0).2 then (gstP kd (iter (sgP U kd (nrP P1 (P1 9 n)) n) j.toNat s0).1 n (nrP P1 (P1 9 n) j.toNat) (gftP U kd (iter (sgP U kd (nrP P1 (P1 9 n)) n) j.toNat s0).1 n (nrP P1 (P1 9 n) j.toNat) (iter (sgP U kd (nrP P1 (P1 9 n)) n) j.toNat s0).2), (iter (sgP U kd (nrP P1 (P1 9 n)) n) j.toNat s0).2 - gftP U kd (iter (sgP U kd (nrP P1 (P1 9 n)) n) j.toNat s0).1 n (nrP P1 (P1 9 n) j.toNat) (iter (sgP U kd (nrP P1 (P1 9 n)) n) j.toNat s0).2) else iter (sgP U kd (nrP P1 (P1 9 n)) n) j.toNat s0 := rfl
    have ex : (j = P1 2 0 - 1 ∨ ¬ 0 < (iter (sgP U kd (nrP P1 (P1 9 n)) n) j.toNat s0).2) → iter (sgP U kd (nrP P1 (P1 9 n)) n) (P1 2 0 - 1).toNat s0 = iter (sgP U kd (nrP P1 (P1 9 n)) n) j.toNat s0 := fun z => by
      rcases z with z | z
      · rw [z]
      · have := stay z ((P1 2 0 - 1).toNat - j.toNat) s0 rfl
        rw [show j.toNat + ((P1 2 0 - 1).toNat - j.toNat) = (P1 2 0 - 1).toNat by omega] at this
        exact this
    have w1 := W1.sc.1
    have w2 := W1.sc.2.1
    have bj : j < P1 2 0 - 1 → b = nrP P1 (P1 9 n) j.toNat := fun z => NB_uniq hb (NB_nr W1 hh (by omega))
    have bz : ¬ j < P1 2 0 - 1 → b = -1 := fun z => NB_uniq hb (NB_end W1 hh (by omega))
    revert ih M gi hst ex
    clear stay
    generalize iter (sgP U kd (nrP P1 (P1 9 n)) n) j.toNat s0 = s
    intro M ih gi hst ex
    obtain ⟨⟨W, kf⟩, N, cells, l0, l9⟩ := gi
    have f0 := kf 2 0 (by decide) (by decide) (by decide) (by decide)
    have f1 := kf 2 1 (by decide) (by decide) (by decide) (by decide)
    have f6 := kf 2 6 (by decide) (by decide) (by decide) (by decide)
    have f9 := kf 9 n (by decide) (by decide) (by decide) (by decide)
    have fex : (j = P1 2 0 - 1 ∨ ¬ 0 < s.2) → Q (some (vi s.2)) σ' := fun z => by
      have := q σ' (by rw [ex z]; exact M) hs
      rw [ex z] at this
      exact this
    by_cases hj : j < P1 2 0 - 1
    · have eb := bj hj
      obtain ⟨o1, o2, o3⟩ := hnr j.toNat (by omega)
      rw [← eb] at o1 o2 o3
      have bne : ¬ b = -1 := by omega
      by_cases hl : 0 < s.2
      · rw [if_pos hl] at hst
        rw [hst, ← eb] at ih
        obtain ⟨d1, d2, d3, d4, d5, d6, d7⟩ := W.nd (n := n) (by omega)
        have gr := gft_r (U := U) (kd := kd) W hU2 (n := n) (by omega) (o := b) (lack := s.2) (by omega) hl
        have sb := W.st (n := (6 * b + s.1 10 n).toNat) (by omega)
        have fin : ∀ (σ2 : Mem) (v : Int) (l10 : Option AV), v = gftP U kd s.1 n b s.2 → (∀ f i, 2 ≤ f → f ≤ 38 → f ≠ 26 → σ2 21 f 0 i = s.1 f i) → MR (up (up σ2 21 8 0 (6 * b + s.1 10 n).toNat (s.1 8 (6 * b + s.1 10 n).toNat - v)) 21 38 0 (12 * b + s.1 9 n).toNat (w64 (s.1 38 (12 * b + s.1 9 n).toNat + v))) (gstP kd s.1 n b v) → RuX G w 6 r U σ2 → same SH (up σ' 21 63 0 b.toNat 0) σ2 → (∀ x, σ2 21 63 0 x = up σ' 21 63 0 b.toNat 0 21 63 0 x) → TT G w w w k (0, 0) 191 183 [some (vr 21 0 0), some (vi r), some (vi kd), some (vi n), some (vi (P1 9 n)), l5, some (vi ow), some (vi s.2), some (vi on), some (vi b), l10] [vi v] σ2 Q := fun σ2 v l10 hv hm Mf hX2 hs2 h63 => by
          rw [← hv] at gr ih
          have kq : KQ P1 (gstP kd s.1 n b v) := by
            have z := sg_step (U := U) (kd := kd) hU2 hn (nr := nrP P1 (P1 9 n)) (j := j.toNat) (hnr j.toNat (by omega)) (s := s) ⟨⟨W, kf⟩, N, cells, l0, l9⟩
            rw [hst, ← eb, ← hv] at z
            exact z.1
          have g0 := kq.2 2 0 (by decide) (by decide) (by decide) (by decide)
          refine TT_vb ok191 (sm3_ok G w) 60 [153, 244] ?_
          simp -implicitDefEqProofs only [↓b191_0, ↓b191_38, ↓b191_48, ↓b191_54, ↓b191_84, ↓b191_88, ↓b191_98, ↓b191_102, ↓b191_103, ↓b191_108, ↓b191_115, ↓b191_126, ↓b191_133, ↓b191_137, ↓b191_138, ↓b191_145, ↓b191_151, ↓b191_153, ↓b191_159, ↓b191_164, ↓b191_183, ↓b191_239, ↓b191_244, b191_0, b191_38, b191_48, b191_54, b191_84, b191_88, b191_98, b191_102, b191_103, b191_108, b191_115, b191_126, b191_133, b191_137, b191_138, b191_145, b191_151, b191_153, b191_159, b191_164, b191_183, b191_239, b191_244, nLE3, layE8, hm, up_rd, n3_190, n3_189, I32, ↓xb, xb, ps, lpad, lat, aok2, rd2, aaok, aav, alok, alen, aok, akk, csum, isLg, cmpI, clsE, Option.elim, eq_self, List.mem_cons, List.not_mem_nil, or_false, false_or, List.append_nil, List.nil_append, List.cons_append, List.append_eq, List.replicate, List.length_cons, List.length_nil, List.map_cons, List.map_nil, ↓reduceIte, reduceCtorEq, if_true, if_false, true_and, and_true, false_and, and_false, and_self, not_true_eq_false, not_false_eq_true, forall_const, true_implies, false_implies, implies_true, Nat.reduceAdd, Nat.reduceSub, Nat.reduceLT, Nat.reduceLeDiff, Nat.reduceEqDiff, Nat.reduceMul, Nat.reducePow, Nat.add_one_ne_zero, Nat.add_one_sub_one, Nat.add_zero, Nat.zero_add, Int.reduceLT, Int.reduceLE, Int.reduceNeg, Int.reduceAdd, Int.reduceSub, Int.reduceToNat, Int.reduceEq, Int.reduceMul, Int.reducePow, Int.cast_ofNat_Int, Int.toNat_natCast, ne_eq, Bool.false_eq_true, true_or, or_true, or_self, Nat.not_lt_zero, ite_e0, ite_e1, lc_lt, lc_ge, lc_gt, lc_le, lc_eq, Classical.not_not]
          with_reducible repeat' (first | (refine And.intro ?_ ?_) | intro _)
          all_goals try omega
          have asks : ∀ x : Int, 0 ≤ x → x < P1 2 0 → (up (up σ2 21 8 0 (6 * b + s.1 10 n).toNat (s.1 8 (6 * b + s.1 10 n).toNat - v)) 21 38 0 (12 * b + P1 9 n).toNat (w64 (s.1 38 (12 * b + P1 9 n).toNat + v)) 21 63 0 x.toNat = 0 ↔ ¬ askP P1 (P1 9 n) (j.toNat + 1) x) := fun x x0 x1 => by
            rw [upp_nf (by decide), upp_nf (by decide), h63, ask_s, ← eb]
            by_cases e : x = b
            · subst e
              rw [upp_eq]
              exact ⟨fun _ z => z.2 rfl, fun _ => rfl⟩
            · rw [upp_nc (by omega), ha x x0 x1]
              exact ⟨fun z y => z y.1, fun z y => z ⟨y, fun e' => e e'.symm⟩⟩
          rw [f9] at Mf
          have ej : (j + 1).toNat = j.toNat + 1 := by omega
          refine kx_near Mf kq.1 (by omega) (by omega) (fun x x0 x1 => asks x x0 (by omega)) (fun b2 hb2 => ?_)
          rw [g0] at hb2
          have hb3 := NB_ext kq hb2
          simp -implicitDefEqProofs only [↓b191_0, ↓b191_38, ↓b191_48, ↓b191_54, ↓b191_84, ↓b191_88, ↓b191_98, ↓b191_102, ↓b191_103, ↓b191_108, ↓b191_115, ↓b191_126, ↓b191_133, ↓b191_137, ↓b191_138, ↓b191_145, ↓b191_151, ↓b191_153, ↓b191_159, ↓b191_164, ↓b191_183, ↓b191_239, ↓b191_244, b191_0, b191_38, b191_48, b191_54, b191_84, b191_88, b191_98, b191_102, b191_103, b191_108, b191_115, b191_126, b191_133, b191_137, b191_138, b191_145, b191_151, b191_153, b191_159, b191_164, b191_183, b191_239, b191_244, nLE3, layE8, hk, n3_190, n3_189, I32, ↓xb, xb, ps, lpad, lat, aok2, rd2, aaok, aav, alok, alen, aok, akk, csum, isLg, cmpI, clsE, Option.elim, eq_self, List.mem_cons, List.not_mem_nil, or_false, false_or, List.append_nil, List.nil_append, List.cons_append, List.append_eq, List.replicate, List.length_cons, List.length_nil, List.map_cons, List.map_nil, ↓reduceIte, reduceCtorEq, if_true, if_false, true_and, and_true, false_and, and_false, and_self, not_true_eq_false, not_false_eq_true, forall_const, true_implies, false_implies, implies_true, Nat.reduceAdd, Nat.reduceSub, Nat.reduceLT, Nat.reduceLeDiff, Nat.reduceEqDiff, Nat.reduceMul, Nat.reducePow, Nat.add_one_ne_zero, Nat.add_one_sub_one, Nat.add_zero, Nat.zero_add, Int.reduceLT, Int.reduceLE, Int.reduceNeg, Int.reduceAdd, Int.reduceSub, Int.reduceToNat, Int.reduceEq, Int.reduceMul, Int.reducePow, Int.cast_ofNat_Int, Int.toNat_natCast, ne_eq, Bool.false_eq_true, true_or, or_true, or_self, Nat.not_lt_zero, ite_e0, ite_e1, lc_lt, lc_ge, lc_gt, lc_le, lc_eq, Classical.not_not]
          with_reducible repeat' (first | (refine And.intro ?_ ?_) | intro _)
          all_goals try omega
          refine ih b2 _ _ (by omega) (by omega) (by omega) (hX2.keep (fun f a b r c => by rw [upp_nf (by omega), upp_nf (by omega)])) Mf (fun x x0 x1 => ?_) ?_ (((hs.put rfl).trans hs2).put rfl |>.put rfl)
          · rw [ej]; exact asks x x0 x1
          · rw [ej]; exact hb3
        have M0 : MR (up σ' 21 63 0 b.toNat 0) s.1 := M.put2 (by omega)
        have hX0 : RuX G w 6 r U (up σ' 21 63 0 b.toNat 0) := hX.keep (fun f a b r c => upp_nf (by omega))
        refine TT_vb ok191 (sm3_ok G w) 60 [153, 183, 244] ?_
        simp -implicitDefEqProofs only [↓b191_0, ↓b191_38, ↓b191_48, ↓b191_54, ↓b191_84, ↓b191_88, ↓b191_98, ↓b191_102, ↓b191_103, ↓b191_108, ↓b191_115, ↓b191_126, ↓b191_133, ↓b191_137, ↓b191_138, ↓b191_145, ↓b191_151, ↓b191_153, ↓b191_159, ↓b191_164, ↓b191_183, ↓b191_239, ↓b191_244, b191_0, b191_38, b191_48, b191_54, b191_84, b191_88, b191_98, b191_102, b191_103, b191_108, b191_115, b191_126, b191_133, b191_137, b191_138, b191_145, b191_151, b191_153, b191_159, b191_164, b191_183, b191_239, b191_244, nLE3, layE8, bne, n3_190, n3_189, I32, ↓xb, xb, ps, lpad, lat, aok2, rd2, aaok, aav, alok, alen, aok, akk, csum, isLg, cmpI, clsE, Option.elim, eq_self, List.mem_cons, List.not_mem_nil, or_false, false_or, List.append_nil, List.nil_append, List.cons_append, List.append_eq, List.replicate, List.length_cons, List.length_nil, List.map_cons, List.map_nil, ↓reduceIte, reduceCtorEq, if_true, if_false, true_and, and_true, false_and, and_false, and_self, not_true_eq_false, not_false_eq_true, forall_const, true_implies, false_implies, implies_true, Nat.reduceAdd, Nat.reduceSub, Nat.reduceLT, Nat.reduceLeDiff, Nat.reduceEqDiff, Nat.reduceMul, Nat.reducePow, Nat.add_one_ne_zero, Nat.add_one_sub_one, Nat.add_zero, Nat.zero_add, Int.reduceLT, Int.reduceLE, Int.reduceNeg, Int.reduceAdd, Int.reduceSub, Int.reduceToNat, Int.reduceEq, Int.reduceMul, Int.reducePow, Int.cast_ofNat_Int, Int.toNat_natCast, ne_eq, Bool.false_eq_true, true_or, or_true, or_self, Nat.not_lt_zero, ite_e0, ite_e1, lc_lt, lc_ge, lc_gt, lc_le, lc_eq, Classical.not_not]
        with_reducible repeat' (first | (refine And.intro ?_ ?_) | intro _)
        all_goals try omega
        rcases hkd with k0 | k2
        · have kn : ¬ kd = 2 := by omega
          have eg : gftP U kd s.1 n b s.2 = giP U s.1 n b s.2 := if_neg kn
          have et : ∀ v, gstP kd s.1 n b v = gvP s.1 n b v := fun v => if_neg kn
          refine kx_gives0 M0 W hX0 (by omega) (by omega) kn (n := n) (by omega) (by omega) (by omega) (fun σ2 M2 hs2 => ?_)
          refine fin σ2 _ _ eg.symm (fun f i a b c => (M2 f i a b).trans (gc_ne c)) ?_ (hX0.sx (same_sh (same_g hs2))) (same_g hs2) (fun x => hs2 21 63 rfl 0 x)
          rw [et, ← gc_gv]
          exact M2.put.put
        · have eg : gftP U kd s.1 n b s.2 = min s.2 (s.1 8 (6 * b + s.1 10 n).toNat) := if_pos k2
          have et : ∀ v, gstP kd s.1 n b v = pu (pu s.1 8 (6 * b + s.1 10 n).toNat (s.1 8 (6 * b + s.1 10 n).toNat - v)) 38 (12 * b + s.1 9 n).toNat (w64 (s.1 38 (12 * b + s.1 9 n).toNat + v)) := fun v => if_pos k2
          rw [k2]
          refine kx_gives2 M0 W (by omega) (n := n) (by omega) (by omega) ?_
          rw [k2] at fin eg et
          refine fin _ _ _ eg.symm (fun f i a b _ => M0 f i a b) ?_ hX0 same.refl (fun x => rfl)
          rw [et]
          exact M0.put.put
      · refine TT_vb ok191 (sm3_ok G w) 60 [153, 183, 244] ?_
        simp -implicitDefEqProofs only [↓b191_0, ↓b191_38, ↓b191_48, ↓b191_54, ↓b191_84, ↓b191_88, ↓b191_98, ↓b191_102, ↓b191_103, ↓b191_108, ↓b191_115, ↓b191_126, ↓b191_133, ↓b191_137, ↓b191_138, ↓b191_145, ↓b191_151, ↓b191_153, ↓b191_159, ↓b191_164, ↓b191_183, ↓b191_239, ↓b191_244, b191_0, b191_38, b191_48, b191_54, b191_84, b191_88, b191_98, b191_102, b191_103, b191_108, b191_115, b191_126, b191_133, b191_137, b191_138, b191_145, b191_151, b191_153, b191_159, b191_164, b191_183, b191_239, b191_244, nLE3, layE8, bne, n3_190, n3_189, I32, ↓xb, xb, ps, lpad, lat, aok2, rd2, aaok, aav, alok, alen, aok, akk, csum, isLg, cmpI, clsE, Option.elim, eq_self, List.mem_cons, List.not_mem_nil, or_false, false_or, List.append_nil, List.nil_append, List.cons_append, List.append_eq, List.replicate, List.length_cons, List.length_nil, List.map_cons, List.map_nil, ↓reduceIte, reduceCtorEq, if_true, if_false, true_and, and_true, false_and, and_false, and_self, not_true_eq_false, not_false_eq_true, forall_const, true_implies, false_implies, implies_true, Nat.reduceAdd, Nat.reduceSub, Nat.reduceLT, Nat.reduceLeDiff, Nat.reduceEqDiff, Nat.reduceMul, Nat.reducePow, Nat.add_one_ne_zero, Nat.add_one_sub_one, Nat.add_zero, Nat.zero_add, Int.reduceLT, Int.reduceLE, Int.reduceNeg, Int.reduceAdd, Int.reduceSub, Int.reduceToNat, Int.reduceEq, Int.reduceMul, Int.reducePow, Int.cast_ofNat_Int, Int.toNat_natCast, ne_eq, Bool.false_eq_true, true_or, or_true, or_self, Nat.not_lt_zero, ite_e0, ite_e1, lc_lt, lc_ge, lc_gt, lc_le, lc_eq, Classical.not_not]
        with_reducible repeat' (first | (refine And.intro ?_ ?_) | intro _)
        all_goals try omega
        refine TT_vb ok191 (sm3_ok G w) 60 [] ?_
        simp -implicitDefEqProofs only [↓b191_0, ↓b191_38, ↓b191_48, ↓b191_54, ↓b191_84, ↓b191_88, ↓b191_98, ↓b191_102, ↓b191_103, ↓b191_108, ↓b191_115, ↓b191_126, ↓b191_133, ↓b191_137, ↓b191_138, ↓b191_145, ↓b191_151, ↓b191_153, ↓b191_159, ↓b191_164, ↓b191_183, ↓b191_239, ↓b191_244, b191_0, b191_38, b191_48, b191_54, b191_84, b191_88, b191_98, b191_102, b191_103, b191_108, b191_115, b191_126, b191_133, b191_137, b191_138, b191_145, b191_151, b191_153, b191_159, b191_164, b191_183, b191_239, b191_244, nLE3, layE8, hk, n3_190, n3_189, I32, ↓xb, xb, ps, lpad, lat, aok2, rd2, aaok, aav, alok, alen, aok, akk, csum, isLg, cmpI, clsE, Option.elim, eq_self, List.mem_cons, List.not_mem_nil, or_false, false_or, List.append_nil, List.nil_append, List.cons_append, List.append_eq, List.replicate, List.length_cons, List.length_nil, List.map_cons, List.map_nil, ↓reduceIte, reduceCtorEq, if_true, if_false, true_and, and_true, false_and, and_false, and_self, not_true_eq_false, not_false_eq_true, forall_const, true_implies, false_implies, implies_true, Nat.reduceAdd, Nat.reduceSub, Nat.reduceLT, Nat.reduceLeDiff, Nat.reduceEqDiff, Nat.reduceMul, Nat.reducePow, Nat.add_one_ne_zero, Nat.add_one_sub_one, Nat.add_zero, Nat.zero_add, Int.reduceLT, Int.reduceLE, Int.reduceNeg, Int.reduceAdd, Int.reduceSub, Int.reduceToNat, Int.reduceEq, Int.reduceMul, Int.reducePow, Int.cast_ofNat_Int, Int.toNat_natCast, ne_eq, Bool.false_eq_true, true_or, or_true, or_self, Nat.not_lt_zero, ite_e0, ite_e1, lc_lt, lc_ge, lc_gt, lc_le, lc_eq, Classical.not_not]
        with_reducible repeat' (first | (refine And.intro ?_ ?_) | intro _)
        all_goals try omega
        exact fex (Or.inr hl)
    · have eb := bz hj
      refine TT_vb ok191 (sm3_ok G w) 60 [153, 183, 244] ?_
      simp -implicitDefEqProofs only [↓b191_0, ↓b191_38, ↓b191_48, ↓b191_54, ↓b191_84, ↓b191_88, ↓b191_98, ↓b191_102, ↓b191_103, ↓b191_108, ↓b191_115, ↓b191_126, ↓b191_133, ↓b191_137, ↓b191_138, ↓b191_145, ↓b191_151, ↓b191_153, ↓b191_159, ↓b191_164, ↓b191_183, ↓b191_239, ↓b191_244, b191_0, b191_38, b191_48, b191_54, b191_84, b191_88, b191_98, b191_102, b191_103, b191_108, b191_115, b191_126, b191_133, b191_137, b191_138, b191_145, b191_151, b191_153, b191_159, b191_164, b191_183, b191_239, b191_244, nLE3, layE8, eb, n3_190, n3_189, I32, ↓xb, xb, ps, lpad, lat, aok2, rd2, aaok, aav, alok, alen, aok, akk, csum, isLg, cmpI, clsE, Option.elim, eq_self, List.mem_cons, List.not_mem_nil, or_false, false_or, List.append_nil, List.nil_append, List.cons_append, List.append_eq, List.replicate, List.length_cons, List.length_nil, List.map_cons, List.map_nil, ↓reduceIte, reduceCtorEq, if_true, if_false, true_and, and_true, false_and, and_false, and_self, not_true_eq_false, not_false_eq_true, forall_const, true_implies, false_implies, implies_true, Nat.reduceAdd, Nat.reduceSub, Nat.reduceLT, Nat.reduceLeDiff, Nat.reduceEqDiff, Nat.reduceMul, Nat.reducePow, Nat.add_one_ne_zero, Nat.add_one_sub_one, Nat.add_zero, Nat.zero_add, Int.reduceLT, Int.reduceLE, Int.reduceNeg, Int.reduceAdd, Int.reduceSub, Int.reduceToNat, Int.reduceEq, Int.reduceMul, Int.reducePow, Int.cast_ofNat_Int, Int.toNat_natCast, ne_eq, Bool.false_eq_true, true_or, or_true, or_self, Nat.not_lt_zero, ite_e0, ite_e1, lc_lt, lc_ge, lc_gt, lc_le, lc_eq, Classical.not_not]
      with_reducible repeat' (first | (refine And.intro ?_ ?_) | intro _)
      all_goals try omega
      refine TT_vb ok191 (sm3_ok G w) 60 [] ?_
      simp -implicitDefEqProofs only [↓b191_0, ↓b191_38, ↓b191_48, ↓b191_54, ↓b191_84, ↓b191_88, ↓b191_98, ↓b191_102, ↓b191_103, ↓b191_108, ↓b191_115, ↓b191_126, ↓b191_133, ↓b191_137, ↓b191_138, ↓b191_145, ↓b191_151, ↓b191_153, ↓b191_159, ↓b191_164, ↓b191_183, ↓b191_239, ↓b191_244, b191_0, b191_38, b191_48, b191_54, b191_84, b191_88, b191_98, b191_102, b191_103, b191_108, b191_115, b191_126, b191_133, b191_137, b191_138, b191_145, b191_151, b191_153, b191_159, b191_164, b191_183, b191_239, b191_244, nLE3, layE8, hk, n3_190, n3_189, I32, ↓xb, xb, ps, lpad, lat, aok2, rd2, aaok, aav, alok, alen, aok, akk, csum, isLg, cmpI, clsE, Option.elim, eq_self, List.mem_cons, List.not_mem_nil, or_false, false_or, List.append_nil, List.nil_append, List.cons_append, List.append_eq, List.replicate, List.length_cons, List.length_nil, List.map_cons, List.map_nil, ↓reduceIte, reduceCtorEq, if_true, if_false, true_and, and_true, false_and, and_false, and_self, not_true_eq_false, not_false_eq_true, forall_const, true_implies, false_implies, implies_true, Nat.reduceAdd, Nat.reduceSub, Nat.reduceLT, Nat.reduceLeDiff, Nat.reduceEqDiff, Nat.reduceMul, Nat.reducePow, Nat.add_one_ne_zero, Nat.add_one_sub_one, Nat.add_zero, Nat.zero_add, Int.reduceLT, Int.reduceLE, Int.reduceNeg, Int.reduceAdd, Int.reduceSub, Int.reduceToNat, Int.reduceEq, Int.reduceMul, Int.reducePow, Int.cast_ofNat_Int, Int.toNat_natCast, ne_eq, Bool.false_eq_true, true_or, or_true, or_self, Nat.not_lt_zero, ite_e0, ite_e1, lc_lt, lc_ge, lc_gt, lc_le, lc_eq, Classical.not_not]
      with_reducible repeat' (first | (refine And.intro ?_ ?_) | intro _)
      all_goals try omega
      exact fex (Or.inl (by omega))
set_option maxRecDepth 100000 in
set_option maxHeartbeats 1000000 in
theorem kx_has (M : MR σ P) (W : WF P) (N : N38 P) (hX : RuX G w 6 r U σ) (hk : 20 ≤ k) (hn6 : P 2 6 ≤ 99999) (hkd : 0 ≤ kd ∧ kd ≤ 2) {n : Nat} (hn : (n : Int) < P 2 1)
    (q : ∀ σ', MR σ' (svG U kd (nrP P (P 9 n)) n P).1 → same SH σ σ' → Q (some (vi (svG U kd (nrP P (P 9 n)) n P).2)) σ') : CC G w w k (0, 0) 191 [vr 21 0 0, vi r, vi kd, vi n] σ Q := by
  have w1 := W.sc.1; have w2 := W.sc.2.1
  obtain ⟨d1, d2, d3, d4, d5, d6, d7⟩ := W.nd (n := n) hn
  have hM : ∀ f i, 2 ≤ f → f ≤ 38 → σ 21 f 0 i = P f i := M
  have sb := W.st (n := (6 * P 9 n + P 10 n).toNat) (by omega)
  have so : svO P n = min (P 11 n) (P 8 (6 * P 9 n + P 10 n).toNat) := rfl
  have k1 : KQ P (pu P 8 (6 * P 9 n + P 10 n).toNat (P 8 (6 * P 9 n + P 10 n).toNat - svO P n)) := (KQ.refl W).put8 (by omega)
  have g0 : GI (pu P 8 (6 * P 9 n + P 10 n).toNat (P 8 (6 * P 9 n + P 10 n).toNat - svO P n)) n (pu P 8 (6 * P 9 n + P 10 n).toNat (P 8 (6 * P 9 n + P 10 n).toNat - svO P n), P 11 n - svO P n) := ⟨KQ.refl k1.1, N.keep (by decide), fun _ _ _ => rfl, by show 0 ≤ P 11 n - svO P n; omega, by show P 11 n - svO P n ≤ 999; omega⟩
  have enr : nrP (pu P 8 (6 * P 9 n + P 10 n).toNat (P 8 (6 * P 9 n + P 10 n).toNat - svO P n)) (P 9 n) = nrP P (P 9 n) := nrP_ext k1
  have M1 : MR (up σ 21 8 0 (6 * P 9 n + P 10 n).toNat (P 8 (6 * P 9 n + P 10 n).toNat - svO P n)) (pu P 8 (6 * P 9 n + P 10 n).toNat (P 8 (6 * P 9 n + P 10 n).toNat - svO P n)) := M.put
  have hX1 : RuX G w 6 r U (up σ 21 8 0 (6 * P 9 n + P 10 n).toNat (P 8 (6 * P 9 n + P 10 n).toNat - svO P n)) := hX.keep (fun f a b r c => upp_nf (by omega))
  have s1 : same SH σ (up σ 21 8 0 (6 * P 9 n + P 10 n).toNat (P 8 (6 * P 9 n + P 10 n).toNat - svO P n)) := same.refl.put rfl
  have go : ∀ (on ow : Int) (l5 : Option AV), (on = if kd = 2 ∨ (kd = 0 ∧ P 15 n = 1) then 1 else 0) → TT G w w w k (0, 0) 191 108 [some (vr 21 0 0), some (vi r), some (vi kd), some (vi n), some (vi (P 9 n)), l5, some (vi ow), some (vi (P 11 n - svO P n)), some (vi on), some (vi 0), none] [] (up σ 21 8 0 (6 * P 9 n + P 10 n).toNat (P 8 (6 * P 9 n + P 10 n).toNat - svO P n)) Q := fun on ow l5 hon => by
    have o01 : on = 0 ∨ on = 1 := by rw [hon]; split <;> omega
    refine kx_hs_f (σ := up σ 21 8 0 (6 * P 9 n + P 10 n).toNat (P 8 (6 * P 9 n + P 10 n).toNat - svO P n)) (by omega) o01 (fun σ2 hx hs2 => ?_) 13 0 _ (by omega) (by omega) (by omega) (fun x a b => by omega) same.refl
    have M2 := M1.same63 hs2
    have hX2 := hX1.sx (same_sh (same_63 hs2))
    by_cases c : kd = 2 ∨ (kd = 0 ∧ P 15 n = 1)
    · have eo : on = 1 := by rw [hon, if_pos c]
      have sg : svG U kd (nrP P (P 9 n)) n P = iter (sgP U kd (nrP P (P 9 n)) n) (P 2 0 - 1).toNat (pu P 8 (6 * P 9 n + P 10 n).toNat (P 8 (6 * P 9 n + P 10 n).toNat - svO P n), P 11 n - svO P n) := if_pos c
      have hx0 : ∀ x : Int, 0 ≤ x → x < P 2 0 → (σ2 21 63 0 x.toNat = 0 ↔ ¬ askP (pu P 8 (6 * P 9 n + P 10 n).toNat (P 8 (6 * P 9 n + P 10 n).toNat - svO P n)) (P 9 n) 0 x) := fun x x0 x1 => by
        rw [hx x x0 (by omega), eo]
        exact ⟨fun z y => z ⟨rfl, y.1⟩, fun z y => z ⟨y.2, fun c hc => by omega⟩⟩
      refine TT_vb ok191 (sm3_ok G w) 60 [153] ?_
      simp -implicitDefEqProofs only [↓b191_0, ↓b191_38, ↓b191_48, ↓b191_54, ↓b191_84, ↓b191_88, ↓b191_98, ↓b191_102, ↓b191_103, ↓b191_108, ↓b191_115, ↓b191_126, ↓b191_133, ↓b191_137, ↓b191_138, ↓b191_145, ↓b191_151, ↓b191_153, ↓b191_159, ↓b191_164, ↓b191_183, ↓b191_239, ↓b191_244, b191_0, b191_38, b191_48, b191_54, b191_84, b191_88, b191_98, b191_102, b191_103, b191_108, b191_115, b191_126, b191_133, b191_137, b191_138, b191_145, b191_151, b191_153, b191_159, b191_164, b191_183, b191_239, b191_244, nLE3, layE8, hk, n3_190, n3_189, I32, ↓xb, xb, ps, lpad, lat, aok2, rd2, aaok, aav, alok, alen, aok, akk, csum, isLg, cmpI, clsE, Option.elim, eq_self, List.mem_cons, List.not_mem_nil, or_false, false_or, List.append_nil, List.nil_append, List.cons_append, List.append_eq, List.replicate, List.length_cons, List.length_nil, List.map_cons, List.map_nil, ↓reduceIte, reduceCtorEq, if_true, if_false, true_and, and_true, false_and, and_false, and_self, not_true_eq_false, not_false_eq_true, forall_const, true_implies, false_implies, implies_true, Nat.reduceAdd, Nat.reduceSub, Nat.reduceLT, Nat.reduceLeDiff, Nat.reduceEqDiff, Nat.reduceMul, Nat.reducePow, Nat.add_one_ne_zero, Nat.add_one_sub_one, Nat.add_zero, Nat.zero_add, Int.reduceLT, Int.reduceLE, Int.reduceNeg, Int.reduceAdd, Int.reduceSub, Int.reduceToNat, Int.reduceEq, Int.reduceMul, Int.reducePow, Int.cast_ofNat_Int, Int.toNat_natCast, ne_eq, Bool.false_eq_true, true_or, or_true, or_self, Nat.not_lt_zero, ite_e0, ite_e1, lc_lt, lc_ge, lc_gt, lc_le, lc_eq, Classical.not_not]
      with_reducible repeat' (first | (refine And.intro ?_ ?_) | intro _)
      all_goals try omega
      refine kx_near M2 k1.1 (by omega) (show 0 ≤ P 9 n ∧ P 9 n < P 2 0 by omega) hx0 (fun b hb => ?_)
      simp -implicitDefEqProofs only [↓b191_0, ↓b191_38, ↓b191_48, ↓b191_54, ↓b191_84, ↓b191_88, ↓b191_98, ↓b191_102, ↓b191_103, ↓b191_108, ↓b191_115, ↓b191_126, ↓b191_133, ↓b191_137, ↓b191_138, ↓b191_145, ↓b191_151, ↓b191_153, ↓b191_159, ↓b191_164, ↓b191_183, ↓b191_239, ↓b191_244, b191_0, b191_38, b191_48, b191_54, b191_84, b191_88, b191_98, b191_102, b191_103, b191_108, b191_115, b191_126, b191_133, b191_137, b191_138, b191_145, b191_151, b191_153, b191_159, b191_164, b191_183, b191_239, b191_244, nLE3, layE8, hk, n3_190, n3_189, I32, ↓xb, xb, ps, lpad, lat, aok2, rd2, aaok, aav, alok, alen, aok, akk, csum, isLg, cmpI, clsE, Option.elim, eq_self, List.mem_cons, List.not_mem_nil, or_false, false_or, List.append_nil, List.nil_append, List.cons_append, List.append_eq, List.replicate, List.length_cons, List.length_nil, List.map_cons, List.map_nil, ↓reduceIte, reduceCtorEq, if_true, if_false, true_and, and_true, false_and, and_false, and_self, not_true_eq_false, not_false_eq_true, forall_const, true_implies, false_implies, implies_true, Nat.reduceAdd, Nat.reduceSub, Nat.reduceLT, Nat.reduceLeDiff, Nat.reduceEqDiff, Nat.reduceMul, Nat.reducePow, Nat.add_one_ne_zero, Nat.add_one_sub_one, Nat.add_zero, Nat.zero_add, Int.reduceLT, Int.reduceLE, Int.reduceNeg, Int.reduceAdd, Int.reduceSub, Int.reduceToNat, Int.reduceEq, Int.reduceMul, Int.reducePow, Int.cast_ofNat_Int, Int.toNat_natCast, ne_eq, Bool.false_eq_true, true_or, or_true, or_self, Nat.not_lt_zero, ite_e0, ite_e1, lc_lt, lc_ge, lc_gt, lc_le, lc_eq, Classical.not_not]
      with_reducible repeat' (first | (refine And.intro ?_ ?_) | intro _)
      all_goals try omega
      refine kx_hs_l (σ := σ) (P1 := pu P 8 (6 * P 9 n + P 10 n).toNat (P 8 (6 * P 9 n + P 10 n).toNat - svO P n)) (by omega) hn6 (by omega) hn k1.1 hX.1.1 g0 (fun σ3 M3 s3 => ?_) 13 0 b σ2 _ (by omega) (show (0 : Int) ≤ P 2 0 - 1 by omega) (show P 2 0 - 1 < (0 : Int) + (13 : Nat) by omega) hX2 M2 hx0 hb (s1.trans (same_63 hs2))
      have := q σ3 (by
        rw [sg, ← enr]
        exact M3) s3
      rw [sg, ← enr] at this
      exact this
    · have eo : on = 0 := by rw [hon, if_neg c]
      have sg : svG U kd (nrP P (P 9 n)) n P = (pu P 8 (6 * P 9 n + P 10 n).toNat (P 8 (6 * P 9 n + P 10 n).toNat - svO P n), P 11 n - svO P n) := if_neg c
      rw [eo] at hx
      refine kx_hs_0 M2 k1.1 (by omega) (show 0 ≤ P 9 n ∧ P 9 n < P 2 0 by omega) hx ?_
      have := q σ2 (by rw [sg]; exact M2) (s1.trans (same_63 hs2))
      rw [sg] at this
      exact this
  have s1' : svO P n ≤ P 11 n ∧ svO P n ≤ P 8 (6 * P 9 n + P 10 n).toNat := by omega
  refine CC_vb ok191 (by decide) (sm3_ok G w) 60 [108] (Nat.le_of_ble_eq_true rfl) ?_
  by_cases c0 : P 11 n ≤ P 8 (6 * P 9 n + P 10 n).toNat
  · have e : svO P n = P 11 n := by omega
    rw [e] at go
    simp -implicitDefEqProofs only [↓b191_0, ↓b191_38, ↓b191_48, ↓b191_54, ↓b191_84, ↓b191_88, ↓b191_98, ↓b191_102, ↓b191_103, ↓b191_108, ↓b191_115, ↓b191_126, ↓b191_133, ↓b191_137, ↓b191_138, ↓b191_145, ↓b191_151, ↓b191_153, ↓b191_159, ↓b191_164, ↓b191_183, ↓b191_239, ↓b191_244, b191_0, b191_38, b191_48, b191_54, b191_84, b191_88, b191_98, b191_102, b191_103, b191_108, b191_115, b191_126, b191_133, b191_137, b191_138, b191_145, b191_151, b191_153, b191_159, b191_164, b191_183, b191_239, b191_244, nLE3, layE8, hM, up_rd, n3_190, n3_189, I32, ↓xb, xb, ps, lpad, lat, aok2, rd2, aaok, aav, alok, alen, aok, akk, csum, isLg, cmpI, clsE, Option.elim, eq_self, List.mem_cons, List.not_mem_nil, or_false, false_or, List.append_nil, List.nil_append, List.cons_append, List.append_eq, List.replicate, List.length_cons, List.length_nil, List.map_cons, List.map_nil, ↓reduceIte, reduceCtorEq, if_true, if_false, true_and, and_true, false_and, and_false, and_self, not_true_eq_false, not_false_eq_true, forall_const, true_implies, false_implies, implies_true, Nat.reduceAdd, Nat.reduceSub, Nat.reduceLT, Nat.reduceLeDiff, Nat.reduceEqDiff, Nat.reduceMul, Nat.reducePow, Nat.add_one_ne_zero, Nat.add_one_sub_one, Nat.add_zero, Nat.zero_add, Int.reduceLT, Int.reduceLE, Int.reduceNeg, Int.reduceAdd, Int.reduceSub, Int.reduceToNat, Int.reduceEq, Int.reduceMul, Int.reducePow, Int.cast_ofNat_Int, Int.toNat_natCast, ne_eq, Bool.false_eq_true, true_or, or_true, or_self, Nat.not_lt_zero, ite_e0, ite_e1, lc_lt, lc_ge, lc_gt, lc_le, lc_eq, Classical.not_not]
    with_reducible repeat' (first | (refine And.intro ?_ ?_) | intro _)
    all_goals try omega
    all_goals first | exact go _ _ _ (by rw [if_pos (by omega)]) | exact go _ _ _ (by rw [if_neg (by omega)])
  · have e : svO P n = P 8 (6 * P 9 n + P 10 n).toNat := by omega
    rw [e] at go
    simp -implicitDefEqProofs only [↓b191_0, ↓b191_38, ↓b191_48, ↓b191_54, ↓b191_84, ↓b191_88, ↓b191_98, ↓b191_102, ↓b191_103, ↓b191_108, ↓b191_115, ↓b191_126, ↓b191_133, ↓b191_137, ↓b191_138, ↓b191_145, ↓b191_151, ↓b191_153, ↓b191_159, ↓b191_164, ↓b191_183, ↓b191_239, ↓b191_244, b191_0, b191_38, b191_48, b191_54, b191_84, b191_88, b191_98, b191_102, b191_103, b191_108, b191_115, b191_126, b191_133, b191_137, b191_138, b191_145, b191_151, b191_153, b191_159, b191_164, b191_183, b191_239, b191_244, nLE3, layE8, hM, up_rd, n3_190, n3_189, I32, ↓xb, xb, ps, lpad, lat, aok2, rd2, aaok, aav, alok, alen, aok, akk, csum, isLg, cmpI, clsE, Option.elim, eq_self, List.mem_cons, List.not_mem_nil, or_false, false_or, List.append_nil, List.nil_append, List.cons_append, List.append_eq, List.replicate, List.length_cons, List.length_nil, List.map_cons, List.map_nil, ↓reduceIte, reduceCtorEq, if_true, if_false, true_and, and_true, false_and, and_false, and_self, not_true_eq_false, not_false_eq_true, forall_const, true_implies, false_implies, implies_true, Nat.reduceAdd, Nat.reduceSub, Nat.reduceLT, Nat.reduceLeDiff, Nat.reduceEqDiff, Nat.reduceMul, Nat.reducePow, Nat.add_one_ne_zero, Nat.add_one_sub_one, Nat.add_zero, Nat.zero_add, Int.reduceLT, Int.reduceLE, Int.reduceNeg, Int.reduceAdd, Int.reduceSub, Int.reduceToNat, Int.reduceEq, Int.reduceMul, Int.reducePow, Int.cast_ofNat_Int, Int.toNat_natCast, ne_eq, Bool.false_eq_true, true_or, or_true, or_self, Nat.not_lt_zero, ite_e0, ite_e1, lc_lt, lc_ge, lc_gt, lc_le, lc_eq, Classical.not_not]
    with_reducible repeat' (first | (refine And.intro ?_ ?_) | intro _)
    all_goals try omega
    all_goals first | exact go _ _ _ (by rw [if_pos (by omega)]) | exact go _ _ _ (by rw [if_neg (by omega)])
end HAS

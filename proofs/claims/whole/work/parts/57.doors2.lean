/-! 57.doors2: doors (class) -/
abbrev S9 : Nat → Nat → Bool := fun o _ => o == 9
theorem S9_1 {σ σ' : Mem} (hs : same S9 σ σ') : ∀ f r c, σ' 1 f r c = σ 1 f r c := fun f r c => hs 1 f rfl r c
theorem p2_12 {n : Int} (h : 0 ≤ n ∧ n ≤ 12) : (1 : Int) ≤ 2 ^ n.toNat ∧ (2 : Int) ^ n.toNat ≤ 4096 := by
  have : n = 0 ∨ n = 1 ∨ n = 2 ∨ n = 3 ∨ n = 4 ∨ n = 5 ∨ n = 6 ∨ n = 7 ∨ n = 8 ∨ n = 9 ∨ n = 10 ∨ n = 11 ∨ n = 12 := by omega
  rcases this with e | e | e | e | e | e | e | e | e | e | e | e | e <;> rw [e] <;> decide
section DR2
variable {G : Gl} {w : Wd} {k : Nat} {σ : Mem} {Q : Option AV → Mem → Prop} {P : Pt}
set_option maxRecDepth 100000 in
set_option maxHeartbeats 1000000 in
theorem kc_fill (R0 : RT True σ 1 P) (W : WF P) (hk : 8 ≤ k) {s v2 : Int} (hs0 : 0 ≤ s) (hs1 : s < 2 ^ (P 2 0).toNat) (h6 : (dlP s 12).2 ≤ 6)
    (q : ∀ (σ' : Mem) (l5 : Option AV), (∀ c, c < (dlP s 12).2 → σ' 9 2 0 c = (dlP s 12).1 c) → same S92 σ σ' → TT G w w w k (0, 0) 70 50 [some (vr 9 0 0), some (vr 1 0 0), some (vi v2), some (vi s), some (vi ((dlP s 12).2 : Nat)), l5, none, none] [] σ' Q) :
    ∀ (m : Nat) (h : Int) (σ' : Mem), 0 ≤ h → h ≤ P 2 0 → P 2 0 < h + m → (∀ c, c < (dlP s h.toNat).2 → σ' 9 2 0 c = (dlP s h.toNat).1 c) → same S92 σ σ' → TT G w w w k (0, 0) 70 6 [some (vr 9 0 0), some (vr 1 0 0), some (vi v2), some (vi s), some (vi ((dlP s h.toNat).2 : Nat)), some (vi h), none, none] [] σ' Q
  | 0, h, σ', h0, h1, h2, _, _ => by omega
  | m + 1, h, σ', h0, h1, h2, hc, hs => by
    have ih := kc_fill R0 W hk (v2 := v2) hs0 hs1 h6 q m (h + 1)
    have st : dlP s (h + 1).toNat = dlS s h.toNat (dlP s h.toNat) := by unfold dlP; exact iter_toNat _ h0 _
    rw [st] at ih
    have w1 := W.sc.1
    have R : RT True σ' 1 P := fun f j a b => (hs 1 _ rfl _ _).trans (R0 f j a b)
    have e0 := R.houses
    have eH : dlP s 12 = dlP s (P 2 0).toNat := by
      have := dl_hs hs0 hs1 (12 - (P 2 0).toNat)
      rw [show (P 2 0).toNat + (12 - (P 2 0).toNat) = 12 by omega] at this
      exact this
    have fu := dl_full (s := s) (h := h.toNat) ((P 2 0).toNat - h.toNat)
    rw [show h.toNat + ((P 2 0).toNat - h.toNat) = (P 2 0).toNat by omega, ← eH] at fu
    by_cases hi : h < P 2 0
    · by_cases m6 : (dlP s h.toNat).2 = 6
      · have e := fu.2 (by omega)
        rw [e] at q
        have m6' : ((6 : Int) ≤ ((dlP s h.toNat).2 : Nat)) := by omega
        refine TT_vb ok70 (sm3_ok G w) 60 [6, 50] ?_
        simp -implicitDefEqProofs only [↓b70_0, ↓b70_6, ↓b70_15, ↓b70_22, ↓b70_32, ↓b70_44, ↓b70_50, ↓b70_75, ↓b70_78, ↓b70_86, ↓b70_92, ↓b70_95, ↓b70_103, ↓b70_131, ↓b70_137, ↓b70_58, ↓b70_112, b70_0, b70_6, b70_15, b70_22, b70_32, b70_44, b70_50, b70_75, b70_78, b70_86, b70_92, b70_95, b70_103, b70_131, b70_137, b70_58, b70_112, nLE1, layE6, layE4, e0, m6', n3_72, n3_73, I32, ↓xb, xb, ps, lpad, lat, aok2, rd2, aaok, aav, alok, alen, aok, akk, csum, isLg, cmpI, clsE, Option.elim, eq_self, List.mem_cons, List.not_mem_nil, or_false, false_or, List.append_nil, List.nil_append, List.cons_append, List.append_eq, List.replicate, List.length_cons, List.length_nil, List.map_cons, List.map_nil, ↓reduceIte, reduceCtorEq, if_true, if_false, true_and, and_true, false_and, and_false, and_self, not_true_eq_false, not_false_eq_true, forall_const, true_implies, false_implies, implies_true, Nat.reduceAdd, Nat.reduceSub, Nat.reduceLT, Nat.reduceLeDiff, Nat.reduceEqDiff, Nat.reduceMul, Nat.reducePow, Nat.add_one_ne_zero, Nat.add_one_sub_one, Nat.add_zero, Nat.zero_add, Int.reduceLT, Int.reduceLE, Int.reduceNeg, Int.reduceAdd, Int.reduceSub, Int.reduceToNat, Int.reduceEq, Int.reduceMul, Int.reducePow, Int.cast_ofNat_Int, Int.toNat_natCast, ne_eq, Bool.false_eq_true, true_or, or_true, or_self, Nat.not_lt_zero, ite_e0, ite_e1, lc_lt, lc_ge, lc_gt, lc_le, lc_eq, Classical.not_not]
        with_reducible repeat' (first | (refine And.intro ?_ ?_) | intro _)
        all_goals try omega
        all_goals first | omega | exact q σ' _ hc hs
      · have m5 : ¬ ((6 : Int) ≤ ((dlP s h.toNat).2 : Nat)) := by omega
        by_cases hb : band (s / 2 ^ h.toNat) 1 = 1
        · rw [show dlS s h.toNat (dlP s h.toNat) = (upd1 (dlP s h.toNat).1 (dlP s h.toNat).2 h.toNat, (dlP s h.toNat).2 + 1) from if_pos hb] at ih
          refine TT_vb ok70 (sm3_ok G w) 60 [6, 50] ?_
          simp -implicitDefEqProofs only [↓b70_0, ↓b70_6, ↓b70_15, ↓b70_22, ↓b70_32, ↓b70_44, ↓b70_50, ↓b70_75, ↓b70_78, ↓b70_86, ↓b70_92, ↓b70_95, ↓b70_103, ↓b70_131, ↓b70_137, ↓b70_58, ↓b70_112, b70_0, b70_6, b70_15, b70_22, b70_32, b70_44, b70_50, b70_75, b70_78, b70_86, b70_92, b70_95, b70_103, b70_131, b70_137, b70_58, b70_112, nLE1, layE6, layE4, e0, m5, hb, n3_72, n3_73, I32, ↓xb, xb, ps, lpad, lat, aok2, rd2, aaok, aav, alok, alen, aok, akk, csum, isLg, cmpI, clsE, Option.elim, eq_self, List.mem_cons, List.not_mem_nil, or_false, false_or, List.append_nil, List.nil_append, List.cons_append, List.append_eq, List.replicate, List.length_cons, List.length_nil, List.map_cons, List.map_nil, ↓reduceIte, reduceCtorEq, if_true, if_false, true_and, and_true, false_and, and_false, and_self, not_true_eq_false, not_false_eq_true, forall_const, true_implies, false_implies, implies_true, Nat.reduceAdd, Nat.reduceSub, Nat.reduceLT, Nat.reduceLeDiff, Nat.reduceEqDiff, Nat.reduceMul, Nat.reducePow, Nat.add_one_ne_zero, Nat.add_one_sub_one, Nat.add_zero, Nat.zero_add, Int.reduceLT, Int.reduceLE, Int.reduceNeg, Int.reduceAdd, Int.reduceSub, Int.reduceToNat, Int.reduceEq, Int.reduceMul, Int.reducePow, Int.cast_ofNat_Int, Int.toNat_natCast, ne_eq, Bool.false_eq_true, true_or, or_true, or_self, Nat.not_lt_zero, ite_e0, ite_e1, lc_lt, lc_ge, lc_gt, lc_le, lc_eq, Classical.not_not]
          with_reducible repeat' (first | (refine And.intro ?_ ?_) | intro _)
          all_goals try omega
          all_goals first | omega | skip
          refine ih _ (by omega) (by omega) (by omega) (fun c h' => ?_) (hs.put rfl)
          have h2' : c < (dlP s h.toNat).2 + 1 := h'
          show _ = upd1 (dlP s h.toNat).1 (dlP s h.toNat).2 h.toNat c
          by_cases e : c = (dlP s h.toNat).2
          · subst e; rw [upp_eq, upd1_eq]; omega
          · rw [upp_nc e, upd1_ne e]; exact hc c (by omega)
        · rw [show dlS s h.toNat (dlP s h.toNat) = dlP s h.toNat from if_neg hb] at ih
          refine TT_vb ok70 (sm3_ok G w) 60 [6, 50] ?_
          simp -implicitDefEqProofs only [↓b70_0, ↓b70_6, ↓b70_15, ↓b70_22, ↓b70_32, ↓b70_44, ↓b70_50, ↓b70_75, ↓b70_78, ↓b70_86, ↓b70_92, ↓b70_95, ↓b70_103, ↓b70_131, ↓b70_137, ↓b70_58, ↓b70_112, b70_0, b70_6, b70_15, b70_22, b70_32, b70_44, b70_50, b70_75, b70_78, b70_86, b70_92, b70_95, b70_103, b70_131, b70_137, b70_58, b70_112, nLE1, layE6, layE4, e0, m5, hb, n3_72, n3_73, I32, ↓xb, xb, ps, lpad, lat, aok2, rd2, aaok, aav, alok, alen, aok, akk, csum, isLg, cmpI, clsE, Option.elim, eq_self, List.mem_cons, List.not_mem_nil, or_false, false_or, List.append_nil, List.nil_append, List.cons_append, List.append_eq, List.replicate, List.length_cons, List.length_nil, List.map_cons, List.map_nil, ↓reduceIte, reduceCtorEq, if_true, if_false, true_and, and_true, false_and, and_false, and_self, not_true_eq_false, not_false_eq_true, forall_const, true_implies, false_implies, implies_true, Nat.reduceAdd, Nat.reduceSub, Nat.reduceLT, Nat.reduceLeDiff, Nat.reduceEqDiff, Nat.reduceMul, Nat.reducePow, Nat.add_one_ne_zero, Nat.add_one_sub_one, Nat.add_zero, Nat.zero_add, Int.reduceLT, Int.reduceLE, Int.reduceNeg, Int.reduceAdd, Int.reduceSub, Int.reduceToNat, Int.reduceEq, Int.reduceMul, Int.reducePow, Int.cast_ofNat_Int, Int.toNat_natCast, ne_eq, Bool.false_eq_true, true_or, or_true, or_self, Nat.not_lt_zero, ite_e0, ite_e1, lc_lt, lc_ge, lc_gt, lc_le, lc_eq, Classical.not_not]
          with_reducible repeat' (first | (refine And.intro ?_ ?_) | intro _)
          all_goals try omega
          all_goals first | omega | exact ih σ' (by omega) (by omega) (by omega) hc hs
    · have ei : h = P 2 0 := by omega
      rw [ei] at hc ⊢
      rw [← eH] at hc ⊢
      refine TT_vb ok70 (sm3_ok G w) 60 [6, 50] ?_
      simp -implicitDefEqProofs only [↓b70_0, ↓b70_6, ↓b70_15, ↓b70_22, ↓b70_32, ↓b70_44, ↓b70_50, ↓b70_75, ↓b70_78, ↓b70_86, ↓b70_92, ↓b70_95, ↓b70_103, ↓b70_131, ↓b70_137, ↓b70_58, ↓b70_112, b70_0, b70_6, b70_15, b70_22, b70_32, b70_44, b70_50, b70_75, b70_78, b70_86, b70_92, b70_95, b70_103, b70_131, b70_137, b70_58, b70_112, nLE1, layE6, layE4, e0, n3_72, n3_73, I32, ↓xb, xb, ps, lpad, lat, aok2, rd2, aaok, aav, alok, alen, aok, akk, csum, isLg, cmpI, clsE, Option.elim, eq_self, List.mem_cons, List.not_mem_nil, or_false, false_or, List.append_nil, List.nil_append, List.cons_append, List.append_eq, List.replicate, List.length_cons, List.length_nil, List.map_cons, List.map_nil, ↓reduceIte, reduceCtorEq, if_true, if_false, true_and, and_true, false_and, and_false, and_self, not_true_eq_false, not_false_eq_true, forall_const, true_implies, false_implies, implies_true, Nat.reduceAdd, Nat.reduceSub, Nat.reduceLT, Nat.reduceLeDiff, Nat.reduceEqDiff, Nat.reduceMul, Nat.reducePow, Nat.add_one_ne_zero, Nat.add_one_sub_one, Nat.add_zero, Nat.zero_add, Int.reduceLT, Int.reduceLE, Int.reduceNeg, Int.reduceAdd, Int.reduceSub, Int.reduceToNat, Int.reduceEq, Int.reduceMul, Int.reducePow, Int.cast_ofNat_Int, Int.toNat_natCast, ne_eq, Bool.false_eq_true, true_or, or_true, or_self, Nat.not_lt_zero, ite_e0, ite_e1, lc_lt, lc_ge, lc_gt, lc_le, lc_eq, Classical.not_not]
      with_reducible repeat' (first | (refine And.intro ?_ ?_) | intro _)
      all_goals try omega
      all_goals first | omega | exact q σ' _ hc hs
set_option maxRecDepth 100000 in
set_option maxHeartbeats 1000000 in
theorem kc_walk_l (R0 : RT True σ 1 P) (W : WF P) (hk : 16 ≤ k) {f s : Int} (hf : 0 ≤ f ∧ f < 12) {n : Nat} (hn : n ≤ 6) {B : Nat → Int} {L : Int}
    (q : ∀ σ', (∀ c, c < n → σ' 9 3 0 c = B c) → same S9 σ σ' → Q (some (vi L)) σ') :
    ∀ (m : Nat) (i : Int) (a b : Nat → Int) (l : Int) (σ' : Mem) (l7 : Option AV), 0 ≤ i → i + m = 719 → Tm n m a → (∀ c, c < n → 0 ≤ a c ∧ a c < 12) → (∀ c, c < n → σ' 9 2 0 c = a c) → (∀ c, c < n → σ' 9 3 0 c = b c) → (B, L) = dwF P f n (m + 1) a b l → same S9 σ σ' → TT G w w w k (0, 0) 70 78 [some (vr 9 0 0), some (vr 1 0 0), some (vi f), some (vi s), some (vi n), some (vi l), some (vi i), l7] [] σ' Q := fun m => by
  induction m with
  | zero =>
    intro i a b l σ' l7 h0 h1 T ha hm hb hd hs
    have T' : ptF a (n - 1) = 0 := T
    have pe : ptF (fun c => σ' 9 2 0 c) (n - 1) = ptF a (n - 1) := by
      by_cases n0 : n = 0
      · subst n0; rfl
      · exact pt_rel eq_rel (n - 1) (fun i hi => hm i (by omega))
    have hd' : (B, L) = (b, l) := by
      rw [hd]; exact if_pos T'
    obtain ⟨rfl, rfl⟩ := Prod.mk.inj hd'
    refine TT_vb ok70 (sm3_ok G w) 60 [78, 112] ?_
    simp -implicitDefEqProofs only [↓b70_0, ↓b70_6, ↓b70_15, ↓b70_22, ↓b70_32, ↓b70_44, ↓b70_50, ↓b70_75, ↓b70_78, ↓b70_86, ↓b70_92, ↓b70_95, ↓b70_103, ↓b70_131, ↓b70_137, ↓b70_58, ↓b70_112, b70_0, b70_6, b70_15, b70_22, b70_32, b70_44, b70_50, b70_75, b70_78, b70_86, b70_92, b70_95, b70_103, b70_131, b70_137, b70_58, b70_112, nLE1, layE6, layE4, hk, n3_72, n3_73, I32, ↓xb, xb, ps, lpad, lat, aok2, rd2, aaok, aav, alok, alen, aok, akk, csum, isLg, cmpI, clsE, Option.elim, eq_self, List.mem_cons, List.not_mem_nil, or_false, false_or, List.append_nil, List.nil_append, List.cons_append, List.append_eq, List.replicate, List.length_cons, List.length_nil, List.map_cons, List.map_nil, ↓reduceIte, reduceCtorEq, if_true, if_false, true_and, and_true, false_and, and_false, and_self, not_true_eq_false, not_false_eq_true, forall_const, true_implies, false_implies, implies_true, Nat.reduceAdd, Nat.reduceSub, Nat.reduceLT, Nat.reduceLeDiff, Nat.reduceEqDiff, Nat.reduceMul, Nat.reducePow, Nat.add_one_ne_zero, Nat.add_one_sub_one, Nat.add_zero, Nat.zero_add, Int.reduceLT, Int.reduceLE, Int.reduceNeg, Int.reduceAdd, Int.reduceSub, Int.reduceToNat, Int.reduceEq, Int.reduceMul, Int.reducePow, Int.cast_ofNat_Int, Int.toNat_natCast, ne_eq, Bool.false_eq_true, true_or, or_true, or_self, Nat.not_lt_zero, ite_e0, ite_e1, lc_lt, lc_ge, lc_gt, lc_le, lc_eq, Classical.not_not]
    with_reducible repeat' (first | (refine And.intro ?_ ?_) | intro _)
    all_goals try omega
    all_goals first | omega | skip
    refine kc_next (by omega) hn (fun _ => ?_) (fun z => absurd (pe.trans T') z)
    simp -implicitDefEqProofs only [↓b70_0, ↓b70_6, ↓b70_15, ↓b70_22, ↓b70_32, ↓b70_44, ↓b70_50, ↓b70_75, ↓b70_78, ↓b70_86, ↓b70_92, ↓b70_95, ↓b70_103, ↓b70_131, ↓b70_137, ↓b70_58, ↓b70_112, b70_0, b70_6, b70_15, b70_22, b70_32, b70_44, b70_50, b70_75, b70_78, b70_86, b70_92, b70_95, b70_103, b70_131, b70_137, b70_58, b70_112, nLE1, layE6, layE4, hk, n3_72, n3_73, I32, ↓xb, xb, ps, lpad, lat, aok2, rd2, aaok, aav, alok, alen, aok, akk, csum, isLg, cmpI, clsE, Option.elim, eq_self, List.mem_cons, List.not_mem_nil, or_false, false_or, List.append_nil, List.nil_append, List.cons_append, List.append_eq, List.replicate, List.length_cons, List.length_nil, List.map_cons, List.map_nil, ↓reduceIte, reduceCtorEq, if_true, if_false, true_and, and_true, false_and, and_false, and_self, not_true_eq_false, not_false_eq_true, forall_const, true_implies, false_implies, implies_true, Nat.reduceAdd, Nat.reduceSub, Nat.reduceLT, Nat.reduceLeDiff, Nat.reduceEqDiff, Nat.reduceMul, Nat.reducePow, Nat.add_one_ne_zero, Nat.add_one_sub_one, Nat.add_zero, Nat.zero_add, Int.reduceLT, Int.reduceLE, Int.reduceNeg, Int.reduceAdd, Int.reduceSub, Int.reduceToNat, Int.reduceEq, Int.reduceMul, Int.reducePow, Int.cast_ofNat_Int, Int.toNat_natCast, ne_eq, Bool.false_eq_true, true_or, or_true, or_self, Nat.not_lt_zero, ite_e0, ite_e1, lc_lt, lc_ge, lc_gt, lc_le, lc_eq, Classical.not_not]
    with_reducible repeat' (first | (refine And.intro ?_ ?_) | intro _)
    all_goals try omega
    all_goals first | omega | exact q σ' hb hs
  | succ m ih =>
    intro i a b l σ' l7 h0 h1 T ha hm hb hd hs
    have pe : ptF (fun c => σ' 9 2 0 c) (n - 1) = ptF a (n - 1) := by
      by_cases n0 : n = 0
      · subst n0; rfl
      · exact pt_rel eq_rel (n - 1) (fun i hi => hm i (by omega))
    refine TT_vb ok70 (sm3_ok G w) 60 [78, 112] ?_
    simp -implicitDefEqProofs only [↓b70_0, ↓b70_6, ↓b70_15, ↓b70_22, ↓b70_32, ↓b70_44, ↓b70_50, ↓b70_75, ↓b70_78, ↓b70_86, ↓b70_92, ↓b70_95, ↓b70_103, ↓b70_131, ↓b70_137, ↓b70_58, ↓b70_112, b70_0, b70_6, b70_15, b70_22, b70_32, b70_44, b70_50, b70_75, b70_78, b70_86, b70_92, b70_95, b70_103, b70_131, b70_137, b70_58, b70_112, nLE1, layE6, layE4, hk, n3_72, n3_73, I32, ↓xb, xb, ps, lpad, lat, aok2, rd2, aaok, aav, alok, alen, aok, akk, csum, isLg, cmpI, clsE, Option.elim, eq_self, List.mem_cons, List.not_mem_nil, or_false, false_or, List.append_nil, List.nil_append, List.cons_append, List.append_eq, List.replicate, List.length_cons, List.length_nil, List.map_cons, List.map_nil, ↓reduceIte, reduceCtorEq, if_true, if_false, true_and, and_true, false_and, and_false, and_self, not_true_eq_false, not_false_eq_true, forall_const, true_implies, false_implies, implies_true, Nat.reduceAdd, Nat.reduceSub, Nat.reduceLT, Nat.reduceLeDiff, Nat.reduceEqDiff, Nat.reduceMul, Nat.reducePow, Nat.add_one_ne_zero, Nat.add_one_sub_one, Nat.add_zero, Nat.zero_add, Int.reduceLT, Int.reduceLE, Int.reduceNeg, Int.reduceAdd, Int.reduceSub, Int.reduceToNat, Int.reduceEq, Int.reduceMul, Int.reducePow, Int.cast_ofNat_Int, Int.toNat_natCast, ne_eq, Bool.false_eq_true, true_or, or_true, or_self, Nat.not_lt_zero, ite_e0, ite_e1, lc_lt, lc_ge, lc_gt, lc_le, lc_eq, Classical.not_not]
    with_reducible repeat' (first | (refine And.intro ?_ ?_) | intro _)
    all_goals try omega
    all_goals first | omega | skip
    by_cases p0 : ptF a (n - 1) = 0
    · have hd' : (B, L) = (b, l) := by
        rw [hd]; exact if_pos p0
      obtain ⟨rfl, rfl⟩ := Prod.mk.inj hd'
      refine kc_next (by omega) hn (fun _ => ?_) (fun z => absurd (pe.trans p0) z)
      simp -implicitDefEqProofs only [↓b70_0, ↓b70_6, ↓b70_15, ↓b70_22, ↓b70_32, ↓b70_44, ↓b70_50, ↓b70_75, ↓b70_78, ↓b70_86, ↓b70_92, ↓b70_95, ↓b70_103, ↓b70_131, ↓b70_137, ↓b70_58, ↓b70_112, b70_0, b70_6, b70_15, b70_22, b70_32, b70_44, b70_50, b70_75, b70_78, b70_86, b70_92, b70_95, b70_103, b70_131, b70_137, b70_58, b70_112, nLE1, layE6, layE4, hk, n3_72, n3_73, I32, ↓xb, xb, ps, lpad, lat, aok2, rd2, aaok, aav, alok, alen, aok, akk, csum, isLg, cmpI, clsE, Option.elim, eq_self, List.mem_cons, List.not_mem_nil, or_false, false_or, List.append_nil, List.nil_append, List.cons_append, List.append_eq, List.replicate, List.length_cons, List.length_nil, List.map_cons, List.map_nil, ↓reduceIte, reduceCtorEq, if_true, if_false, true_and, and_true, false_and, and_false, and_self, not_true_eq_false, not_false_eq_true, forall_const, true_implies, false_implies, implies_true, Nat.reduceAdd, Nat.reduceSub, Nat.reduceLT, Nat.reduceLeDiff, Nat.reduceEqDiff, Nat.reduceMul, Nat.reducePow, Nat.add_one_ne_zero, Nat.add_one_sub_one, Nat.add_zero, Nat.zero_add, Int.reduceLT, Int.reduceLE, Int.reduceNeg, Int.reduceAdd, Int.reduceSub, Int.reduceToNat, Int.reduceEq, Int.reduceMul, Int.reducePow, Int.cast_ofNat_Int, Int.toNat_natCast, ne_eq, Bool.false_eq_true, true_or, or_true, or_self, Nat.not_lt_zero, ite_e0, ite_e1, lc_lt, lc_ge, lc_gt, lc_le, lc_eq, Classical.not_not]
      with_reducible repeat' (first | (refine And.intro ?_ ?_) | intro _)
      all_goals try omega
      all_goals first | omega | exact q σ' hb hs
    · have hn1 : 1 ≤ n := by
        refine Classical.byContradiction fun z => ?_
        have : n = 0 := by omega
        subst this
        exact p0 rfl
      have T' : Tm n m (nxF n a) := T.resolve_left p0
      have hd' : (B, L) = if (wkR P f (nxF n a) n).2.2 < l then dwF P f n (m + 1) (nxF n a) (nxF n a) (wkR P f (nxF n a) n).2.2 else dwF P f n (m + 1) (nxF n a) b l := by
        rw [hd]; exact if_neg p0
      have ha' := nx_r hn1 ha
      refine kc_next (by omega) hn (fun z => absurd (pe.symm.trans z) p0) (fun _ σ2 h2 s2 => ?_)
      have hm2 : ∀ c, c < n → σ2 9 2 0 c = nxF n a c := fun c hc => (h2 c).trans (nx_rel eq_rel hn1 hm c hc)
      have s2' : same S9 σ' σ2 := s2.mono (fun o g z => by
        have z' : (o == 9 && g == 2) = true := z
        rw [Bool.and_eq_true] at z'
        exact z'.1)
      have R2 : RT True σ2 1 P := fun g j x y => (S9_1 (hs.trans s2') _ _ _).trans (R0 g j x y)
      have hb2 : ∀ c, c < n → σ2 9 3 0 c = b c := fun c hc => (s2 9 3 rfl 0 c).trans (hb c hc)
      simp -implicitDefEqProofs only [↓b70_0, ↓b70_6, ↓b70_15, ↓b70_22, ↓b70_32, ↓b70_44, ↓b70_50, ↓b70_75, ↓b70_78, ↓b70_86, ↓b70_92, ↓b70_95, ↓b70_103, ↓b70_131, ↓b70_137, ↓b70_58, ↓b70_112, b70_0, b70_6, b70_15, b70_22, b70_32, b70_44, b70_50, b70_75, b70_78, b70_86, b70_92, b70_95, b70_103, b70_131, b70_137, b70_58, b70_112, nLE1, layE6, layE4, hk, n3_72, n3_73, I32, ↓xb, xb, ps, lpad, lat, aok2, rd2, aaok, aav, alok, alen, aok, akk, csum, isLg, cmpI, clsE, Option.elim, eq_self, List.mem_cons, List.not_mem_nil, or_false, false_or, List.append_nil, List.nil_append, List.cons_append, List.append_eq, List.replicate, List.length_cons, List.length_nil, List.map_cons, List.map_nil, ↓reduceIte, reduceCtorEq, if_true, if_false, true_and, and_true, false_and, and_false, and_self, not_true_eq_false, not_false_eq_true, forall_const, true_implies, false_implies, implies_true, Nat.reduceAdd, Nat.reduceSub, Nat.reduceLT, Nat.reduceLeDiff, Nat.reduceEqDiff, Nat.reduceMul, Nat.reducePow, Nat.add_one_ne_zero, Nat.add_one_sub_one, Nat.add_zero, Nat.zero_add, Int.reduceLT, Int.reduceLE, Int.reduceNeg, Int.reduceAdd, Int.reduceSub, Int.reduceToNat, Int.reduceEq, Int.reduceMul, Int.reducePow, Int.cast_ofNat_Int, Int.toNat_natCast, ne_eq, Bool.false_eq_true, true_or, or_true, or_self, Nat.not_lt_zero, ite_e0, ite_e1, lc_lt, lc_ge, lc_gt, lc_le, lc_eq, Classical.not_not]
      with_reducible repeat' (first | (refine And.intro ?_ ?_) | intro _)
      all_goals try omega
      refine kc_wk R2 W (by omega) hf hn ha' hm2 ?_
      by_cases c : (wkR P f (nxF n a) n).2.2 < l
      · rw [if_pos c] at hd'
        have c' : ¬ l ≤ (wkR P f (nxF n a) n).2.2 := by omega
        simp -implicitDefEqProofs only [↓b70_0, ↓b70_6, ↓b70_15, ↓b70_22, ↓b70_32, ↓b70_44, ↓b70_50, ↓b70_75, ↓b70_78, ↓b70_86, ↓b70_92, ↓b70_95, ↓b70_103, ↓b70_131, ↓b70_137, ↓b70_58, ↓b70_112, b70_0, b70_6, b70_15, b70_22, b70_32, b70_44, b70_50, b70_75, b70_78, b70_86, b70_92, b70_95, b70_103, b70_131, b70_137, b70_58, b70_112, nLE1, layE6, layE4, c', n3_72, n3_73, I32, ↓xb, xb, ps, lpad, lat, aok2, rd2, aaok, aav, alok, alen, aok, akk, csum, isLg, cmpI, clsE, Option.elim, eq_self, List.mem_cons, List.not_mem_nil, or_false, false_or, List.append_nil, List.nil_append, List.cons_append, List.append_eq, List.replicate, List.length_cons, List.length_nil, List.map_cons, List.map_nil, ↓reduceIte, reduceCtorEq, if_true, if_false, true_and, and_true, false_and, and_false, and_self, not_true_eq_false, not_false_eq_true, forall_const, true_implies, false_implies, implies_true, Nat.reduceAdd, Nat.reduceSub, Nat.reduceLT, Nat.reduceLeDiff, Nat.reduceEqDiff, Nat.reduceMul, Nat.reducePow, Nat.add_one_ne_zero, Nat.add_one_sub_one, Nat.add_zero, Nat.zero_add, Int.reduceLT, Int.reduceLE, Int.reduceNeg, Int.reduceAdd, Int.reduceSub, Int.reduceToNat, Int.reduceEq, Int.reduceMul, Int.reducePow, Int.cast_ofNat_Int, Int.toNat_natCast, ne_eq, Bool.false_eq_true, true_or, or_true, or_self, Nat.not_lt_zero, ite_e0, ite_e1, lc_lt, lc_ge, lc_gt, lc_le, lc_eq, Classical.not_not]
        with_reducible repeat' (first | (refine And.intro ?_ ?_) | intro _)
        all_goals try omega
        all_goals first | omega | skip
        refine TT_vn ok70 (sm3_ok G w) 60 9 [128] ?_
        simp -implicitDefEqProofs only [↓b70_0, ↓b70_6, ↓b70_15, ↓b70_22, ↓b70_32, ↓b70_44, ↓b70_50, ↓b70_75, ↓b70_78, ↓b70_86, ↓b70_92, ↓b70_95, ↓b70_103, ↓b70_131, ↓b70_137, ↓b70_58, ↓b70_112, b70_0, b70_6, b70_15, b70_22, b70_32, b70_44, b70_50, b70_75, b70_78, b70_86, b70_92, b70_95, b70_103, b70_131, b70_137, b70_58, b70_112, nLE1, layE6, layE4, hk, n3_72, n3_73, I32, ↓xb, xb, ps, lpad, lat, aok2, rd2, aaok, aav, alok, alen, aok, akk, csum, isLg, cmpI, clsE, Option.elim, eq_self, List.mem_cons, List.not_mem_nil, or_false, false_or, List.append_nil, List.nil_append, List.cons_append, List.append_eq, List.replicate, List.length_cons, List.length_nil, List.map_cons, List.map_nil, ↓reduceIte, reduceCtorEq, if_true, if_false, true_and, and_true, false_and, and_false, and_self, not_true_eq_false, not_false_eq_true, forall_const, true_implies, false_implies, implies_true, Nat.reduceAdd, Nat.reduceSub, Nat.reduceLT, Nat.reduceLeDiff, Nat.reduceEqDiff, Nat.reduceMul, Nat.reducePow, Nat.add_one_ne_zero, Nat.add_one_sub_one, Nat.add_zero, Nat.zero_add, Int.reduceLT, Int.reduceLE, Int.reduceNeg, Int.reduceAdd, Int.reduceSub, Int.reduceToNat, Int.reduceEq, Int.reduceMul, Int.reducePow, Int.cast_ofNat_Int, Int.toNat_natCast, ne_eq, Bool.false_eq_true, true_or, or_true, or_self, Nat.not_lt_zero, ite_e0, ite_e1, lc_lt, lc_ge, lc_gt, lc_le, lc_eq, Classical.not_not]
        with_reducible repeat' (first | (refine And.intro ?_ ?_) | intro _)
        all_goals try omega
        all_goals first | omega | skip
        have d := TT_cpy (pc := 128) ok70 (ix := 50) (x := -1) (z := 5) rfl
        refine S_cpyi d.1 d.2 (by decide) (by decide) (by decide) (by decide) (by decide) (by decide) (by omega) (show ((n : Nat) : Int) ≤ ((6 : Nat) : Int) by omega) (show ((n : Nat) : Int) ≤ ((6 : Nat) : Int) by omega) (by omega) (by decide) ?_
        have tn : ((n : Nat) : Int).toNat = n := by omega
        rw [tn]
        have s3 : same S9 σ2 (cpM σ2 9 2 0 9 3 0 n) := fun o g z r c => cpM_ne (fun e => by
          have z' : (o == 9) = false := z
          rw [e.1] at z'; simp at z')
        refine TT_vb ok70 (sm3_ok G w) 60 [78] ?_
        simp -implicitDefEqProofs only [↓b70_0, ↓b70_6, ↓b70_15, ↓b70_22, ↓b70_32, ↓b70_44, ↓b70_50, ↓b70_75, ↓b70_78, ↓b70_86, ↓b70_92, ↓b70_95, ↓b70_103, ↓b70_131, ↓b70_137, ↓b70_58, ↓b70_112, b70_0, b70_6, b70_15, b70_22, b70_32, b70_44, b70_50, b70_75, b70_78, b70_86, b70_92, b70_95, b70_103, b70_131, b70_137, b70_58, b70_112, nLE1, layE6, layE4, hk, n3_72, n3_73, I32, ↓xb, xb, ps, lpad, lat, aok2, rd2, aaok, aav, alok, alen, aok, akk, csum, isLg, cmpI, clsE, Option.elim, eq_self, List.mem_cons, List.not_mem_nil, or_false, false_or, List.append_nil, List.nil_append, List.cons_append, List.append_eq, List.replicate, List.length_cons, List.length_nil, List.map_cons, List.map_nil, ↓reduceIte, reduceCtorEq, if_true, if_false, true_and, and_true, false_and, and_false, and_self, not_true_eq_false, not_false_eq_true, forall_const, true_implies, false_implies, implies_true, Nat.reduceAdd, Nat.reduceSub, Nat.reduceLT, Nat.reduceLeDiff, Nat.reduceEqDiff, Nat.reduceMul, Nat.reducePow, Nat.add_one_ne_zero, Nat.add_one_sub_one, Nat.add_zero, Nat.zero_add, Int.reduceLT, Int.reduceLE, Int.reduceNeg, Int.reduceAdd, Int.reduceSub, Int.reduceToNat, Int.reduceEq, Int.reduceMul, Int.reducePow, Int.cast_ofNat_Int, Int.toNat_natCast, ne_eq, Bool.false_eq_true, true_or, or_true, or_self, Nat.not_lt_zero, ite_e0, ite_e1, lc_lt, lc_ge, lc_gt, lc_le, lc_eq, Classical.not_not]
        with_reducible repeat' (first | (refine And.intro ?_ ?_) | intro _)
        all_goals try omega
        all_goals first | omega | skip
        refine ih (i + 1) _ _ _ _ _ (by omega) (by omega) T' ha' (fun c hc => ?_) (fun c hc => ?_) hd' ((hs.trans s2').trans s3)
        · rw [cpM_ne (fun e => absurd e.2.1 (by decide))]; exact hm2 c hc
        · rw [cpM_eq hc]; exact hm2 c hc
      · rw [if_neg c] at hd'
        have c' : l ≤ (wkR P f (nxF n a) n).2.2 := by omega
        simp -implicitDefEqProofs only [↓b70_0, ↓b70_6, ↓b70_15, ↓b70_22, ↓b70_32, ↓b70_44, ↓b70_50, ↓b70_75, ↓b70_78, ↓b70_86, ↓b70_92, ↓b70_95, ↓b70_103, ↓b70_131, ↓b70_137, ↓b70_58, ↓b70_112, b70_0, b70_6, b70_15, b70_22, b70_32, b70_44, b70_50, b70_75, b70_78, b70_86, b70_92, b70_95, b70_103, b70_131, b70_137, b70_58, b70_112, nLE1, layE6, layE4, c', n3_72, n3_73, I32, ↓xb, xb, ps, lpad, lat, aok2, rd2, aaok, aav, alok, alen, aok, akk, csum, isLg, cmpI, clsE, Option.elim, eq_self, List.mem_cons, List.not_mem_nil, or_false, false_or, List.append_nil, List.nil_append, List.cons_append, List.append_eq, List.replicate, List.length_cons, List.length_nil, List.map_cons, List.map_nil, ↓reduceIte, reduceCtorEq, if_true, if_false, true_and, and_true, false_and, and_false, and_self, not_true_eq_false, not_false_eq_true, forall_const, true_implies, false_implies, implies_true, Nat.reduceAdd, Nat.reduceSub, Nat.reduceLT, Nat.reduceLeDiff, Nat.reduceEqDiff, Nat.reduceMul, Nat.reducePow, Nat.add_one_ne_zero, Nat.add_one_sub_one, Nat.add_zero, Nat.zero_add, Int.reduceLT, Int.reduceLE, Int.reduceNeg, Int.reduceAdd, Int.reduceSub, Int.reduceToNat, Int.reduceEq, Int.reduceMul, Int.reducePow, Int.cast_ofNat_Int, Int.toNat_natCast, ne_eq, Bool.false_eq_true, true_or, or_true, or_self, Nat.not_lt_zero, ite_e0, ite_e1, lc_lt, lc_ge, lc_gt, lc_le, lc_eq, Classical.not_not]
        with_reducible repeat' (first | (refine And.intro ?_ ?_) | intro _)
        all_goals try omega
        all_goals first | omega | skip
        exact ih (i + 1) _ _ _ _ _ (by omega) (by omega) T' ha' hm2 hb2 hd' (hs.trans s2')
set_option maxRecDepth 100000 in
set_option maxHeartbeats 1000000 in
theorem kc_walk (R : RT True σ 1 P) (W : WF P) (hk : 18 ≤ k) {f s : Int} (hf : 0 ≤ f ∧ f < 12) (hs0 : 0 ≤ s) (hs1 : s < 2 ^ (P 2 0).toNat) (h6 : (dlP s 12).2 ≤ 6)
    (q : ∀ σ', (∀ c, c < (dlP s 12).2 → σ' 9 3 0 c = (doP P f s).1 c) → same S9 σ σ' → Q (some (vi (doP P f s).2)) σ') : CC G w w k (0, 0) 70 [vr 9 0 0, vr 1 0 0, vi f, vi s] σ Q := by
  have w1 := W.sc.1
  have dr := dl_r (s := s) 12
  have dd : ((doP P f s).1, (doP P f s).2) = dwF P f (dlP s 12).2 720 (dlP s 12).1 (dlP s 12).1 (wkR P f (dlP s 12).1 (dlP s 12).2).2.2 := rfl
  refine CC_vb ok70 (by decide) (sm3_ok G w) 60 [6] (Nat.le_of_ble_eq_true rfl) ?_
  simp -implicitDefEqProofs only [↓b70_0, ↓b70_6, ↓b70_15, ↓b70_22, ↓b70_32, ↓b70_44, ↓b70_50, ↓b70_75, ↓b70_78, ↓b70_86, ↓b70_92, ↓b70_95, ↓b70_103, ↓b70_131, ↓b70_137, ↓b70_58, ↓b70_112, b70_0, b70_6, b70_15, b70_22, b70_32, b70_44, b70_50, b70_75, b70_78, b70_86, b70_92, b70_95, b70_103, b70_131, b70_137, b70_58, b70_112, nLE1, layE6, layE4, hk, n3_72, n3_73, I32, ↓xb, xb, ps, lpad, lat, aok2, rd2, aaok, aav, alok, alen, aok, akk, csum, isLg, cmpI, clsE, Option.elim, eq_self, List.mem_cons, List.not_mem_nil, or_false, false_or, List.append_nil, List.nil_append, List.cons_append, List.append_eq, List.replicate, List.length_cons, List.length_nil, List.map_cons, List.map_nil, ↓reduceIte, reduceCtorEq, if_true, if_false, true_and, and_true, false_and, and_false, and_self, not_true_eq_false, not_false_eq_true, forall_const, true_implies, false_implies, implies_true, Nat.reduceAdd, Nat.reduceSub, Nat.reduceLT, Nat.reduceLeDiff, Nat.reduceEqDiff, Nat.reduceMul, Nat.reducePow, Nat.add_one_ne_zero, Nat.add_one_sub_one, Nat.add_zero, Nat.zero_add, Int.reduceLT, Int.reduceLE, Int.reduceNeg, Int.reduceAdd, Int.reduceSub, Int.reduceToNat, Int.reduceEq, Int.reduceMul, Int.reducePow, Int.cast_ofNat_Int, Int.toNat_natCast, ne_eq, Bool.false_eq_true, true_or, or_true, or_self, Nat.not_lt_zero, ite_e0, ite_e1, lc_lt, lc_ge, lc_gt, lc_le, lc_eq, Classical.not_not]
  with_reducible repeat' (first | (refine And.intro ?_ ?_) | intro _)
  all_goals try omega
  all_goals first | omega | skip
  refine kc_fill (σ := σ) R W (by omega) hs0 hs1 h6 (fun σ1 l5 h1 s1 => ?_) 13 0 σ (by omega) (by omega) (by omega) (fun c hc => absurd hc (Nat.not_lt_zero c)) same.refl
  have Tu := Tm_up (n := (dlP s 12).2) (a := (dlP s 12).1) h6 (fun i j a b => (dl_r (s := s) 12).2.2 i j a b)
  revert h1 q dr dd h6 Tu
  generalize (doP P f s).1 = B
  generalize (doP P f s).2 = L
  generalize (dlP s 12).2 = n
  generalize (dlP s 12).1 = a
  intro h6 q dr dd h1 Tu
  have s1' : same S9 σ σ1 := s1.mono (fun o g z => by
    have z' : (o == 9 && g == 2) = true := z
    rw [Bool.and_eq_true] at z'
    exact z'.1)
  have ha : ∀ c, c < n → 0 ≤ a c ∧ a c < 12 := fun c hc => dr.2.1 c hc
  refine TT_vb ok70 (sm3_ok G w) 60 [58] ?_
  simp -implicitDefEqProofs only [↓b70_0, ↓b70_6, ↓b70_15, ↓b70_22, ↓b70_32, ↓b70_44, ↓b70_50, ↓b70_75, ↓b70_78, ↓b70_86, ↓b70_92, ↓b70_95, ↓b70_103, ↓b70_131, ↓b70_137, ↓b70_58, ↓b70_112, b70_0, b70_6, b70_15, b70_22, b70_32, b70_44, b70_50, b70_75, b70_78, b70_86, b70_92, b70_95, b70_103, b70_131, b70_137, b70_58, b70_112, nLE1, layE6, layE4, hk, n3_72, n3_73, I32, ↓xb, xb, ps, lpad, lat, aok2, rd2, aaok, aav, alok, alen, aok, akk, csum, isLg, cmpI, clsE, Option.elim, eq_self, List.mem_cons, List.not_mem_nil, or_false, false_or, List.append_nil, List.nil_append, List.cons_append, List.append_eq, List.replicate, List.length_cons, List.length_nil, List.map_cons, List.map_nil, ↓reduceIte, reduceCtorEq, if_true, if_false, true_and, and_true, false_and, and_false, and_self, not_true_eq_false, not_false_eq_true, forall_const, true_implies, false_implies, implies_true, Nat.reduceAdd, Nat.reduceSub, Nat.reduceLT, Nat.reduceLeDiff, Nat.reduceEqDiff, Nat.reduceMul, Nat.reducePow, Nat.add_one_ne_zero, Nat.add_one_sub_one, Nat.add_zero, Nat.zero_add, Int.reduceLT, Int.reduceLE, Int.reduceNeg, Int.reduceAdd, Int.reduceSub, Int.reduceToNat, Int.reduceEq, Int.reduceMul, Int.reducePow, Int.cast_ofNat_Int, Int.toNat_natCast, ne_eq, Bool.false_eq_true, true_or, or_true, or_self, Nat.not_lt_zero, ite_e0, ite_e1, lc_lt, lc_ge, lc_gt, lc_le, lc_eq, Classical.not_not]
  with_reducible repeat' (first | (refine And.intro ?_ ?_) | intro _)
  all_goals try omega
  refine kc_wk (fun g j x y => (S9_1 s1' _ _ _).trans (R g j x y)) W (by omega) hf h6 ha h1 ?_
  simp -implicitDefEqProofs only [↓b70_0, ↓b70_6, ↓b70_15, ↓b70_22, ↓b70_32, ↓b70_44, ↓b70_50, ↓b70_75, ↓b70_78, ↓b70_86, ↓b70_92, ↓b70_95, ↓b70_103, ↓b70_131, ↓b70_137, ↓b70_58, ↓b70_112, b70_0, b70_6, b70_15, b70_22, b70_32, b70_44, b70_50, b70_75, b70_78, b70_86, b70_92, b70_95, b70_103, b70_131, b70_137, b70_58, b70_112, nLE1, layE6, layE4, hk, n3_72, n3_73, I32, ↓xb, xb, ps, lpad, lat, aok2, rd2, aaok, aav, alok, alen, aok, akk, csum, isLg, cmpI, clsE, Option.elim, eq_self, List.mem_cons, List.not_mem_nil, or_false, false_or, List.append_nil, List.nil_append, List.cons_append, List.append_eq, List.replicate, List.length_cons, List.length_nil, List.map_cons, List.map_nil, ↓reduceIte, reduceCtorEq, if_true, if_false, true_and, and_true, false_and, and_false, and_self, not_true_eq_false, not_false_eq_true, forall_const, true_implies, false_implies, implies_true, Nat.reduceAdd, Nat.reduceSub, Nat.reduceLT, Nat.reduceLeDiff, Nat.reduceEqDiff, Nat.reduceMul, Nat.reducePow, Nat.add_one_ne_zero, Nat.add_one_sub_one, Nat.add_zero, Nat.zero_add, Int.reduceLT, Int.reduceLE, Int.reduceNeg, Int.reduceAdd, Int.reduceSub, Int.reduceToNat, Int.reduceEq, Int.reduceMul, Int.reducePow, Int.cast_ofNat_Int, Int.toNat_natCast, ne_eq, Bool.false_eq_true, true_or, or_true, or_self, Nat.not_lt_zero, ite_e0, ite_e1, lc_lt, lc_ge, lc_gt, lc_le, lc_eq, Classical.not_not]
  with_reducible repeat' (first | (refine And.intro ?_ ?_) | intro _)
  all_goals try omega
  refine TT_vn ok70 (sm3_ok G w) 60 8 [72] ?_
  simp -implicitDefEqProofs only [↓b70_0, ↓b70_6, ↓b70_15, ↓b70_22, ↓b70_32, ↓b70_44, ↓b70_50, ↓b70_75, ↓b70_78, ↓b70_86, ↓b70_92, ↓b70_95, ↓b70_103, ↓b70_131, ↓b70_137, ↓b70_58, ↓b70_112, b70_0, b70_6, b70_15, b70_22, b70_32, b70_44, b70_50, b70_75, b70_78, b70_86, b70_92, b70_95, b70_103, b70_131, b70_137, b70_58, b70_112, nLE1, layE6, layE4, hk, n3_72, n3_73, I32, ↓xb, xb, ps, lpad, lat, aok2, rd2, aaok, aav, alok, alen, aok, akk, csum, isLg, cmpI, clsE, Option.elim, eq_self, List.mem_cons, List.not_mem_nil, or_false, false_or, List.append_nil, List.nil_append, List.cons_append, List.append_eq, List.replicate, List.length_cons, List.length_nil, List.map_cons, List.map_nil, ↓reduceIte, reduceCtorEq, if_true, if_false, true_and, and_true, false_and, and_false, and_self, not_true_eq_false, not_false_eq_true, forall_const, true_implies, false_implies, implies_true, Nat.reduceAdd, Nat.reduceSub, Nat.reduceLT, Nat.reduceLeDiff, Nat.reduceEqDiff, Nat.reduceMul, Nat.reducePow, Nat.add_one_ne_zero, Nat.add_one_sub_one, Nat.add_zero, Nat.zero_add, Int.reduceLT, Int.reduceLE, Int.reduceNeg, Int.reduceAdd, Int.reduceSub, Int.reduceToNat, Int.reduceEq, Int.reduceMul, Int.reducePow, Int.cast_ofNat_Int, Int.toNat_natCast, ne_eq, Bool.false_eq_true, true_or, or_true, or_self, Nat.not_lt_zero, ite_e0, ite_e1, lc_lt, lc_ge, lc_gt, lc_le, lc_eq, Classical.not_not]
  with_reducible repeat' (first | (refine And.intro ?_ ?_) | intro _)
  all_goals try omega
  all_goals first | omega | skip
  have d := TT_cpy (pc := 72) ok70 (ix := 50) (x := -1) (z := 5) rfl
  refine S_cpyi d.1 d.2 (by decide) (by decide) (by decide) (by decide) (by decide) (by decide) (by omega) (show ((n : Nat) : Int) ≤ ((6 : Nat) : Int) by omega) (show ((n : Nat) : Int) ≤ ((6 : Nat) : Int) by omega) (by omega) (by decide) ?_
  have tn : ((n : Nat) : Int).toNat = n := by omega
  rw [tn]
  have s3 : same S9 σ1 (cpM σ1 9 2 0 9 3 0 n) := fun o g z r c => cpM_ne (fun e => by
    have z' : (o == 9) = false := z
    rw [e.1] at z'; simp at z')
  refine TT_vb ok70 (sm3_ok G w) 60 [78] ?_
  simp -implicitDefEqProofs only [↓b70_0, ↓b70_6, ↓b70_15, ↓b70_22, ↓b70_32, ↓b70_44, ↓b70_50, ↓b70_75, ↓b70_78, ↓b70_86, ↓b70_92, ↓b70_95, ↓b70_103, ↓b70_131, ↓b70_137, ↓b70_58, ↓b70_112, b70_0, b70_6, b70_15, b70_22, b70_32, b70_44, b70_50, b70_75, b70_78, b70_86, b70_92, b70_95, b70_103, b70_131, b70_137, b70_58, b70_112, nLE1, layE6, layE4, hk, n3_72, n3_73, I32, ↓xb, xb, ps, lpad, lat, aok2, rd2, aaok, aav, alok, alen, aok, akk, csum, isLg, cmpI, clsE, Option.elim, eq_self, List.mem_cons, List.not_mem_nil, or_false, false_or, List.append_nil, List.nil_append, List.cons_append, List.append_eq, List.replicate, List.length_cons, List.length_nil, List.map_cons, List.map_nil, ↓reduceIte, reduceCtorEq, if_true, if_false, true_and, and_true, false_and, and_false, and_self, not_true_eq_false, not_false_eq_true, forall_const, true_implies, false_implies, implies_true, Nat.reduceAdd, Nat.reduceSub, Nat.reduceLT, Nat.reduceLeDiff, Nat.reduceEqDiff, Nat.reduceMul, Nat.reducePow, Nat.add_one_ne_zero, Nat.add_one_sub_one, Nat.add_zero, Nat.zero_add, Int.reduceLT, Int.reduceLE, Int.reduceNeg, Int.reduceAdd, Int.reduceSub, Int.reduceToNat, Int.reduceEq, Int.reduceMul, Int.reducePow, Int.cast_ofNat_Int, Int.toNat_natCast, ne_eq, Bool.false_eq_true, true_or, or_true, or_self, Nat.not_lt_zero, ite_e0, ite_e1, lc_lt, lc_ge, lc_gt, lc_le, lc_eq, Classical.not_not]
  with_reducible repeat' (first | (refine And.intro ?_ ?_) | intro _)
  all_goals try omega
  all_goals first | omega | skip
  refine kc_walk_l R W (by omega) hf h6 q 719 0 a a _ _ _ (by omega) (by omega) Tu ha (fun c hc => ?_) (fun c hc => ?_) dd (s1'.trans s3)
  · rw [cpM_ne (fun e => absurd e.2.1 (by decide))]; exact h1 c hc
  · rw [cpM_eq hc]; exact h1 c hc
def drA (B : (Nat → Int) × Int) (kk : Int) : Int := if kk = -1 then B.2 else B.1 kk.toNat
theorem pc_dl {s : Int} (h : 0 ≤ s ∧ s < 4096) : pcN s.toNat = (dlP s 12).2 := (dl_pc (by omega) 12).symm
set_option maxRecDepth 100000 in
set_option maxHeartbeats 1000000 in
theorem kc_doors (R : RT True σ 1 P) (W : WF P) (hk : 22 ≤ k) {f s kk : Int}
    (q0 : ¬ ((0 ≤ f ∧ f < P 2 0) ∧ (0 ≤ s ∧ s < 2 ^ (P 2 0).toNat) ∧ ¬ band (s / 2 ^ f.toNat) 1 = 1 ∧ (dlP s 12).2 ≤ 6 ∧ (-1 ≤ kk ∧ kk < ((dlP s 12).2 : Nat))) → Q (some (vi (-1))) σ)
    (q1 : (0 ≤ f ∧ f < P 2 0) ∧ (0 ≤ s ∧ s < 2 ^ (P 2 0).toNat) ∧ ¬ band (s / 2 ^ f.toNat) 1 = 1 ∧ (dlP s 12).2 ≤ 6 ∧ (-1 ≤ kk ∧ kk < ((dlP s 12).2 : Nat)) → ∀ σ', same S9 σ σ' → Q (some (vi (drA (doP P f s) kk))) σ') : CC G w w k (0, 0) 115 [vr 0 0 0, vi f, vi s, vi kk] σ Q := by
  have w1 := W.sc.1
  have e0 := R.houses
  have p2 := p2_12 w1
  by_cases c1 : 0 ≤ f ∧ f < P 2 0
  · refine CC_vb ok115 (by decide) (sm3_ok G w) 60 [] (Nat.le_of_ble_eq_true rfl) ?_
    simp -implicitDefEqProofs only [↓b115_0, ↓b115_8, ↓b115_11, ↓b115_19, ↓b115_22, ↓b115_31, ↓b115_33, ↓b115_37, ↓b115_46, ↓b115_55, ↓b115_58, ↓b115_60, ↓b115_73, ↓b115_80, ↓b115_85, ↓b115_93, b115_0, b115_8, b115_11, b115_19, b115_22, b115_31, b115_33, b115_37, b115_46, b115_55, b115_58, b115_60, b115_73, b115_80, b115_85, b115_93, nLE2, layE7, layE4, layE3, layE2, e0, c1, k3_45, r45, n3_47, n3_249, k3_76, r76, n3_70, n3_71, I32, ↓xb, xb, ps, lpad, lat, aok2, rd2, aaok, aav, alok, alen, aok, akk, csum, isLg, cmpI, clsE, Option.elim, eq_self, List.mem_cons, List.not_mem_nil, or_false, false_or, List.append_nil, List.nil_append, List.cons_append, List.append_eq, List.replicate, List.length_cons, List.length_nil, List.map_cons, List.map_nil, ↓reduceIte, reduceCtorEq, if_true, if_false, true_and, and_true, false_and, and_false, and_self, not_true_eq_false, not_false_eq_true, forall_const, true_implies, false_implies, implies_true, Nat.reduceAdd, Nat.reduceSub, Nat.reduceLT, Nat.reduceLeDiff, Nat.reduceEqDiff, Nat.reduceMul, Nat.reducePow, Nat.add_one_ne_zero, Nat.add_one_sub_one, Nat.add_zero, Nat.zero_add, Int.reduceLT, Int.reduceLE, Int.reduceNeg, Int.reduceAdd, Int.reduceSub, Int.reduceToNat, Int.reduceEq, Int.reduceMul, Int.reducePow, Int.cast_ofNat_Int, Int.toNat_natCast, ne_eq, Bool.false_eq_true, true_or, or_true, or_self, Nat.not_lt_zero, ite_e0, ite_e1, lc_lt, lc_ge, lc_gt, lc_le, lc_eq, Classical.not_not]
    with_reducible repeat' (first | (refine And.intro ?_ ?_) | intro _)
    all_goals try omega
    all_goals first | omega | skip
    refine kc_isSet R W (by omega) ?_
    by_cases c2 : 0 ≤ s ∧ s < 2 ^ (P 2 0).toNat
    · rw [if_pos c2]
      by_cases c3 : band (s / 2 ^ f.toNat) 1 = 1
      · simp -implicitDefEqProofs only [↓b115_0, ↓b115_8, ↓b115_11, ↓b115_19, ↓b115_22, ↓b115_31, ↓b115_33, ↓b115_37, ↓b115_46, ↓b115_55, ↓b115_58, ↓b115_60, ↓b115_73, ↓b115_80, ↓b115_85, ↓b115_93, b115_0, b115_8, b115_11, b115_19, b115_22, b115_31, b115_33, b115_37, b115_46, b115_55, b115_58, b115_60, b115_73, b115_80, b115_85, b115_93, nLE2, layE7, layE4, layE3, layE2, c3, k3_45, r45, n3_47, n3_249, k3_76, r76, n3_70, n3_71, I32, ↓xb, xb, ps, lpad, lat, aok2, rd2, aaok, aav, alok, alen, aok, akk, csum, isLg, cmpI, clsE, Option.elim, eq_self, List.mem_cons, List.not_mem_nil, or_false, false_or, List.append_nil, List.nil_append, List.cons_append, List.append_eq, List.replicate, List.length_cons, List.length_nil, List.map_cons, List.map_nil, ↓reduceIte, reduceCtorEq, if_true, if_false, true_and, and_true, false_and, and_false, and_self, not_true_eq_false, not_false_eq_true, forall_const, true_implies, false_implies, implies_true, Nat.reduceAdd, Nat.reduceSub, Nat.reduceLT, Nat.reduceLeDiff, Nat.reduceEqDiff, Nat.reduceMul, Nat.reducePow, Nat.add_one_ne_zero, Nat.add_one_sub_one, Nat.add_zero, Nat.zero_add, Int.reduceLT, Int.reduceLE, Int.reduceNeg, Int.reduceAdd, Int.reduceSub, Int.reduceToNat, Int.reduceEq, Int.reduceMul, Int.reducePow, Int.cast_ofNat_Int, Int.toNat_natCast, ne_eq, Bool.false_eq_true, true_or, or_true, or_self, Nat.not_lt_zero, ite_e0, ite_e1, lc_lt, lc_ge, lc_gt, lc_le, lc_eq, Classical.not_not]
        with_reducible repeat' (first | (refine And.intro ?_ ?_) | intro _)
        all_goals try omega
        all_goals first | omega | exact q0 (fun z => z.2.2.1 c3)
      · have pe := pc_dl (s := s) (by omega)
        simp -implicitDefEqProofs only [↓b115_0, ↓b115_8, ↓b115_11, ↓b115_19, ↓b115_22, ↓b115_31, ↓b115_33, ↓b115_37, ↓b115_46, ↓b115_55, ↓b115_58, ↓b115_60, ↓b115_73, ↓b115_80, ↓b115_85, ↓b115_93, b115_0, b115_8, b115_11, b115_19, b115_22, b115_31, b115_33, b115_37, b115_46, b115_55, b115_58, b115_60, b115_73, b115_80, b115_85, b115_93, nLE2, layE7, layE4, layE3, layE2, c3, k3_45, r45, n3_47, n3_249, k3_76, r76, n3_70, n3_71, I32, ↓xb, xb, ps, lpad, lat, aok2, rd2, aaok, aav, alok, alen, aok, akk, csum, isLg, cmpI, clsE, Option.elim, eq_self, List.mem_cons, List.not_mem_nil, or_false, false_or, List.append_nil, List.nil_append, List.cons_append, List.append_eq, List.replicate, List.length_cons, List.length_nil, List.map_cons, List.map_nil, ↓reduceIte, reduceCtorEq, if_true, if_false, true_and, and_true, false_and, and_false, and_self, not_true_eq_false, not_false_eq_true, forall_const, true_implies, false_implies, implies_true, Nat.reduceAdd, Nat.reduceSub, Nat.reduceLT, Nat.reduceLeDiff, Nat.reduceEqDiff, Nat.reduceMul, Nat.reducePow, Nat.add_one_ne_zero, Nat.add_one_sub_one, Nat.add_zero, Nat.zero_add, Int.reduceLT, Int.reduceLE, Int.reduceNeg, Int.reduceAdd, Int.reduceSub, Int.reduceToNat, Int.reduceEq, Int.reduceMul, Int.reducePow, Int.cast_ofNat_Int, Int.toNat_natCast, ne_eq, Bool.false_eq_true, true_or, or_true, or_self, Nat.not_lt_zero, ite_e0, ite_e1, lc_lt, lc_ge, lc_gt, lc_le, lc_eq, Classical.not_not]
        with_reducible repeat' (first | (refine And.intro ?_ ?_) | intro _)
        all_goals try omega
        all_goals first | omega | skip
        refine kc_bc (by omega) (by omega) ?_
        rw [pe]
        by_cases c4 : (dlP s 12).2 ≤ 6
        · have c4' : ¬ (6 : Int) < ((dlP s 12).2 : Nat) := by omega
          simp -implicitDefEqProofs only [↓b115_0, ↓b115_8, ↓b115_11, ↓b115_19, ↓b115_22, ↓b115_31, ↓b115_33, ↓b115_37, ↓b115_46, ↓b115_55, ↓b115_58, ↓b115_60, ↓b115_73, ↓b115_80, ↓b115_85, ↓b115_93, b115_0, b115_8, b115_11, b115_19, b115_22, b115_31, b115_33, b115_37, b115_46, b115_55, b115_58, b115_60, b115_73, b115_80, b115_85, b115_93, nLE2, layE7, layE4, layE3, layE2, c4', k3_45, r45, n3_47, n3_249, k3_76, r76, n3_70, n3_71, I32, ↓xb, xb, ps, lpad, lat, aok2, rd2, aaok, aav, alok, alen, aok, akk, csum, isLg, cmpI, clsE, Option.elim, eq_self, List.mem_cons, List.not_mem_nil, or_false, false_or, List.append_nil, List.nil_append, List.cons_append, List.append_eq, List.replicate, List.length_cons, List.length_nil, List.map_cons, List.map_nil, ↓reduceIte, reduceCtorEq, if_true, if_false, true_and, and_true, false_and, and_false, and_self, not_true_eq_false, not_false_eq_true, forall_const, true_implies, false_implies, implies_true, Nat.reduceAdd, Nat.reduceSub, Nat.reduceLT, Nat.reduceLeDiff, Nat.reduceEqDiff, Nat.reduceMul, Nat.reducePow, Nat.add_one_ne_zero, Nat.add_one_sub_one, Nat.add_zero, Nat.zero_add, Int.reduceLT, Int.reduceLE, Int.reduceNeg, Int.reduceAdd, Int.reduceSub, Int.reduceToNat, Int.reduceEq, Int.reduceMul, Int.reducePow, Int.cast_ofNat_Int, Int.toNat_natCast, ne_eq, Bool.false_eq_true, true_or, or_true, or_self, Nat.not_lt_zero, ite_e0, ite_e1, lc_lt, lc_ge, lc_gt, lc_le, lc_eq, Classical.not_not]
          with_reducible repeat' (first | (refine And.intro ?_ ?_) | intro _)
          all_goals try omega
          all_goals first | omega | exact q0 (fun z => by omega) | skip
          rename_i c5
          refine kc_walk R W (by omega) (by omega) c2.1 c2.2 c4 (fun σ1 h1 s1 => ?_)
          have q2 := q1 ⟨c1, c2, c3, c4, by omega⟩ σ1 s1
          by_cases c6 : kk = -1
          · rw [show drA (doP P f s) kk = (doP P f s).2 from if_pos c6] at q2
            simp -implicitDefEqProofs only [↓b115_0, ↓b115_8, ↓b115_11, ↓b115_19, ↓b115_22, ↓b115_31, ↓b115_33, ↓b115_37, ↓b115_46, ↓b115_55, ↓b115_58, ↓b115_60, ↓b115_73, ↓b115_80, ↓b115_85, ↓b115_93, b115_0, b115_8, b115_11, b115_19, b115_22, b115_31, b115_33, b115_37, b115_46, b115_55, b115_58, b115_60, b115_73, b115_80, b115_85, b115_93, nLE2, layE7, layE4, layE3, layE2, c6, k3_45, r45, n3_47, n3_249, k3_76, r76, n3_70, n3_71, I32, ↓xb, xb, ps, lpad, lat, aok2, rd2, aaok, aav, alok, alen, aok, akk, csum, isLg, cmpI, clsE, Option.elim, eq_self, List.mem_cons, List.not_mem_nil, or_false, false_or, List.append_nil, List.nil_append, List.cons_append, List.append_eq, List.replicate, List.length_cons, List.length_nil, List.map_cons, List.map_nil, ↓reduceIte, reduceCtorEq, if_true, if_false, true_and, and_true, false_and, and_false, and_self, not_true_eq_false, not_false_eq_true, forall_const, true_implies, false_implies, implies_true, Nat.reduceAdd, Nat.reduceSub, Nat.reduceLT, Nat.reduceLeDiff, Nat.reduceEqDiff, Nat.reduceMul, Nat.reducePow, Nat.add_one_ne_zero, Nat.add_one_sub_one, Nat.add_zero, Nat.zero_add, Int.reduceLT, Int.reduceLE, Int.reduceNeg, Int.reduceAdd, Int.reduceSub, Int.reduceToNat, Int.reduceEq, Int.reduceMul, Int.reducePow, Int.cast_ofNat_Int, Int.toNat_natCast, ne_eq, Bool.false_eq_true, true_or, or_true, or_self, Nat.not_lt_zero, ite_e0, ite_e1, lc_lt, lc_ge, lc_gt, lc_le, lc_eq, Classical.not_not]
            with_reducible repeat' (first | (refine And.intro ?_ ?_) | intro _)
            all_goals try omega
            all_goals first | omega | exact q2
          · rw [show drA (doP P f s) kk = (doP P f s).1 kk.toNat from if_neg c6] at q2
            have hb := h1 kk.toNat (by omega)
            simp -implicitDefEqProofs only [↓b115_0, ↓b115_8, ↓b115_11, ↓b115_19, ↓b115_22, ↓b115_31, ↓b115_33, ↓b115_37, ↓b115_46, ↓b115_55, ↓b115_58, ↓b115_60, ↓b115_73, ↓b115_80, ↓b115_85, ↓b115_93, b115_0, b115_8, b115_11, b115_19, b115_22, b115_31, b115_33, b115_37, b115_46, b115_55, b115_58, b115_60, b115_73, b115_80, b115_85, b115_93, nLE2, layE7, layE4, layE3, layE2, c6, k3_45, r45, n3_47, n3_249, k3_76, r76, n3_70, n3_71, I32, ↓xb, xb, ps, lpad, lat, aok2, rd2, aaok, aav, alok, alen, aok, akk, csum, isLg, cmpI, clsE, Option.elim, eq_self, List.mem_cons, List.not_mem_nil, or_false, false_or, List.append_nil, List.nil_append, List.cons_append, List.append_eq, List.replicate, List.length_cons, List.length_nil, List.map_cons, List.map_nil, ↓reduceIte, reduceCtorEq, if_true, if_false, true_and, and_true, false_and, and_false, and_self, not_true_eq_false, not_false_eq_true, forall_const, true_implies, false_implies, implies_true, Nat.reduceAdd, Nat.reduceSub, Nat.reduceLT, Nat.reduceLeDiff, Nat.reduceEqDiff, Nat.reduceMul, Nat.reducePow, Nat.add_one_ne_zero, Nat.add_one_sub_one, Nat.add_zero, Nat.zero_add, Int.reduceLT, Int.reduceLE, Int.reduceNeg, Int.reduceAdd, Int.reduceSub, Int.reduceToNat, Int.reduceEq, Int.reduceMul, Int.reducePow, Int.cast_ofNat_Int, Int.toNat_natCast, ne_eq, Bool.false_eq_true, true_or, or_true, or_self, Nat.not_lt_zero, ite_e0, ite_e1, lc_lt, lc_ge, lc_gt, lc_le, lc_eq, Classical.not_not]
            with_reducible repeat' (first | (refine And.intro ?_ ?_) | intro _)
            all_goals try omega
            refine CC_vb ok71 (by decide) (sm3_ok G w) 60 [] (Nat.le_of_ble_eq_true rfl) ?_
            simp -implicitDefEqProofs only [↓b71_0, ↓b71_4, ↓b71_13, ↓b71_22, ↓b71_23, b71_0, b71_4, b71_13, b71_22, b71_23, nLE1, layE6, layE4, hb, I32, ↓xb, xb, ps, lpad, lat, aok2, rd2, aaok, aav, alok, alen, aok, akk, csum, isLg, cmpI, clsE, Option.elim, eq_self, List.mem_cons, List.not_mem_nil, or_false, false_or, List.append_nil, List.nil_append, List.cons_append, List.append_eq, List.replicate, List.length_cons, List.length_nil, List.map_cons, List.map_nil, ↓reduceIte, reduceCtorEq, if_true, if_false, true_and, and_true, false_and, and_false, and_self, not_true_eq_false, not_false_eq_true, forall_const, true_implies, false_implies, implies_true, Nat.reduceAdd, Nat.reduceSub, Nat.reduceLT, Nat.reduceLeDiff, Nat.reduceEqDiff, Nat.reduceMul, Nat.reducePow, Nat.add_one_ne_zero, Nat.add_one_sub_one, Nat.add_zero, Nat.zero_add, Int.reduceLT, Int.reduceLE, Int.reduceNeg, Int.reduceAdd, Int.reduceSub, Int.reduceToNat, Int.reduceEq, Int.reduceMul, Int.reducePow, Int.cast_ofNat_Int, Int.toNat_natCast, ne_eq, Bool.false_eq_true, true_or, or_true, or_self, Nat.not_lt_zero, ite_e0, ite_e1, lc_lt, lc_ge, lc_gt, lc_le, lc_eq, Classical.not_not]
            with_reducible repeat' (first | (refine And.intro ?_ ?_) | intro _)
            all_goals try omega
            all_goals first | omega | skip
            simp -implicitDefEqProofs only [↓b115_0, ↓b115_8, ↓b115_11, ↓b115_19, ↓b115_22, ↓b115_31, ↓b115_33, ↓b115_37, ↓b115_46, ↓b115_55, ↓b115_58, ↓b115_60, ↓b115_73, ↓b115_80, ↓b115_85, ↓b115_93, b115_0, b115_8, b115_11, b115_19, b115_22, b115_31, b115_33, b115_37, b115_46, b115_55, b115_58, b115_60, b115_73, b115_80, b115_85, b115_93, nLE2, layE7, layE4, layE3, layE2, c6, k3_45, r45, n3_47, n3_249, k3_76, r76, n3_70, n3_71, I32, ↓xb, xb, ps, lpad, lat, aok2, rd2, aaok, aav, alok, alen, aok, akk, csum, isLg, cmpI, clsE, Option.elim, eq_self, List.mem_cons, List.not_mem_nil, or_false, false_or, List.append_nil, List.nil_append, List.cons_append, List.append_eq, List.replicate, List.length_cons, List.length_nil, List.map_cons, List.map_nil, ↓reduceIte, reduceCtorEq, if_true, if_false, true_and, and_true, false_and, and_false, and_self, not_true_eq_false, not_false_eq_true, forall_const, true_implies, false_implies, implies_true, Nat.reduceAdd, Nat.reduceSub, Nat.reduceLT, Nat.reduceLeDiff, Nat.reduceEqDiff, Nat.reduceMul, Nat.reducePow, Nat.add_one_ne_zero, Nat.add_one_sub_one, Nat.add_zero, Nat.zero_add, Int.reduceLT, Int.reduceLE, Int.reduceNeg, Int.reduceAdd, Int.reduceSub, Int.reduceToNat, Int.reduceEq, Int.reduceMul, Int.reducePow, Int.cast_ofNat_Int, Int.toNat_natCast, ne_eq, Bool.false_eq_true, true_or, or_true, or_self, Nat.not_lt_zero, ite_e0, ite_e1, lc_lt, lc_ge, lc_gt, lc_le, lc_eq, Classical.not_not]
            with_reducible repeat' (first | (refine And.intro ?_ ?_) | intro _)
            all_goals try omega
            all_goals first | omega | exact q2
        · have c4' : (6 : Int) < ((dlP s 12).2 : Nat) := by omega
          simp -implicitDefEqProofs only [↓b115_0, ↓b115_8, ↓b115_11, ↓b115_19, ↓b115_22, ↓b115_31, ↓b115_33, ↓b115_37, ↓b115_46, ↓b115_55, ↓b115_58, ↓b115_60, ↓b115_73, ↓b115_80, ↓b115_85, ↓b115_93, b115_0, b115_8, b115_11, b115_19, b115_22, b115_31, b115_33, b115_37, b115_46, b115_55, b115_58, b115_60, b115_73, b115_80, b115_85, b115_93, nLE2, layE7, layE4, layE3, layE2, c4', k3_45, r45, n3_47, n3_249, k3_76, r76, n3_70, n3_71, I32, ↓xb, xb, ps, lpad, lat, aok2, rd2, aaok, aav, alok, alen, aok, akk, csum, isLg, cmpI, clsE, Option.elim, eq_self, List.mem_cons, List.not_mem_nil, or_false, false_or, List.append_nil, List.nil_append, List.cons_append, List.append_eq, List.replicate, List.length_cons, List.length_nil, List.map_cons, List.map_nil, ↓reduceIte, reduceCtorEq, if_true, if_false, true_and, and_true, false_and, and_false, and_self, not_true_eq_false, not_false_eq_true, forall_const, true_implies, false_implies, implies_true, Nat.reduceAdd, Nat.reduceSub, Nat.reduceLT, Nat.reduceLeDiff, Nat.reduceEqDiff, Nat.reduceMul, Nat.reducePow, Nat.add_one_ne_zero, Nat.add_one_sub_one, Nat.add_zero, Nat.zero_add, Int.reduceLT, Int.reduceLE, Int.reduceNeg, Int.reduceAdd, Int.reduceSub, Int.reduceToNat, Int.reduceEq, Int.reduceMul, Int.reducePow, Int.cast_ofNat_Int, Int.toNat_natCast, ne_eq, Bool.false_eq_true, true_or, or_true, or_self, Nat.not_lt_zero, ite_e0, ite_e1, lc_lt, lc_ge, lc_gt, lc_le, lc_eq, Classical.not_not]
          with_reducible repeat' (first | (refine And.intro ?_ ?_) | intro _)
          all_goals try omega
          all_goals first | omega | exact q0 (fun z => c4 z.2.2.2.1)
    · rw [if_neg c2]
      simp -implicitDefEqProofs only [↓b115_0, ↓b115_8, ↓b115_11, ↓b115_19, ↓b115_22, ↓b115_31, ↓b115_33, ↓b115_37, ↓b115_46, ↓b115_55, ↓b115_58, ↓b115_60, ↓b115_73, ↓b115_80, ↓b115_85, ↓b115_93, b115_0, b115_8, b115_11, b115_19, b115_22, b115_31, b115_33, b115_37, b115_46, b115_55, b115_58, b115_60, b115_73, b115_80, b115_85, b115_93, nLE2, layE7, layE4, layE3, layE2, e0, k3_45, r45, n3_47, n3_249, k3_76, r76, n3_70, n3_71, I32, ↓xb, xb, ps, lpad, lat, aok2, rd2, aaok, aav, alok, alen, aok, akk, csum, isLg, cmpI, clsE, Option.elim, eq_self, List.mem_cons, List.not_mem_nil, or_false, false_or, List.append_nil, List.nil_append, List.cons_append, List.append_eq, List.replicate, List.length_cons, List.length_nil, List.map_cons, List.map_nil, ↓reduceIte, reduceCtorEq, if_true, if_false, true_and, and_true, false_and, and_false, and_self, not_true_eq_false, not_false_eq_true, forall_const, true_implies, false_implies, implies_true, Nat.reduceAdd, Nat.reduceSub, Nat.reduceLT, Nat.reduceLeDiff, Nat.reduceEqDiff, Nat.reduceMul, Nat.reducePow, Nat.add_one_ne_zero, Nat.add_one_sub_one, Nat.add_zero, Nat.zero_add, Int.reduceLT, Int.reduceLE, Int.reduceNeg, Int.reduceAdd, Int.reduceSub, Int.reduceToNat, Int.reduceEq, Int.reduceMul, Int.reducePow, Int.cast_ofNat_Int, Int.toNat_natCast, ne_eq, Bool.false_eq_true, true_or, or_true, or_self, Nat.not_lt_zero, ite_e0, ite_e1, lc_lt, lc_ge, lc_gt, lc_le, lc_eq, Classical.not_not]
      with_reducible repeat' (first | (refine And.intro ?_ ?_) | intro _)
      all_goals try omega
      all_goals first | omega | exact q0 (fun z => c2 z.2.1)
  · refine CC_vb ok115 (by decide) (sm3_ok G w) 60 [11] (Nat.le_of_ble_eq_true rfl) ?_
    simp -implicitDefEqProofs only [↓b115_0, ↓b115_8, ↓b115_11, ↓b115_19, ↓b115_22, ↓b115_31, ↓b115_33, ↓b115_37, ↓b115_46, ↓b115_55, ↓b115_58, ↓b115_60, ↓b115_73, ↓b115_80, ↓b115_85, ↓b115_93, b115_0, b115_8, b115_11, b115_19, b115_22, b115_31, b115_33, b115_37, b115_46, b115_55, b115_58, b115_60, b115_73, b115_80, b115_85, b115_93, nLE2, layE7, layE4, layE3, layE2, e0, k3_45, r45, n3_47, n3_249, k3_76, r76, n3_70, n3_71, I32, ↓xb, xb, ps, lpad, lat, aok2, rd2, aaok, aav, alok, alen, aok, akk, csum, isLg, cmpI, clsE, Option.elim, eq_self, List.mem_cons, List.not_mem_nil, or_false, false_or, List.append_nil, List.nil_append, List.cons_append, List.append_eq, List.replicate, List.length_cons, List.length_nil, List.map_cons, List.map_nil, ↓reduceIte, reduceCtorEq, if_true, if_false, true_and, and_true, false_and, and_false, and_self, not_true_eq_false, not_false_eq_true, forall_const, true_implies, false_implies, implies_true, Nat.reduceAdd, Nat.reduceSub, Nat.reduceLT, Nat.reduceLeDiff, Nat.reduceEqDiff, Nat.reduceMul, Nat.reducePow, Nat.add_one_ne_zero, Nat.add_one_sub_one, Nat.add_zero, Nat.zero_add, Int.reduceLT, Int.reduceLE, Int.reduceNeg, Int.reduceAdd, Int.reduceSub, Int.reduceToNat, Int.reduceEq, Int.reduceMul, Int.reducePow, Int.cast_ofNat_Int, Int.toNat_natCast, ne_eq, Bool.false_eq_true, true_or, or_true, or_self, Nat.not_lt_zero, ite_e0, ite_e1, lc_lt, lc_ge, lc_gt, lc_le, lc_eq, Classical.not_not]
    with_reducible repeat' (first | (refine And.intro ?_ ?_) | intro _)
    all_goals try omega
    all_goals first | omega | exact q0 (fun z => c1 z.1)
end DR2

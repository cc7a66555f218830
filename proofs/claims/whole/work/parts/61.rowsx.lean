/-! 61.rowsx: rows (check) -/
def stF (P : Pt) (r : Nat → Int) (n : Nat) : (Nat → Int) × Int := iter (fun k s => ndF P (r k).toNat s) n (fun t => P 35 t, 0)
theorem st_c {P : Pt} {r r' : Nat → Int} (n : Nat) (h : ∀ j, j < n → r j = r' j) : stF P r n = stF P r' n := iter_congr n (fun i s hi => by rw [h i hi])
theorem st_r {P : Pt} (W : WF P) {r : Nat → Int} (n : Nat) : (∀ x, x < 5 → 0 ≤ (stF P r n).1 x ∧ (stF P r n).1 x ≤ 20) ∧ 0 ≤ (stF P r n).2 ∧ (stF P r n).2 ≤ 4995 * n := by
  refine iter_inv (st := fun k s => ndF P (r k).toNat s) (I := fun n s => (∀ x, x < 5 → 0 ≤ s.1 x ∧ s.1 x ≤ 20) ∧ 0 ≤ s.2 ∧ s.2 ≤ 4995 * (n : Nat)) ⟨fun x hx => (W.tu (n := x) hx).2.1, by simp, by simp⟩ (fun k s _ hs => ?_)
  obtain ⟨s1, s2, s3⟩ := hs
  have hv := hi_r W (w := (r k).toNat) (L := s.1) (c := s.2) 5 (by omega)
  refine ⟨fun x hx => ?_, ?_, ?_⟩
  · have y := s1 x hx
    have z := (W.tu (n := x) hx).1
    show 0 ≤ lvF P (r k).toNat s.1 x ∧ lvF P (r k).toNat s.1 x ≤ 20
    unfold lvF; split <;> omega
  · show 0 ≤ iter (hiS P (r k).toNat s.1) 5 s.2; omega
  · show iter (hiS P (r k).toNat s.1) 5 s.2 ≤ 4995 * ((k + 1 : Nat) : Int); omega
theorem lp_skip {f : Nat → (Nat → Int) × Int → (Nat → Int) × Int} {a : (Nat → Int) × Int} {y : Nat} (hy : y ≤ 5) : ∀ (d w : Nat), w + d = y → (∀ z, w ≤ z → z < y → f z a = a) → lpF f (5 - w) w a = lpF f (5 - y) y a
  | 0, w, h, _ => by rw [show w = y by omega]
  | d + 1, w, h, hf => by
    have e : 5 - w = (5 - (w + 1)) + 1 := by omega
    rw [e]
    show lpF f (5 - (w + 1)) (w + 1) (f w a) = _
    rw [hf w (Nat.le_refl _) (by omega)]
    exact lp_skip hy d (w + 1) (by omega) (fun z h1 h2 => hf z (by omega) h2)
abbrev S73 : Nat → Nat → Bool := fun o f => o == 21 && f == 73
section RWX
variable {G : Gl} {w : Wd} {k : Nat} {σ : Mem} {Q : Option AV → Mem → Prop} {P : Pt}
theorem MR.s73 {σ' : Mem} (M : MR σ P) (hs : same S73 σ σ') : MR σ' P := M.keep hs (fun f a b => by
  show ((21 : Nat) == 21 && f == 73) = false
  simp; omega)
set_option maxRecDepth 100000 in
set_option maxHeartbeats 1000000 in
theorem kx_hr_t (M0 : MR σ P) (W : WF P) (hk : 8 ≤ k) {n kk wk : Int} (hkk : 0 ≤ kk ∧ kk < 7) (hwk : 0 ≤ wk ∧ wk < 5) (hrow : σ 21 71 0 kk.toNat = wk) {s : (Nat → Int) × Int} (hs2 : 0 ≤ s.2 ∧ s.2 ≤ 40000) (hL : ∀ x, x < 5 → 0 ≤ s.1 x ∧ s.1 x ≤ 20)
    (q : ∀ σ', (∀ x, x < 5 → 0 < P 34 x → σ' 21 73 0 x = (ndF P wk.toNat s).1 x) → same S73 σ σ' → TT G w w w k (0, 0) 229 122 [some (vr 21 0 0), some (vi n), some (vi (ndF P wk.toNat s).2), some (vi kk), some (vi 5)] [] σ' Q) (hm : ∀ x, x < 5 → 0 < P 34 x → σ 21 73 0 x = s.1 x) :
    ∀ (m : Nat) (i : Int) (σ' : Mem), 0 ≤ i → i ≤ 5 → 5 < i + m → (∀ x : Nat, x < 5 → 0 < P 34 x → σ' 21 73 0 x = if (x : Int) < i then lvF P wk.toNat s.1 x else s.1 x) → same S73 σ σ' → TT G w w w k (0, 0) 229 23 [some (vr 21 0 0), some (vi n), some (vi (iter (hiS P wk.toNat s.1) i.toNat s.2)), some (vi kk), some (vi i)] [] σ' Q
  | 0, i, σ', h0, h1, h2, _, _ => by omega
  | m + 1, i, σ', h0, h1, h2, hc, hs => by
    have ih := kx_hr_t M0 W hk hkk hwk hrow hs2 hL q hm m (i + 1)
    rw [iter_toNat _ h0] at ih
    have M := M0.s73 hs
    have hM : ∀ f i, 2 ≤ f → f ≤ 38 → σ' 21 f 0 i = P f i := M
    have hrow' : σ' 21 71 0 kk.toNat = wk := (hs 21 71 rfl 0 _).trans hrow
    by_cases hi : i < 5
    · have tu := W.tu (n := i.toNat) (by omega)
      have hLi := hL i.toNat (by omega)
      have hr := hi_r W (w := wk.toNat) (L := s.1) (c := s.2) i.toNat (by omega)
      have ei : ((i.toNat : Nat) : Int) = i := by omega
      have lv : lvF P wk.toNat s.1 i.toNat = if i = wk then P 34 i.toNat else max 0 (s.1 i.toNat - 1) := by
        unfold lvF
        by_cases e : i = wk
        · rw [if_pos (by omega), if_pos e]
        · rw [if_neg (by omega), if_neg e]
      have hh : hiS P wk.toNat s.1 i.toNat (iter (hiS P wk.toNat s.1) i.toNat s.2) = if 0 < P 34 i.toNat ∧ i ≠ wk ∧ lvF P wk.toNat s.1 i.toNat = 0 then iter (hiS P wk.toNat s.1) i.toNat s.2 + P 36 i.toNat else iter (hiS P wk.toNat s.1) i.toNat s.2 := by
        unfold hiS
        by_cases c : 0 < P 34 i.toNat ∧ i ≠ wk ∧ lvF P wk.toNat s.1 i.toNat = 0
        · rw [if_pos c, if_pos ⟨c.1, by omega, c.2.2⟩]
        · rw [if_neg c, if_neg (fun z => c ⟨z.1, by omega, z.2.2⟩)]
      have stp : ∀ (σ2 : Mem) (c : Int), c = hiS P wk.toNat s.1 i.toNat (iter (hiS P wk.toNat s.1) i.toNat s.2) → (∀ x, x ≠ i.toNat → σ2 21 73 0 x = σ' 21 73 0 x) → (0 < P 34 i.toNat → σ2 21 73 0 i.toNat = lvF P wk.toNat s.1 i.toNat) → same S73 σ' σ2 → TT G w w w k (0, 0) 229 23 [some (vr 21 0 0), some (vi n), some (vi c), some (vi kk), some (vi (i + 1))] [] σ2 Q := fun σ2 c hc' h1' h2' h3' => by
        rw [hc']
        refine ih σ2 (by omega) (by omega) (by omega) (fun x hx hp => ?_) (hs.trans h3')
        by_cases e : x = i.toNat
        · subst e
          rw [if_pos (by omega)]; exact h2' hp
        · rw [h1' x e, hc x hx hp]
          by_cases l : (x : Int) < i
          · rw [if_pos l, if_pos (by omega)]
          · rw [if_neg l, if_neg (by omega)]
      rw [hh] at stp
      have hci := hc i.toNat (by omega)
      rw [if_neg (by omega)] at hci
      revert stp hr
      generalize iter (hiS P wk.toNat s.1) i.toNat s.2 = c0
      intro hr stp
      by_cases e : i = wk
      · rw [if_pos e] at lv
        have nw : ¬ (0 < P 34 i.toNat ∧ i ≠ wk ∧ lvF P wk.toNat s.1 i.toNat = 0) := fun z => z.2.1 e
        rw [if_neg nw] at stp
        have e' := eq_true e
        refine TT_vb ok229 (sm3_ok G w) 60 [23, 122] ?_
        simp -implicitDefEqProofs only [↓b229_0, ↓b229_11, ↓b229_15, ↓b229_20, ↓b229_23, ↓b229_29, ↓b229_40, ↓b229_57, ↓b229_67, ↓b229_85, ↓b229_89, ↓b229_90, ↓b229_103, ↓b229_113, ↓b229_114, ↓b229_116, ↓b229_122, ↓b229_128, b229_0, b229_11, b229_15, b229_20, b229_23, b229_29, b229_40, b229_57, b229_67, b229_85, b229_89, b229_90, b229_103, b229_113, b229_114, b229_116, b229_122, b229_128, nLE4, layE8, hM, hrow', e', n3_201, I32, ↓xb, xb, ps, lpad, lat, aok2, rd2, aaok, aav, alok, alen, aok, akk, csum, isLg, cmpI, clsE, Option.elim, eq_self, List.mem_cons, List.not_mem_nil, or_false, false_or, List.append_nil, List.nil_append, List.cons_append, List.append_eq, List.replicate, List.length_cons, List.length_nil, List.map_cons, List.map_nil, ↓reduceIte, reduceCtorEq, if_true, if_false, true_and, and_true, false_and, and_false, and_self, not_true_eq_false, not_false_eq_true, forall_const, true_implies, false_implies, implies_true, Nat.reduceAdd, Nat.reduceSub, Nat.reduceLT, Nat.reduceLeDiff, Nat.reduceEqDiff, Nat.reduceMul, Nat.reducePow, Nat.add_one_ne_zero, Nat.add_one_sub_one, Nat.add_zero, Nat.zero_add, Int.reduceLT, Int.reduceLE, Int.reduceNeg, Int.reduceAdd, Int.reduceSub, Int.reduceToNat, Int.reduceEq, Int.reduceMul, Int.reducePow, Int.cast_ofNat_Int, Int.toNat_natCast, ne_eq, Bool.false_eq_true, true_or, or_true, or_self, Nat.not_lt_zero, ite_e0, ite_e1, lc_lt, lc_ge, lc_gt, lc_le, lc_eq, Classical.not_not]
        with_reducible repeat' (first | (refine And.intro ?_ ?_) | intro _)
        all_goals try omega
        all_goals first | omega | exact stp _ _ rfl (fun x hx => upp_nc hx) (fun _ => by rw [upp_eq, lv]) (same.refl.put rfl)
      · rw [if_neg e] at lv
        by_cases hp : 0 < P 34 i.toNat
        · have hci' := hci hp
          have hp' : ¬ P 34 i.toNat ≤ 0 := by omega
          rw [lv] at stp
          refine TT_vb ok229 (sm3_ok G w) 60 [23, 122] ?_
          simp -implicitDefEqProofs only [↓b229_0, ↓b229_11, ↓b229_15, ↓b229_20, ↓b229_23, ↓b229_29, ↓b229_40, ↓b229_57, ↓b229_67, ↓b229_85, ↓b229_89, ↓b229_90, ↓b229_103, ↓b229_113, ↓b229_114, ↓b229_116, ↓b229_122, ↓b229_128, b229_0, b229_11, b229_15, b229_20, b229_23, b229_29, b229_40, b229_57, b229_67, b229_85, b229_89, b229_90, b229_103, b229_113, b229_114, b229_116, b229_122, b229_128, nLE4, layE8, hM, hrow', e, hp', hci', up_rd, n3_201, I32, ↓xb, xb, ps, lpad, lat, aok2, rd2, aaok, aav, alok, alen, aok, akk, csum, isLg, cmpI, clsE, Option.elim, eq_self, List.mem_cons, List.not_mem_nil, or_false, false_or, List.append_nil, List.nil_append, List.cons_append, List.append_eq, List.replicate, List.length_cons, List.length_nil, List.map_cons, List.map_nil, ↓reduceIte, reduceCtorEq, if_true, if_false, true_and, and_true, false_and, and_false, and_self, not_true_eq_false, not_false_eq_true, forall_const, true_implies, false_implies, implies_true, Nat.reduceAdd, Nat.reduceSub, Nat.reduceLT, Nat.reduceLeDiff, Nat.reduceEqDiff, Nat.reduceMul, Nat.reducePow, Nat.add_one_ne_zero, Nat.add_one_sub_one, Nat.add_zero, Nat.zero_add, Int.reduceLT, Int.reduceLE, Int.reduceNeg, Int.reduceAdd, Int.reduceSub, Int.reduceToNat, Int.reduceEq, Int.reduceMul, Int.reducePow, Int.cast_ofNat_Int, Int.toNat_natCast, ne_eq, Bool.false_eq_true, true_or, or_true, or_self, Nat.not_lt_zero, ite_e0, ite_e1, lc_lt, lc_ge, lc_gt, lc_le, lc_eq, Classical.not_not]
          with_reducible repeat' (first | (refine And.intro ?_ ?_) | intro _)
          all_goals try omega
          all_goals first | omega | skip
          all_goals first
            | exact stp _ _ (by rw [if_neg (fun z => by omega)]; omega) (fun x hx => upp_nc hx) (fun _ => by rw [upp_eq]; omega) (same.refl.put rfl)
            | exact stp _ _ (by rw [if_pos ⟨hp, e, by omega⟩]) (fun x hx => upp_nc hx) (fun _ => by rw [upp_eq]; omega) (same.refl.put rfl)
        · have hp' : P 34 i.toNat ≤ 0 := by omega
          rw [if_neg (fun z => hp z.1)] at stp
          refine TT_vb ok229 (sm3_ok G w) 60 [23, 122] ?_
          simp -implicitDefEqProofs only [↓b229_0, ↓b229_11, ↓b229_15, ↓b229_20, ↓b229_23, ↓b229_29, ↓b229_40, ↓b229_57, ↓b229_67, ↓b229_85, ↓b229_89, ↓b229_90, ↓b229_103, ↓b229_113, ↓b229_114, ↓b229_116, ↓b229_122, ↓b229_128, b229_0, b229_11, b229_15, b229_20, b229_23, b229_29, b229_40, b229_57, b229_67, b229_85, b229_89, b229_90, b229_103, b229_113, b229_114, b229_116, b229_122, b229_128, nLE4, layE8, hM, hrow', e, hp', n3_201, I32, ↓xb, xb, ps, lpad, lat, aok2, rd2, aaok, aav, alok, alen, aok, akk, csum, isLg, cmpI, clsE, Option.elim, eq_self, List.mem_cons, List.not_mem_nil, or_false, false_or, List.append_nil, List.nil_append, List.cons_append, List.append_eq, List.replicate, List.length_cons, List.length_nil, List.map_cons, List.map_nil, ↓reduceIte, reduceCtorEq, if_true, if_false, true_and, and_true, false_and, and_false, and_self, not_true_eq_false, not_false_eq_true, forall_const, true_implies, false_implies, implies_true, Nat.reduceAdd, Nat.reduceSub, Nat.reduceLT, Nat.reduceLeDiff, Nat.reduceEqDiff, Nat.reduceMul, Nat.reducePow, Nat.add_one_ne_zero, Nat.add_one_sub_one, Nat.add_zero, Nat.zero_add, Int.reduceLT, Int.reduceLE, Int.reduceNeg, Int.reduceAdd, Int.reduceSub, Int.reduceToNat, Int.reduceEq, Int.reduceMul, Int.reducePow, Int.cast_ofNat_Int, Int.toNat_natCast, ne_eq, Bool.false_eq_true, true_or, or_true, or_self, Nat.not_lt_zero, ite_e0, ite_e1, lc_lt, lc_ge, lc_gt, lc_le, lc_eq, Classical.not_not]
          with_reducible repeat' (first | (refine And.intro ?_ ?_) | intro _)
          all_goals try omega
          all_goals first | omega | exact stp σ' _ rfl (fun x hx => rfl) (fun z => absurd z hp) same.refl
    · have ei : i = 5 := by omega
      subst ei
      have n5 : (5 : Int).toNat = 5 := rfl
      refine TT_vb ok229 (sm3_ok G w) 60 [23, 122] ?_
      simp -implicitDefEqProofs only [↓b229_0, ↓b229_11, ↓b229_15, ↓b229_20, ↓b229_23, ↓b229_29, ↓b229_40, ↓b229_57, ↓b229_67, ↓b229_85, ↓b229_89, ↓b229_90, ↓b229_103, ↓b229_113, ↓b229_114, ↓b229_116, ↓b229_122, ↓b229_128, b229_0, b229_11, b229_15, b229_20, b229_23, b229_29, b229_40, b229_57, b229_67, b229_85, b229_89, b229_90, b229_103, b229_113, b229_114, b229_116, b229_122, b229_128, nLE4, layE8, h0, n3_201, I32, ↓xb, xb, ps, lpad, lat, aok2, rd2, aaok, aav, alok, alen, aok, akk, csum, isLg, cmpI, clsE, Option.elim, eq_self, List.mem_cons, List.not_mem_nil, or_false, false_or, List.append_nil, List.nil_append, List.cons_append, List.append_eq, List.replicate, List.length_cons, List.length_nil, List.map_cons, List.map_nil, ↓reduceIte, reduceCtorEq, if_true, if_false, true_and, and_true, false_and, and_false, and_self, not_true_eq_false, not_false_eq_true, forall_const, true_implies, false_implies, implies_true, Nat.reduceAdd, Nat.reduceSub, Nat.reduceLT, Nat.reduceLeDiff, Nat.reduceEqDiff, Nat.reduceMul, Nat.reducePow, Nat.add_one_ne_zero, Nat.add_one_sub_one, Nat.add_zero, Nat.zero_add, Int.reduceLT, Int.reduceLE, Int.reduceNeg, Int.reduceAdd, Int.reduceSub, Int.reduceToNat, Int.reduceEq, Int.reduceMul, Int.reducePow, Int.cast_ofNat_Int, Int.toNat_natCast, ne_eq, Bool.false_eq_true, true_or, or_true, or_self, Nat.not_lt_zero, ite_e0, ite_e1, lc_lt, lc_ge, lc_gt, lc_le, lc_eq, Classical.not_not]
      with_reducible repeat' (first | (refine And.intro ?_ ?_) | intro _)
      all_goals try omega
      exact q σ' (fun x hx hp => by rw [hc x hx hp, if_pos (by omega)]; rfl) hs
set_option maxRecDepth 100000 in
set_option maxHeartbeats 1000000 in
theorem kx_hr_k (M0 : MR σ P) (W : WF P) (hk : 8 ≤ k) {n : Nat} (hn : n ≤ 7) {r : Nat → Int} (hr : ∀ j, j < n → σ 21 71 0 j = r j ∧ 0 ≤ r j ∧ r j < 5) (q : ∀ σ', same S73 σ σ' → Q (some (vi (stF P r n).2)) σ') :
    ∀ (m : Nat) (i : Int) (σ' : Mem) (l4 : Option AV), 0 ≤ i → i ≤ n → n < i + m → (∀ x, x < 5 → 0 < P 34 x → σ' 21 73 0 x = (stF P r i.toNat).1 x) → same S73 σ σ' → TT G w w w k (0, 0) 229 15 [some (vr 21 0 0), some (vi n), some (vi (stF P r i.toNat).2), some (vi i), l4] [] σ' Q
  | 0, i, σ', l4, h0, h1, h2, _, _ => by omega
  | m + 1, i, σ', l4, h0, h1, h2, hc, hs => by
    have ih := kx_hr_k M0 W hk hn hr q m (i + 1)
    have st : stF P r (i + 1).toNat = ndF P (r i.toNat).toNat (stF P r i.toNat) := by unfold stF; exact iter_toNat _ h0 _
    rw [st] at ih
    have sr := st_r W (r := r) i.toNat
    by_cases hi : i < n
    · have hri := hr i.toNat (by omega)
      refine TT_vb ok229 (sm3_ok G w) 60 [15, 23] ?_
      simp -implicitDefEqProofs only [↓b229_0, ↓b229_11, ↓b229_15, ↓b229_20, ↓b229_23, ↓b229_29, ↓b229_40, ↓b229_57, ↓b229_67, ↓b229_85, ↓b229_89, ↓b229_90, ↓b229_103, ↓b229_113, ↓b229_114, ↓b229_116, ↓b229_122, ↓b229_128, b229_0, b229_11, b229_15, b229_20, b229_23, b229_29, b229_40, b229_57, b229_67, b229_85, b229_89, b229_90, b229_103, b229_113, b229_114, b229_116, b229_122, b229_128, nLE4, layE8, h0, n3_201, I32, ↓xb, xb, ps, lpad, lat, aok2, rd2, aaok, aav, alok, alen, aok, akk, csum, isLg, cmpI, clsE, Option.elim, eq_self, List.mem_cons, List.not_mem_nil, or_false, false_or, List.append_nil, List.nil_append, List.cons_append, List.append_eq, List.replicate, List.length_cons, List.length_nil, List.map_cons, List.map_nil, ↓reduceIte, reduceCtorEq, if_true, if_false, true_and, and_true, false_and, and_false, and_self, not_true_eq_false, not_false_eq_true, forall_const, true_implies, false_implies, implies_true, Nat.reduceAdd, Nat.reduceSub, Nat.reduceLT, Nat.reduceLeDiff, Nat.reduceEqDiff, Nat.reduceMul, Nat.reducePow, Nat.add_one_ne_zero, Nat.add_one_sub_one, Nat.add_zero, Nat.zero_add, Int.reduceLT, Int.reduceLE, Int.reduceNeg, Int.reduceAdd, Int.reduceSub, Int.reduceToNat, Int.reduceEq, Int.reduceMul, Int.reducePow, Int.cast_ofNat_Int, Int.toNat_natCast, ne_eq, Bool.false_eq_true, true_or, or_true, or_self, Nat.not_lt_zero, ite_e0, ite_e1, lc_lt, lc_ge, lc_gt, lc_le, lc_eq, Classical.not_not]
      with_reducible repeat' (first | (refine And.intro ?_ ?_) | intro _)
      all_goals try omega
      all_goals first | omega | skip
      refine kx_hr_t (σ := σ') (M0.s73 hs) W hk (kk := i) (wk := r i.toNat) (by omega) hri.2 ((hs 21 71 rfl 0 _).trans hri.1) (s := stF P r i.toNat) (by omega) sr.1 (fun σ2 h1 s2 => ?_) hc 6 0 σ' (by omega) (by omega) (by omega) (fun x hx hp => by rw [if_neg (by omega)]; exact hc x hx hp) same.refl
      refine TT_vb ok229 (sm3_ok G w) 60 [15] ?_
      simp -implicitDefEqProofs only [↓b229_0, ↓b229_11, ↓b229_15, ↓b229_20, ↓b229_23, ↓b229_29, ↓b229_40, ↓b229_57, ↓b229_67, ↓b229_85, ↓b229_89, ↓b229_90, ↓b229_103, ↓b229_113, ↓b229_114, ↓b229_116, ↓b229_122, ↓b229_128, b229_0, b229_11, b229_15, b229_20, b229_23, b229_29, b229_40, b229_57, b229_67, b229_85, b229_89, b229_90, b229_103, b229_113, b229_114, b229_116, b229_122, b229_128, nLE4, layE8, h0, n3_201, I32, ↓xb, xb, ps, lpad, lat, aok2, rd2, aaok, aav, alok, alen, aok, akk, csum, isLg, cmpI, clsE, Option.elim, eq_self, List.mem_cons, List.not_mem_nil, or_false, false_or, List.append_nil, List.nil_append, List.cons_append, List.append_eq, List.replicate, List.length_cons, List.length_nil, List.map_cons, List.map_nil, ↓reduceIte, reduceCtorEq, if_true, if_false, true_and, and_true, false_and, and_false, and_self, not_true_eq_false, not_false_eq_true, forall_const, true_implies, false_implies, implies_true, Nat.reduceAdd, Nat.reduceSub, Nat.reduceLT, Nat.reduceLeDiff, Nat.reduceEqDiff, Nat.reduceMul, Nat.reducePow, Nat.add_one_ne_zero, Nat.add_one_sub_one, Nat.add_zero, Nat.zero_add, Int.reduceLT, Int.reduceLE, Int.reduceNeg, Int.reduceAdd, Int.reduceSub, Int.reduceToNat, Int.reduceEq, Int.reduceMul, Int.reducePow, Int.cast_ofNat_Int, Int.toNat_natCast, ne_eq, Bool.false_eq_true, true_or, or_true, or_self, Nat.not_lt_zero, ite_e0, ite_e1, lc_lt, lc_ge, lc_gt, lc_le, lc_eq, Classical.not_not]
      with_reducible repeat' (first | (refine And.intro ?_ ?_) | intro _)
      all_goals try omega
      all_goals first | omega | exact ih σ2 _ (by omega) (by omega) (by omega) h1 (hs.trans s2)
    · have ei : i.toNat = n := by omega
      rw [ei]
      refine TT_vb ok229 (sm3_ok G w) 60 [15, 23] ?_
      simp -implicitDefEqProofs only [↓b229_0, ↓b229_11, ↓b229_15, ↓b229_20, ↓b229_23, ↓b229_29, ↓b229_40, ↓b229_57, ↓b229_67, ↓b229_85, ↓b229_89, ↓b229_90, ↓b229_103, ↓b229_113, ↓b229_114, ↓b229_116, ↓b229_122, ↓b229_128, b229_0, b229_11, b229_15, b229_20, b229_23, b229_29, b229_40, b229_57, b229_67, b229_85, b229_89, b229_90, b229_103, b229_113, b229_114, b229_116, b229_122, b229_128, nLE4, layE8, h0, n3_201, I32, ↓xb, xb, ps, lpad, lat, aok2, rd2, aaok, aav, alok, alen, aok, akk, csum, isLg, cmpI, clsE, Option.elim, eq_self, List.mem_cons, List.not_mem_nil, or_false, false_or, List.append_nil, List.nil_append, List.cons_append, List.append_eq, List.replicate, List.length_cons, List.length_nil, List.map_cons, List.map_nil, ↓reduceIte, reduceCtorEq, if_true, if_false, true_and, and_true, false_and, and_false, and_self, not_true_eq_false, not_false_eq_true, forall_const, true_implies, false_implies, implies_true, Nat.reduceAdd, Nat.reduceSub, Nat.reduceLT, Nat.reduceLeDiff, Nat.reduceEqDiff, Nat.reduceMul, Nat.reducePow, Nat.add_one_ne_zero, Nat.add_one_sub_one, Nat.add_zero, Nat.zero_add, Int.reduceLT, Int.reduceLE, Int.reduceNeg, Int.reduceAdd, Int.reduceSub, Int.reduceToNat, Int.reduceEq, Int.reduceMul, Int.reducePow, Int.cast_ofNat_Int, Int.toNat_natCast, ne_eq, Bool.false_eq_true, true_or, or_true, or_self, Nat.not_lt_zero, ite_e0, ite_e1, lc_lt, lc_ge, lc_gt, lc_le, lc_eq, Classical.not_not]
      with_reducible repeat' (first | (refine And.intro ?_ ?_) | intro _)
      all_goals try omega
      all_goals first | omega | exact q σ' hs
set_option maxRecDepth 100000 in
set_option maxHeartbeats 1000000 in
theorem kx_hr (M : MR σ P) (W : WF P) (hk : 12 ≤ k) {n : Nat} (hn : n ≤ 7) {r : Nat → Int} (hr : ∀ j, j < n → σ 21 71 0 j = r j ∧ 0 ≤ r j ∧ r j < 5) (q : ∀ σ', same S73 σ σ' → Q (some (vi (stF P r n).2)) σ') : CC G w w k (0, 0) 229 [vr 21 0 0, vi n] σ Q := by
  refine CC_vb ok229 (by decide) (sm3_ok G w) 60 [15] (Nat.le_of_ble_eq_true rfl) ?_
  simp -implicitDefEqProofs only [↓b229_0, ↓b229_11, ↓b229_15, ↓b229_20, ↓b229_23, ↓b229_29, ↓b229_40, ↓b229_57, ↓b229_67, ↓b229_85, ↓b229_89, ↓b229_90, ↓b229_103, ↓b229_113, ↓b229_114, ↓b229_116, ↓b229_122, ↓b229_128, b229_0, b229_11, b229_15, b229_20, b229_23, b229_29, b229_40, b229_57, b229_67, b229_85, b229_89, b229_90, b229_103, b229_113, b229_114, b229_116, b229_122, b229_128, nLE4, layE8, hk, n3_201, I32, ↓xb, xb, ps, lpad, lat, aok2, rd2, aaok, aav, alok, alen, aok, akk, csum, isLg, cmpI, clsE, Option.elim, eq_self, List.mem_cons, List.not_mem_nil, or_false, false_or, List.append_nil, List.nil_append, List.cons_append, List.append_eq, List.replicate, List.length_cons, List.length_nil, List.map_cons, List.map_nil, ↓reduceIte, reduceCtorEq, if_true, if_false, true_and, and_true, false_and, and_false, and_self, not_true_eq_false, not_false_eq_true, forall_const, true_implies, false_implies, implies_true, Nat.reduceAdd, Nat.reduceSub, Nat.reduceLT, Nat.reduceLeDiff, Nat.reduceEqDiff, Nat.reduceMul, Nat.reducePow, Nat.add_one_ne_zero, Nat.add_one_sub_one, Nat.add_zero, Nat.zero_add, Int.reduceLT, Int.reduceLE, Int.reduceNeg, Int.reduceAdd, Int.reduceSub, Int.reduceToNat, Int.reduceEq, Int.reduceMul, Int.reducePow, Int.cast_ofNat_Int, Int.toNat_natCast, ne_eq, Bool.false_eq_true, true_or, or_true, or_self, Nat.not_lt_zero, ite_e0, ite_e1, lc_lt, lc_ge, lc_gt, lc_le, lc_eq, Classical.not_not]
  with_reducible repeat' (first | (refine And.intro ?_ ?_) | intro _)
  all_goals try omega
  refine kx_cp (by omega) (f := 35) (g := 73) (by decide) (by decide) (by decide) (by decide) (by decide) rfl rfl (by decide) (fun σ1 a1 _ s1 => ?_)
  simp -implicitDefEqProofs only [↓b229_0, ↓b229_11, ↓b229_15, ↓b229_20, ↓b229_23, ↓b229_29, ↓b229_40, ↓b229_57, ↓b229_67, ↓b229_85, ↓b229_89, ↓b229_90, ↓b229_103, ↓b229_113, ↓b229_114, ↓b229_116, ↓b229_122, ↓b229_128, b229_0, b229_11, b229_15, b229_20, b229_23, b229_29, b229_40, b229_57, b229_67, b229_85, b229_89, b229_90, b229_103, b229_113, b229_114, b229_116, b229_122, b229_128, nLE4, layE8, hk, n3_201, I32, ↓xb, xb, ps, lpad, lat, aok2, rd2, aaok, aav, alok, alen, aok, akk, csum, isLg, cmpI, clsE, Option.elim, eq_self, List.mem_cons, List.not_mem_nil, or_false, false_or, List.append_nil, List.nil_append, List.cons_append, List.append_eq, List.replicate, List.length_cons, List.length_nil, List.map_cons, List.map_nil, ↓reduceIte, reduceCtorEq, if_true, if_false, true_and, and_true, false_and, and_false, and_self, not_true_eq_false, not_false_eq_true, forall_const, true_implies, false_implies, implies_true, Nat.reduceAdd, Nat.reduceSub, Nat.reduceLT, Nat.reduceLeDiff, Nat.reduceEqDiff, Nat.reduceMul, Nat.reducePow, Nat.add_one_ne_zero, Nat.add_one_sub_one, Nat.add_zero, Nat.zero_add, Int.reduceLT, Int.reduceLE, Int.reduceNeg, Int.reduceAdd, Int.reduceSub, Int.reduceToNat, Int.reduceEq, Int.reduceMul, Int.reducePow, Int.cast_ofNat_Int, Int.toNat_natCast, ne_eq, Bool.false_eq_true, true_or, or_true, or_self, Nat.not_lt_zero, ite_e0, ite_e1, lc_lt, lc_ge, lc_gt, lc_le, lc_eq, Classical.not_not]
  with_reducible repeat' (first | (refine And.intro ?_ ?_) | intro _)
  all_goals try omega
  refine kx_hr_k (σ := σ1) (M.s73 s1) W (by omega) hn (fun j hj => ⟨(s1 21 71 rfl 0 j).trans (hr j hj).1, (hr j hj).2⟩) (fun σ' s' => q σ' (same.trans s1 s')) 8 0 σ1 _ (by omega) (by omega) (by omega) (fun x hx hp => ?_) same.refl
  rw [a1 x hx]
  exact M 35 x (by decide) (by decide)
/-- no turner that was told behind x -/
def NoN (P : Pt) (x : Int) : Prop := ∀ z : Nat, x < z → z < 5 → P 34 z = 0
set_option maxRecDepth 100000 in
set_option maxHeartbeats 1000000 in
theorem kx_up_w (M0 : MR σ P) (W : WF P) (hk : 6 ≤ k) {n f i y : Int} (hi : 0 ≤ i ∧ i < 7) (hy : y = 5 ∨ (0 ≤ y ∧ y < 5 ∧ 0 < P 34 y.toNat)) (q : ∀ σ', σ' 21 71 0 i.toNat = y → (∀ j, j ≠ i.toNat → σ' 21 71 0 j = σ 21 71 0 j) → same S71 σ σ' → TT G w w w k (0, 0) 231 55 [some (vr 21 0 0), some (vi n), some (vi f), some (vi i)] [] σ' Q) :
    ∀ (m : Nat) (x : Int) (σ' : Mem), 0 ≤ x → x ≤ y → y ≤ x + m → (∀ z : Nat, x ≤ z → (z : Int) < y → P 34 z = 0) → σ' 21 71 0 i.toNat = x → (∀ j, j ≠ i.toNat → σ' 21 71 0 j = σ 21 71 0 j) → same S71 σ σ' → TT G w w w k (0, 0) 231 18 [some (vr 21 0 0), some (vi n), some (vi f), some (vi i)] [] σ' Q := fun m => by
  induction m with
  | zero =>
    intro x σ' h0 h1 h2 hz hx ho hs
    have e : x = y := by omega
    subst e
    have hM : ∀ f i, 2 ≤ f → f ≤ 38 → σ' 21 f 0 i = P f i := M0.s712 (S712_1 hs)
    rcases hy with h5 | ⟨a, b, c⟩
    · refine TT_vb ok231 (sm3_ok G w) 60 [18, 55] ?_
      simp -implicitDefEqProofs only [↓b231_0, ↓b231_4, ↓b231_8, ↓b231_18, ↓b231_28, ↓b231_42, ↓b231_55, ↓b231_65, ↓b231_67, ↓b231_80, b231_0, b231_4, b231_8, b231_18, b231_28, b231_42, b231_55, b231_65, b231_67, b231_80, nLE4, layE8, hx, I32, ↓xb, xb, ps, lpad, lat, aok2, rd2, aaok, aav, alok, alen, aok, akk, csum, isLg, cmpI, clsE, Option.elim, eq_self, List.mem_cons, List.not_mem_nil, or_false, false_or, List.append_nil, List.nil_append, List.cons_append, List.append_eq, List.replicate, List.length_cons, List.length_nil, List.map_cons, List.map_nil, ↓reduceIte, reduceCtorEq, if_true, if_false, true_and, and_true, false_and, and_false, and_self, not_true_eq_false, not_false_eq_true, forall_const, true_implies, false_implies, implies_true, Nat.reduceAdd, Nat.reduceSub, Nat.reduceLT, Nat.reduceLeDiff, Nat.reduceEqDiff, Nat.reduceMul, Nat.reducePow, Nat.add_one_ne_zero, Nat.add_one_sub_one, Nat.add_zero, Nat.zero_add, Int.reduceLT, Int.reduceLE, Int.reduceNeg, Int.reduceAdd, Int.reduceSub, Int.reduceToNat, Int.reduceEq, Int.reduceMul, Int.reducePow, Int.cast_ofNat_Int, Int.toNat_natCast, ne_eq, Bool.false_eq_true, true_or, or_true, or_self, Nat.not_lt_zero, ite_e0, ite_e1, lc_lt, lc_ge, lc_gt, lc_le, lc_eq, Classical.not_not]
      with_reducible repeat' (first | (refine And.intro ?_ ?_) | intro _)
      all_goals try omega
      all_goals first | omega | exact q σ' hx ho hs
    · have c' : ¬ P 34 x.toNat = 0 := by omega
      refine TT_vb ok231 (sm3_ok G w) 60 [18, 55] ?_
      simp -implicitDefEqProofs only [↓b231_0, ↓b231_4, ↓b231_8, ↓b231_18, ↓b231_28, ↓b231_42, ↓b231_55, ↓b231_65, ↓b231_67, ↓b231_80, b231_0, b231_4, b231_8, b231_18, b231_28, b231_42, b231_55, b231_65, b231_67, b231_80, nLE4, layE8, hx, hM, c', I32, ↓xb, xb, ps, lpad, lat, aok2, rd2, aaok, aav, alok, alen, aok, akk, csum, isLg, cmpI, clsE, Option.elim, eq_self, List.mem_cons, List.not_mem_nil, or_false, false_or, List.append_nil, List.nil_append, List.cons_append, List.append_eq, List.replicate, List.length_cons, List.length_nil, List.map_cons, List.map_nil, ↓reduceIte, reduceCtorEq, if_true, if_false, true_and, and_true, false_and, and_false, and_self, not_true_eq_false, not_false_eq_true, forall_const, true_implies, false_implies, implies_true, Nat.reduceAdd, Nat.reduceSub, Nat.reduceLT, Nat.reduceLeDiff, Nat.reduceEqDiff, Nat.reduceMul, Nat.reducePow, Nat.add_one_ne_zero, Nat.add_one_sub_one, Nat.add_zero, Nat.zero_add, Int.reduceLT, Int.reduceLE, Int.reduceNeg, Int.reduceAdd, Int.reduceSub, Int.reduceToNat, Int.reduceEq, Int.reduceMul, Int.reducePow, Int.cast_ofNat_Int, Int.toNat_natCast, ne_eq, Bool.false_eq_true, true_or, or_true, or_self, Nat.not_lt_zero, ite_e0, ite_e1, lc_lt, lc_ge, lc_gt, lc_le, lc_eq, Classical.not_not]
      with_reducible repeat' (first | (refine And.intro ?_ ?_) | intro _)
      all_goals try omega
      all_goals first | omega | exact q σ' hx ho hs
  | succ m ih =>
    intro x σ' h0 h1 h2 hz hx ho hs
    have hM : ∀ f i, 2 ≤ f → f ≤ 38 → σ' 21 f 0 i = P f i := M0.s712 (S712_1 hs)
    by_cases e : x = y
    · subst e
      rcases hy with h5 | ⟨a, b, c⟩
      · refine TT_vb ok231 (sm3_ok G w) 60 [18, 55] ?_
        simp -implicitDefEqProofs only [↓b231_0, ↓b231_4, ↓b231_8, ↓b231_18, ↓b231_28, ↓b231_42, ↓b231_55, ↓b231_65, ↓b231_67, ↓b231_80, b231_0, b231_4, b231_8, b231_18, b231_28, b231_42, b231_55, b231_65, b231_67, b231_80, nLE4, layE8, hx, I32, ↓xb, xb, ps, lpad, lat, aok2, rd2, aaok, aav, alok, alen, aok, akk, csum, isLg, cmpI, clsE, Option.elim, eq_self, List.mem_cons, List.not_mem_nil, or_false, false_or, List.append_nil, List.nil_append, List.cons_append, List.append_eq, List.replicate, List.length_cons, List.length_nil, List.map_cons, List.map_nil, ↓reduceIte, reduceCtorEq, if_true, if_false, true_and, and_true, false_and, and_false, and_self, not_true_eq_false, not_false_eq_true, forall_const, true_implies, false_implies, implies_true, Nat.reduceAdd, Nat.reduceSub, Nat.reduceLT, Nat.reduceLeDiff, Nat.reduceEqDiff, Nat.reduceMul, Nat.reducePow, Nat.add_one_ne_zero, Nat.add_one_sub_one, Nat.add_zero, Nat.zero_add, Int.reduceLT, Int.reduceLE, Int.reduceNeg, Int.reduceAdd, Int.reduceSub, Int.reduceToNat, Int.reduceEq, Int.reduceMul, Int.reducePow, Int.cast_ofNat_Int, Int.toNat_natCast, ne_eq, Bool.false_eq_true, true_or, or_true, or_self, Nat.not_lt_zero, ite_e0, ite_e1, lc_lt, lc_ge, lc_gt, lc_le, lc_eq, Classical.not_not]
        with_reducible repeat' (first | (refine And.intro ?_ ?_) | intro _)
        all_goals try omega
        all_goals first | omega | exact q σ' hx ho hs
      · have c' : ¬ P 34 x.toNat = 0 := by omega
        refine TT_vb ok231 (sm3_ok G w) 60 [18, 55] ?_
        simp -implicitDefEqProofs only [↓b231_0, ↓b231_4, ↓b231_8, ↓b231_18, ↓b231_28, ↓b231_42, ↓b231_55, ↓b231_65, ↓b231_67, ↓b231_80, b231_0, b231_4, b231_8, b231_18, b231_28, b231_42, b231_55, b231_65, b231_67, b231_80, nLE4, layE8, hx, hM, c', I32, ↓xb, xb, ps, lpad, lat, aok2, rd2, aaok, aav, alok, alen, aok, akk, csum, isLg, cmpI, clsE, Option.elim, eq_self, List.mem_cons, List.not_mem_nil, or_false, false_or, List.append_nil, List.nil_append, List.cons_append, List.append_eq, List.replicate, List.length_cons, List.length_nil, List.map_cons, List.map_nil, ↓reduceIte, reduceCtorEq, if_true, if_false, true_and, and_true, false_and, and_false, and_self, not_true_eq_false, not_false_eq_true, forall_const, true_implies, false_implies, implies_true, Nat.reduceAdd, Nat.reduceSub, Nat.reduceLT, Nat.reduceLeDiff, Nat.reduceEqDiff, Nat.reduceMul, Nat.reducePow, Nat.add_one_ne_zero, Nat.add_one_sub_one, Nat.add_zero, Nat.zero_add, Int.reduceLT, Int.reduceLE, Int.reduceNeg, Int.reduceAdd, Int.reduceSub, Int.reduceToNat, Int.reduceEq, Int.reduceMul, Int.reducePow, Int.cast_ofNat_Int, Int.toNat_natCast, ne_eq, Bool.false_eq_true, true_or, or_true, or_self, Nat.not_lt_zero, ite_e0, ite_e1, lc_lt, lc_ge, lc_gt, lc_le, lc_eq, Classical.not_not]
        with_reducible repeat' (first | (refine And.intro ?_ ?_) | intro _)
        all_goals try omega
        all_goals first | omega | exact q σ' hx ho hs
    · have z0 := hz x.toNat (by omega) (by omega)
      refine TT_vb ok231 (sm3_ok G w) 60 [18, 55] ?_
      simp -implicitDefEqProofs only [↓b231_0, ↓b231_4, ↓b231_8, ↓b231_18, ↓b231_28, ↓b231_42, ↓b231_55, ↓b231_65, ↓b231_67, ↓b231_80, b231_0, b231_4, b231_8, b231_18, b231_28, b231_42, b231_55, b231_65, b231_67, b231_80, nLE4, layE8, hx, hM, z0, I32, ↓xb, xb, ps, lpad, lat, aok2, rd2, aaok, aav, alok, alen, aok, akk, csum, isLg, cmpI, clsE, Option.elim, eq_self, List.mem_cons, List.not_mem_nil, or_false, false_or, List.append_nil, List.nil_append, List.cons_append, List.append_eq, List.replicate, List.length_cons, List.length_nil, List.map_cons, List.map_nil, ↓reduceIte, reduceCtorEq, if_true, if_false, true_and, and_true, false_and, and_false, and_self, not_true_eq_false, not_false_eq_true, forall_const, true_implies, false_implies, implies_true, Nat.reduceAdd, Nat.reduceSub, Nat.reduceLT, Nat.reduceLeDiff, Nat.reduceEqDiff, Nat.reduceMul, Nat.reducePow, Nat.add_one_ne_zero, Nat.add_one_sub_one, Nat.add_zero, Nat.zero_add, Int.reduceLT, Int.reduceLE, Int.reduceNeg, Int.reduceAdd, Int.reduceSub, Int.reduceToNat, Int.reduceEq, Int.reduceMul, Int.reducePow, Int.cast_ofNat_Int, Int.toNat_natCast, ne_eq, Bool.false_eq_true, true_or, or_true, or_self, Nat.not_lt_zero, ite_e0, ite_e1, lc_lt, lc_ge, lc_gt, lc_le, lc_eq, Classical.not_not]
      with_reducible repeat' (first | (refine And.intro ?_ ?_) | intro _)
      all_goals try omega
      all_goals first | omega | skip
      exact ih (x + 1) _ (by omega) (by omega) (by omega) (fun z a b => hz z (by omega) b) (upp_eq) (fun j hj => (upp_nc hj).trans (ho j hj)) (hs.put rfl)
set_option maxRecDepth 100000 in
set_option maxHeartbeats 1000000 in
theorem kx_up_l (M0 : MR σ P) (W : WF P) (hk : 8 ≤ k) {n t : Nat} (hn : n ≤ 7) {f y : Int} (hf : 0 ≤ f ∧ f < 5) (hno : ∀ j, t ≤ j → j < n → (0 ≤ σ 21 71 0 j ∧ σ 21 71 0 j < 5) ∧ NoN P (σ 21 71 0 j)) (htn : t ≤ n)
    (hx : 1 ≤ t → (0 ≤ σ 21 71 0 (t - 1) ∧ σ 21 71 0 (t - 1) < y ∧ y < 5 ∧ 0 < P 34 y.toNat) ∧ ∀ z : Nat, σ 21 71 0 (t - 1) < z → (z : Int) < y → P 34 z = 0)
    (q0 : t = 0 → ∀ σ', same S71 σ σ' → Q (some (vi 0)) σ')
    (q1 : 1 ≤ t → ∀ σ', (∀ j, j < t - 1 → σ' 21 71 0 j = σ 21 71 0 j) → σ' 21 71 0 (t - 1) = y → (∀ j, t ≤ j → j < n → σ' 21 71 0 j = f) → same S71 σ σ' → Q (some (vi 1)) σ') :
    ∀ (i : Nat) (σ' : Mem), t ≤ i → i ≤ n → (∀ j, j < i → σ' 21 71 0 j = σ 21 71 0 j) → (∀ j, i ≤ j → j < n → σ' 21 71 0 j = f) → same S71 σ σ' → TT G w w w k (0, 0) 231 4 [some (vr 21 0 0), some (vi n), some (vi f), some (vi ((i : Int) - 1))] [] σ' Q := fun i => by
  induction i with
  | zero =>
    intro σ' h1 h2 hb ha hs
    have t0 : t = 0 := by omega
    have z := q0 t0 σ' hs
    refine TT_vb ok231 (sm3_ok G w) 60 [4, 18] ?_
    simp -implicitDefEqProofs only [↓b231_0, ↓b231_4, ↓b231_8, ↓b231_18, ↓b231_28, ↓b231_42, ↓b231_55, ↓b231_65, ↓b231_67, ↓b231_80, b231_0, b231_4, b231_8, b231_18, b231_28, b231_42, b231_55, b231_65, b231_67, b231_80, nLE4, layE8, hk, I32, ↓xb, xb, ps, lpad, lat, aok2, rd2, aaok, aav, alok, alen, aok, akk, csum, isLg, cmpI, clsE, Option.elim, eq_self, List.mem_cons, List.not_mem_nil, or_false, false_or, List.append_nil, List.nil_append, List.cons_append, List.append_eq, List.replicate, List.length_cons, List.length_nil, List.map_cons, List.map_nil, ↓reduceIte, reduceCtorEq, if_true, if_false, true_and, and_true, false_and, and_false, and_self, not_true_eq_false, not_false_eq_true, forall_const, true_implies, false_implies, implies_true, Nat.reduceAdd, Nat.reduceSub, Nat.reduceLT, Nat.reduceLeDiff, Nat.reduceEqDiff, Nat.reduceMul, Nat.reducePow, Nat.add_one_ne_zero, Nat.add_one_sub_one, Nat.add_zero, Nat.zero_add, Int.reduceLT, Int.reduceLE, Int.reduceNeg, Int.reduceAdd, Int.reduceSub, Int.reduceToNat, Int.reduceEq, Int.reduceMul, Int.reducePow, Int.cast_ofNat_Int, Int.toNat_natCast, ne_eq, Bool.false_eq_true, true_or, or_true, or_self, Nat.not_lt_zero, ite_e0, ite_e1, lc_lt, lc_ge, lc_gt, lc_le, lc_eq, Classical.not_not]
    with_reducible repeat' (first | (refine And.intro ?_ ?_) | intro _)
    all_goals try omega
    all_goals first | omega | exact z
  | succ i ih =>
    intro σ' h1 h2 hb ha hs
    have hbi := hb i (by omega)
    have e1 : ((i + 1 : Nat) : Int) - 1 = (i : Int) := by omega
    rw [e1]
    have M := M0.s712 (S712_1 hs)
    by_cases c : t ≤ i
    · have nn := hno i c (by omega)
      refine TT_vb ok231 (sm3_ok G w) 60 [4, 18] ?_
      simp -implicitDefEqProofs only [↓b231_0, ↓b231_4, ↓b231_8, ↓b231_18, ↓b231_28, ↓b231_42, ↓b231_55, ↓b231_65, ↓b231_67, ↓b231_80, b231_0, b231_4, b231_8, b231_18, b231_28, b231_42, b231_55, b231_65, b231_67, b231_80, nLE4, layE8, hk, I32, ↓xb, xb, ps, lpad, lat, aok2, rd2, aaok, aav, alok, alen, aok, akk, csum, isLg, cmpI, clsE, Option.elim, eq_self, List.mem_cons, List.not_mem_nil, or_false, false_or, List.append_nil, List.nil_append, List.cons_append, List.append_eq, List.replicate, List.length_cons, List.length_nil, List.map_cons, List.map_nil, ↓reduceIte, reduceCtorEq, if_true, if_false, true_and, and_true, false_and, and_false, and_self, not_true_eq_false, not_false_eq_true, forall_const, true_implies, false_implies, implies_true, Nat.reduceAdd, Nat.reduceSub, Nat.reduceLT, Nat.reduceLeDiff, Nat.reduceEqDiff, Nat.reduceMul, Nat.reducePow, Nat.add_one_ne_zero, Nat.add_one_sub_one, Nat.add_zero, Nat.zero_add, Int.reduceLT, Int.reduceLE, Int.reduceNeg, Int.reduceAdd, Int.reduceSub, Int.reduceToNat, Int.reduceEq, Int.reduceMul, Int.reducePow, Int.cast_ofNat_Int, Int.toNat_natCast, ne_eq, Bool.false_eq_true, true_or, or_true, or_self, Nat.not_lt_zero, ite_e0, ite_e1, lc_lt, lc_ge, lc_gt, lc_le, lc_eq, Classical.not_not]
      with_reducible repeat' (first | (refine And.intro ?_ ?_) | intro _)
      all_goals try omega
      all_goals first | omega | skip
      refine kx_up_w (σ := σ') (y := 5) M W (by omega) (by omega) (Or.inl rfl) (fun σ2 r1 r2 s2 => ?_) 6 (σ 21 71 0 i + 1) _ (by omega) (by omega) (by omega) (fun z a b => nn.2 z (by omega) (by omega)) ?_ (fun j hj => upp_nc hj) (same.refl.put rfl)
      · rw [show ((i : Nat) : Int).toNat = i by omega] at r1 r2
        refine TT_vb ok231 (sm3_ok G w) 60 [4] ?_
        simp -implicitDefEqProofs only [↓b231_0, ↓b231_4, ↓b231_8, ↓b231_18, ↓b231_28, ↓b231_42, ↓b231_55, ↓b231_65, ↓b231_67, ↓b231_80, b231_0, b231_4, b231_8, b231_18, b231_28, b231_42, b231_55, b231_65, b231_67, b231_80, nLE4, layE8, r1, I32, ↓xb, xb, ps, lpad, lat, aok2, rd2, aaok, aav, alok, alen, aok, akk, csum, isLg, cmpI, clsE, Option.elim, eq_self, List.mem_cons, List.not_mem_nil, or_false, false_or, List.append_nil, List.nil_append, List.cons_append, List.append_eq, List.replicate, List.length_cons, List.length_nil, List.map_cons, List.map_nil, ↓reduceIte, reduceCtorEq, if_true, if_false, true_and, and_true, false_and, and_false, and_self, not_true_eq_false, not_false_eq_true, forall_const, true_implies, false_implies, implies_true, Nat.reduceAdd, Nat.reduceSub, Nat.reduceLT, Nat.reduceLeDiff, Nat.reduceEqDiff, Nat.reduceMul, Nat.reducePow, Nat.add_one_ne_zero, Nat.add_one_sub_one, Nat.add_zero, Nat.zero_add, Int.reduceLT, Int.reduceLE, Int.reduceNeg, Int.reduceAdd, Int.reduceSub, Int.reduceToNat, Int.reduceEq, Int.reduceMul, Int.reducePow, Int.cast_ofNat_Int, Int.toNat_natCast, ne_eq, Bool.false_eq_true, true_or, or_true, or_self, Nat.not_lt_zero, ite_e0, ite_e1, lc_lt, lc_ge, lc_gt, lc_le, lc_eq, Classical.not_not]
        with_reducible repeat' (first | (refine And.intro ?_ ?_) | intro _)
        all_goals try omega
        all_goals first | omega | skip
        rw [show ((i : Nat) : Int) + -1 = (i : Int) - 1 by omega]
        refine ih _ c (by omega) (fun j hj => ?_) (fun j h1 h2 => ?_) ((hs.trans s2).put rfl)
        · rw [upp_nc (by omega), r2 j (by omega)]; exact hb j (by omega)
        · by_cases e : j = i
          · subst e; rw [upp_eq]
          · rw [upp_nc e, r2 j e]; exact ha j (by omega) h2
      · rw [show ((i : Nat) : Int).toNat = i by omega, upp_eq, hbi]
    · have ti : t = i + 1 := by omega
      obtain ⟨x1, x2⟩ := hx (by omega)
      rw [show t - 1 = i by omega] at x1 x2
      refine TT_vb ok231 (sm3_ok G w) 60 [4, 18] ?_
      simp -implicitDefEqProofs only [↓b231_0, ↓b231_4, ↓b231_8, ↓b231_18, ↓b231_28, ↓b231_42, ↓b231_55, ↓b231_65, ↓b231_67, ↓b231_80, b231_0, b231_4, b231_8, b231_18, b231_28, b231_42, b231_55, b231_65, b231_67, b231_80, nLE4, layE8, hk, I32, ↓xb, xb, ps, lpad, lat, aok2, rd2, aaok, aav, alok, alen, aok, akk, csum, isLg, cmpI, clsE, Option.elim, eq_self, List.mem_cons, List.not_mem_nil, or_false, false_or, List.append_nil, List.nil_append, List.cons_append, List.append_eq, List.replicate, List.length_cons, List.length_nil, List.map_cons, List.map_nil, ↓reduceIte, reduceCtorEq, if_true, if_false, true_and, and_true, false_and, and_false, and_self, not_true_eq_false, not_false_eq_true, forall_const, true_implies, false_implies, implies_true, Nat.reduceAdd, Nat.reduceSub, Nat.reduceLT, Nat.reduceLeDiff, Nat.reduceEqDiff, Nat.reduceMul, Nat.reducePow, Nat.add_one_ne_zero, Nat.add_one_sub_one, Nat.add_zero, Nat.zero_add, Int.reduceLT, Int.reduceLE, Int.reduceNeg, Int.reduceAdd, Int.reduceSub, Int.reduceToNat, Int.reduceEq, Int.reduceMul, Int.reducePow, Int.cast_ofNat_Int, Int.toNat_natCast, ne_eq, Bool.false_eq_true, true_or, or_true, or_self, Nat.not_lt_zero, ite_e0, ite_e1, lc_lt, lc_ge, lc_gt, lc_le, lc_eq, Classical.not_not]
      with_reducible repeat' (first | (refine And.intro ?_ ?_) | intro _)
      all_goals try omega
      all_goals first | omega | skip
      refine kx_up_w (σ := σ') (y := y) M W (by omega) (by omega) (Or.inr ⟨by omega, x1.2.2.1, x1.2.2.2⟩) (fun σ2 r1 r2 s2 => ?_) 6 (σ 21 71 0 i + 1) _ (by omega) (by omega) (by omega) (fun z a b => x2 z (by omega) b) ?_ (fun j hj => upp_nc hj) (same.refl.put rfl)
      · rw [show ((i : Nat) : Int).toNat = i by omega] at r1 r2
        have zz := q1 (by omega) σ2 (fun j hj => (r2 j (by omega)).trans (hb j (by omega))) (by rw [show t - 1 = i by omega]; exact r1) (fun j h1 h2 => (r2 j (by omega)).trans (ha j (by omega) h2)) (hs.trans s2)
        refine TT_vb ok231 (sm3_ok G w) 60 [4] ?_
        simp -implicitDefEqProofs only [↓b231_0, ↓b231_4, ↓b231_8, ↓b231_18, ↓b231_28, ↓b231_42, ↓b231_55, ↓b231_65, ↓b231_67, ↓b231_80, b231_0, b231_4, b231_8, b231_18, b231_28, b231_42, b231_55, b231_65, b231_67, b231_80, nLE4, layE8, r1, I32, ↓xb, xb, ps, lpad, lat, aok2, rd2, aaok, aav, alok, alen, aok, akk, csum, isLg, cmpI, clsE, Option.elim, eq_self, List.mem_cons, List.not_mem_nil, or_false, false_or, List.append_nil, List.nil_append, List.cons_append, List.append_eq, List.replicate, List.length_cons, List.length_nil, List.map_cons, List.map_nil, ↓reduceIte, reduceCtorEq, if_true, if_false, true_and, and_true, false_and, and_false, and_self, not_true_eq_false, not_false_eq_true, forall_const, true_implies, false_implies, implies_true, Nat.reduceAdd, Nat.reduceSub, Nat.reduceLT, Nat.reduceLeDiff, Nat.reduceEqDiff, Nat.reduceMul, Nat.reducePow, Nat.add_one_ne_zero, Nat.add_one_sub_one, Nat.add_zero, Nat.zero_add, Int.reduceLT, Int.reduceLE, Int.reduceNeg, Int.reduceAdd, Int.reduceSub, Int.reduceToNat, Int.reduceEq, Int.reduceMul, Int.reducePow, Int.cast_ofNat_Int, Int.toNat_natCast, ne_eq, Bool.false_eq_true, true_or, or_true, or_self, Nat.not_lt_zero, ite_e0, ite_e1, lc_lt, lc_ge, lc_gt, lc_le, lc_eq, Classical.not_not]
        with_reducible repeat' (first | (refine And.intro ?_ ?_) | intro _)
        all_goals try omega
        all_goals first | omega | exact zz
      · rw [show ((i : Nat) : Int).toNat = i by omega, upp_eq, hbi]
set_option maxRecDepth 100000 in
set_option maxHeartbeats 1000000 in
theorem kx_up (M : MR σ P) (W : WF P) (hk : 10 ≤ k) {n t : Nat} (hn : n ≤ 7) {f y : Int} (hf : 0 ≤ f ∧ f < 5) (hno : ∀ j, t ≤ j → j < n → (0 ≤ σ 21 71 0 j ∧ σ 21 71 0 j < 5) ∧ NoN P (σ 21 71 0 j)) (htn : t ≤ n)
    (hx : 1 ≤ t → (0 ≤ σ 21 71 0 (t - 1) ∧ σ 21 71 0 (t - 1) < y ∧ y < 5 ∧ 0 < P 34 y.toNat) ∧ ∀ z : Nat, σ 21 71 0 (t - 1) < z → (z : Int) < y → P 34 z = 0)
    (q0 : t = 0 → ∀ σ', same S71 σ σ' → Q (some (vi 0)) σ')
    (q1 : 1 ≤ t → ∀ σ', (∀ j, j < t - 1 → σ' 21 71 0 j = σ 21 71 0 j) → σ' 21 71 0 (t - 1) = y → (∀ j, t ≤ j → j < n → σ' 21 71 0 j = f) → same S71 σ σ' → Q (some (vi 1)) σ') : CC G w w k (0, 0) 231 [vr 21 0 0, vi n, vi f] σ Q := by
  refine CC_vb ok231 (by decide) (sm3_ok G w) 60 [4] (Nat.le_of_ble_eq_true rfl) ?_
  simp -implicitDefEqProofs only [↓b231_0, ↓b231_4, ↓b231_8, ↓b231_18, ↓b231_28, ↓b231_42, ↓b231_55, ↓b231_65, ↓b231_67, ↓b231_80, b231_0, b231_4, b231_8, b231_18, b231_28, b231_42, b231_55, b231_65, b231_67, b231_80, nLE4, layE8, hk, I32, ↓xb, xb, ps, lpad, lat, aok2, rd2, aaok, aav, alok, alen, aok, akk, csum, isLg, cmpI, clsE, Option.elim, eq_self, List.mem_cons, List.not_mem_nil, or_false, false_or, List.append_nil, List.nil_append, List.cons_append, List.append_eq, List.replicate, List.length_cons, List.length_nil, List.map_cons, List.map_nil, ↓reduceIte, reduceCtorEq, if_true, if_false, true_and, and_true, false_and, and_false, and_self, not_true_eq_false, not_false_eq_true, forall_const, true_implies, false_implies, implies_true, Nat.reduceAdd, Nat.reduceSub, Nat.reduceLT, Nat.reduceLeDiff, Nat.reduceEqDiff, Nat.reduceMul, Nat.reducePow, Nat.add_one_ne_zero, Nat.add_one_sub_one, Nat.add_zero, Nat.zero_add, Int.reduceLT, Int.reduceLE, Int.reduceNeg, Int.reduceAdd, Int.reduceSub, Int.reduceToNat, Int.reduceEq, Int.reduceMul, Int.reducePow, Int.cast_ofNat_Int, Int.toNat_natCast, ne_eq, Bool.false_eq_true, true_or, or_true, or_self, Nat.not_lt_zero, ite_e0, ite_e1, lc_lt, lc_ge, lc_gt, lc_le, lc_eq, Classical.not_not]
  with_reducible repeat' (first | (refine And.intro ?_ ?_) | intro _)
  all_goals try omega
  all_goals first | omega | exact kx_up_l M W (by omega) hn hf hno htn hx q0 q1 n σ htn (Nat.le_refl _) (fun _ _ => rfl) (fun j h1 h2 => by omega) same.refl
end RWX

/-! 82.digx: a number; what is counted (check) -/
abbrev S401 : Nat → Nat → Bool := fun o f => o == 21 && (f == 40 || f == 41)
section DGX
variable {G : Gl} {w : Wd} {k : Nat} {σ : Mem} {Q : Option AV → Mem → Prop} {t : Nat → Int} {N : Nat}
set_option maxRecDepth 100000 in
set_option maxHeartbeats 1000000 in
theorem kx_fails0 (hk : 4 ≤ k) (e : σ 21 41 0 0 = 0) {x p : Int} (hx : 0 ≤ x ∧ x ≤ 4) (hp : 0 ≤ p ∧ p ≤ 1000) (q : Q none (up σ 21 41 0 0 (1 + 8 * p + x))) : CC G w w k (0, 0) 153 [vr 21 0 0, vi x, vi p] σ Q := by
  refine CC_vb ok153 (by decide) (sm3_ok G w) 60 [] (Nat.le_of_ble_eq_true rfl) ?_
  simp -implicitDefEqProofs only [↓b153_0, ↓b153_8, ↓b153_19, ↓b153_23, b153_0, b153_8, b153_19, b153_23, nLE3, layE8, e, I32, ↓xb, xb, ps, lpad, lat, aok2, rd2, aaok, aav, alok, alen, aok, akk, csum, isLg, cmpI, clsE, Option.elim, eq_self, List.mem_cons, List.not_mem_nil, or_false, false_or, List.append_nil, List.nil_append, List.cons_append, List.append_eq, List.replicate, List.length_cons, List.length_nil, List.map_cons, List.map_nil, ↓reduceIte, reduceCtorEq, if_true, if_false, true_and, and_true, false_and, and_false, and_self, not_true_eq_false, not_false_eq_true, forall_const, true_implies, false_implies, implies_true, Nat.reduceAdd, Nat.reduceSub, Nat.reduceLT, Nat.reduceLeDiff, Nat.reduceEqDiff, Nat.reduceMul, Nat.reducePow, Nat.add_one_ne_zero, Nat.add_one_sub_one, Nat.add_zero, Nat.zero_add, Int.reduceLT, Int.reduceLE, Int.reduceNeg, Int.reduceAdd, Int.reduceSub, Int.reduceToNat, Int.reduceEq, Int.reduceMul, Int.reducePow, Int.cast_ofNat_Int, Int.toNat_natCast, ne_eq, Bool.false_eq_true, true_or, or_true, or_self, Nat.not_lt_zero, ite_e0, ite_e1, lc_lt, lc_ge, lc_gt, lc_le, lc_eq, Classical.not_not]
  with_reducible repeat' (first | (refine And.intro ?_ ?_) | intro _)
  all_goals try omega
  all_goals first | omega | exact q
set_option maxRecDepth 100000 in
set_option maxHeartbeats 1000000 in
theorem kx_fails1 (hk : 4 ≤ k) {f : Int} (e : σ 21 41 0 0 = f) (hf : f ≠ 0) {x p : Int} (q : Q none (up σ 21 41 0 0 f)) : CC G w w k (0, 0) 153 [vr 21 0 0, vi x, vi p] σ Q := by
  refine CC_vb ok153 (by decide) (sm3_ok G w) 60 [] (Nat.le_of_ble_eq_true rfl) ?_
  simp -implicitDefEqProofs only [↓b153_0, ↓b153_8, ↓b153_19, ↓b153_23, b153_0, b153_8, b153_19, b153_23, nLE3, layE8, e, hf, I32, ↓xb, xb, ps, lpad, lat, aok2, rd2, aaok, aav, alok, alen, aok, akk, csum, isLg, cmpI, clsE, Option.elim, eq_self, List.mem_cons, List.not_mem_nil, or_false, false_or, List.append_nil, List.nil_append, List.cons_append, List.append_eq, List.replicate, List.length_cons, List.length_nil, List.map_cons, List.map_nil, ↓reduceIte, reduceCtorEq, if_true, if_false, true_and, and_true, false_and, and_false, and_self, not_true_eq_false, not_false_eq_true, forall_const, true_implies, false_implies, implies_true, Nat.reduceAdd, Nat.reduceSub, Nat.reduceLT, Nat.reduceLeDiff, Nat.reduceEqDiff, Nat.reduceMul, Nat.reducePow, Nat.add_one_ne_zero, Nat.add_one_sub_one, Nat.add_zero, Nat.zero_add, Int.reduceLT, Int.reduceLE, Int.reduceNeg, Int.reduceAdd, Int.reduceSub, Int.reduceToNat, Int.reduceEq, Int.reduceMul, Int.reducePow, Int.cast_ofNat_Int, Int.toNat_natCast, ne_eq, Bool.false_eq_true, true_or, or_true, or_self, Nat.not_lt_zero, ite_e0, ite_e1, lc_lt, lc_ge, lc_gt, lc_le, lc_eq, Classical.not_not]
  with_reducible repeat' (first | (refine And.intro ?_ ?_) | intro _)
  all_goals try omega
  all_goals first | omega | exact q
set_option maxRecDepth 100000 in
set_option maxHeartbeats 1000000 in
theorem kx_dg_l {b : Nat} {most : Int} (ht : TR t) (hk : 8 ≤ k) (hm : 0 ≤ most) (e41 : σ 21 41 0 0 = 0)
    (q : ∀ σ', σ' 21 40 0 0 = ((dge t N b : Nat) : Int) → σ' 21 41 0 0 = (if 5 < dge t N b - b ∨ most < dgV t b (dge t N b - b) then 1 + 8 * (b : Int) + 1 else 0) → same S401 σ σ' → Q (some (vi (dgV t b (dge t N b - b)))) σ') :
    ∀ (m p : Nat) (σ' : Mem), b ≤ p → p ≤ N → N < p + m → TXx σ' t N → σ' 21 40 0 0 = p → (∀ j, j < p - b → isDg (t (b + j)) = true) → dge t N p = dge t N b → same S401 σ σ' → σ' 21 41 0 0 = 0 → TT G w w w k (0, 0) 161 25 [some (vr 21 0 0), some (vi most), some (vi b), some (vi (dgV t b (p - b)))] [] σ' Q
  | 0, p, σ', hb, h0, h1, _, _, _, _, _, _ => by omega
  | m + 1, p, σ', hb, h0, h1, T, e3, hd, eb, hs, e41' => by
    have ih := kx_dg_l ht hk hm e41 q m (p + 1)
    have T' := T
    obtain ⟨t1, t2, t3⟩ := T
    have hr := ht p
    have bs : ∀ a : Int, band a 255 = a % 256 := fun a => band_255
    have dr := dgV_r ht (b := b) (fun _ _ => Or.inr trivial) (p - b) hd
    by_cases c : p < N ∧ isDg (t p) = true
    · have et : σ' 21 49 0 p % 256 = t p := (t3 p c.1).1
      have e2 : dge t N p = dge t N (p + 1) := sc_on c.1 c.2
      have c2 : 48 ≤ t p ∧ t p ≤ 57 := by have := c.2; unfold isDg at this; rw [decide_eq_true_eq] at this; exact this
      have ep : b + (p - b) = p := by omega
      have lt : (p : Int) < (N : Int) := by omega
      have hd' : ∀ j, j < p + 1 - b → isDg (t (b + j)) = true := fun j hj => by
        by_cases z : j = p - b
        · rw [z, ep]; exact c.2
        · exact hd j (by omega)
      have en : dgV t b (p + 1 - b) = if p - b < 5 then 10 * dgV t b (p - b) + t (b + (p - b)) - 48 else dgV t b (p - b) := by
        rw [show p + 1 - b = (p - b) + 1 by omega]; rfl
      rw [ep] at en
      have r := fun h => ih (up σ' 21 40 0 0 ((p : Int) + 1)) (by omega) (by omega) (by omega) (T'.keep (S := S401) (same.put same.refl rfl) rfl rfl) (by rw [upp_eq]; omega) hd' (by rw [← e2]; exact eb) (hs.put rfl) h
      have r' := r (by rw [upp_nf (by decide)]; exact e41')
      by_cases c5 : p - b < 5
      · rw [if_pos c5] at en
        rw [en] at r'
        refine TT_vb ok161 (sm3_ok G w) 60 [25] ?_
        simp -implicitDefEqProofs only [↓b161_0, ↓b161_4, ↓b161_7, ↓b161_16, ↓b161_18, ↓b161_25, ↓b161_29, ↓b161_32, ↓b161_42, ↓b161_50, ↓b161_57, ↓b161_58, ↓b161_72, ↓b161_82, ↓b161_87, ↓b161_93, b161_0, b161_4, b161_7, b161_16, b161_18, b161_25, b161_29, b161_32, b161_42, b161_50, b161_57, b161_58, b161_72, b161_82, b161_87, b161_93, nLE3, layE8, e3, t1, bs, et, lt, c2, k3_156, r156, n3_153, k3_154, r154, I32, ↓xb, xb, ps, lpad, lat, aok2, rd2, aaok, aav, alok, alen, aok, akk, csum, isLg, cmpI, clsE, Option.elim, eq_self, List.mem_cons, List.not_mem_nil, or_false, false_or, List.append_nil, List.nil_append, List.cons_append, List.append_eq, List.replicate, List.length_cons, List.length_nil, List.map_cons, List.map_nil, ↓reduceIte, reduceCtorEq, if_true, if_false, true_and, and_true, false_and, and_false, and_self, not_true_eq_false, not_false_eq_true, forall_const, true_implies, false_implies, implies_true, Nat.reduceAdd, Nat.reduceSub, Nat.reduceLT, Nat.reduceLeDiff, Nat.reduceEqDiff, Nat.reduceMul, Nat.reducePow, Nat.add_one_ne_zero, Nat.add_one_sub_one, Nat.add_zero, Nat.zero_add, Int.reduceLT, Int.reduceLE, Int.reduceNeg, Int.reduceAdd, Int.reduceSub, Int.reduceToNat, Int.reduceEq, Int.reduceMul, Int.reducePow, Int.cast_ofNat_Int, Int.toNat_natCast, ne_eq, Bool.false_eq_true, true_or, or_true, or_self, Nat.not_lt_zero, ite_e0, ite_e1, lc_lt, lc_ge, lc_gt, lc_le, lc_eq, Classical.not_not]
        with_reducible repeat' (first | (refine And.intro ?_ ?_) | intro _)
        all_goals try omega
        all_goals first | omega | exact r'
      · rw [if_neg c5] at en
        rw [en] at r'
        refine TT_vb ok161 (sm3_ok G w) 60 [25] ?_
        simp -implicitDefEqProofs only [↓b161_0, ↓b161_4, ↓b161_7, ↓b161_16, ↓b161_18, ↓b161_25, ↓b161_29, ↓b161_32, ↓b161_42, ↓b161_50, ↓b161_57, ↓b161_58, ↓b161_72, ↓b161_82, ↓b161_87, ↓b161_93, b161_0, b161_4, b161_7, b161_16, b161_18, b161_25, b161_29, b161_32, b161_42, b161_50, b161_57, b161_58, b161_72, b161_82, b161_87, b161_93, nLE3, layE8, e3, t1, bs, et, lt, c2, k3_156, r156, n3_153, k3_154, r154, I32, ↓xb, xb, ps, lpad, lat, aok2, rd2, aaok, aav, alok, alen, aok, akk, csum, isLg, cmpI, clsE, Option.elim, eq_self, List.mem_cons, List.not_mem_nil, or_false, false_or, List.append_nil, List.nil_append, List.cons_append, List.append_eq, List.replicate, List.length_cons, List.length_nil, List.map_cons, List.map_nil, ↓reduceIte, reduceCtorEq, if_true, if_false, true_and, and_true, false_and, and_false, and_self, not_true_eq_false, not_false_eq_true, forall_const, true_implies, false_implies, implies_true, Nat.reduceAdd, Nat.reduceSub, Nat.reduceLT, Nat.reduceLeDiff, Nat.reduceEqDiff, Nat.reduceMul, Nat.reducePow, Nat.add_one_ne_zero, Nat.add_one_sub_one, Nat.add_zero, Nat.zero_add, Int.reduceLT, Int.reduceLE, Int.reduceNeg, Int.reduceAdd, Int.reduceSub, Int.reduceToNat, Int.reduceEq, Int.reduceMul, Int.reducePow, Int.cast_ofNat_Int, Int.toNat_natCast, ne_eq, Bool.false_eq_true, true_or, or_true, or_self, Nat.not_lt_zero, ite_e0, ite_e1, lc_lt, lc_ge, lc_gt, lc_le, lc_eq, Classical.not_not]
        with_reducible repeat' (first | (refine And.intro ?_ ?_) | intro _)
        all_goals try omega
        all_goals first | omega | exact r'
    · have e2 : dge t N p = p := sc_off c
      have eE : dge t N b = p := eb.symm.trans e2
      rw [eE] at q
      have fl : (if σ' 21 40 0 0 < σ' 21 39 0 0 ∧ 48 ≤ band (σ' 21 49 0 (σ' 21 40 0 0).toNat) 255 ∧ band (σ' 21 49 0 (σ' 21 40 0 0).toNat) 255 ≤ 57 then (1 : Int) else 0) = 0 := if_neg (fun z => by
        rw [e3, t1, Int.toNat_natCast, bs] at z
        have lt : p < N := by omega
        rw [(t3 p lt).1] at z
        exact c ⟨lt, by unfold isDg; rw [decide_eq_true_eq]; exact z.2⟩)
      rw [e3, t1, Int.toNat_natCast] at fl
      by_cases c5 : 5 < p - b ∨ most < dgV t b (p - b)
      · have r := q (up σ' 21 41 0 0 (1 + 8 * (b : Int) + 1)) (by rw [upp_nf (by decide)]; exact e3) (by rw [if_pos c5, upp_eq]) (hs.put rfl)
        refine TT_vb ok161 (sm3_ok G w) 60 [25] ?_
        simp -implicitDefEqProofs only [↓b161_0, ↓b161_4, ↓b161_7, ↓b161_16, ↓b161_18, ↓b161_25, ↓b161_29, ↓b161_32, ↓b161_42, ↓b161_50, ↓b161_57, ↓b161_58, ↓b161_72, ↓b161_82, ↓b161_87, ↓b161_93, b161_0, b161_4, b161_7, b161_16, b161_18, b161_25, b161_29, b161_32, b161_42, b161_50, b161_57, b161_58, b161_72, b161_82, b161_87, b161_93, nLE3, layE8, e3, t1, fl, k3_156, r156, n3_153, k3_154, r154, I32, ↓xb, xb, ps, lpad, lat, aok2, rd2, aaok, aav, alok, alen, aok, akk, csum, isLg, cmpI, clsE, Option.elim, eq_self, List.mem_cons, List.not_mem_nil, or_false, false_or, List.append_nil, List.nil_append, List.cons_append, List.append_eq, List.replicate, List.length_cons, List.length_nil, List.map_cons, List.map_nil, ↓reduceIte, reduceCtorEq, if_true, if_false, true_and, and_true, false_and, and_false, and_self, not_true_eq_false, not_false_eq_true, forall_const, true_implies, false_implies, implies_true, Nat.reduceAdd, Nat.reduceSub, Nat.reduceLT, Nat.reduceLeDiff, Nat.reduceEqDiff, Nat.reduceMul, Nat.reducePow, Nat.add_one_ne_zero, Nat.add_one_sub_one, Nat.add_zero, Nat.zero_add, Int.reduceLT, Int.reduceLE, Int.reduceNeg, Int.reduceAdd, Int.reduceSub, Int.reduceToNat, Int.reduceEq, Int.reduceMul, Int.reducePow, Int.cast_ofNat_Int, Int.toNat_natCast, ne_eq, Bool.false_eq_true, true_or, or_true, or_self, Nat.not_lt_zero, ite_e0, ite_e1, lc_lt, lc_ge, lc_gt, lc_le, lc_eq, Classical.not_not]
        with_reducible repeat' (first | (refine And.intro ?_ ?_) | intro _)
        all_goals try omega
        all_goals first | omega | skip
        all_goals refine kx_fails0 (by omega) e41' (by omega) (by omega) ?_
        all_goals simp -implicitDefEqProofs only [↓b161_0, ↓b161_4, ↓b161_7, ↓b161_16, ↓b161_18, ↓b161_25, ↓b161_29, ↓b161_32, ↓b161_42, ↓b161_50, ↓b161_57, ↓b161_58, ↓b161_72, ↓b161_82, ↓b161_87, ↓b161_93, b161_0, b161_4, b161_7, b161_16, b161_18, b161_25, b161_29, b161_32, b161_42, b161_50, b161_57, b161_58, b161_72, b161_82, b161_87, b161_93, nLE3, layE8, hk, k3_156, r156, n3_153, k3_154, r154, I32, ↓xb, xb, ps, lpad, lat, aok2, rd2, aaok, aav, alok, alen, aok, akk, csum, isLg, cmpI, clsE, Option.elim, eq_self, List.mem_cons, List.not_mem_nil, or_false, false_or, List.append_nil, List.nil_append, List.cons_append, List.append_eq, List.replicate, List.length_cons, List.length_nil, List.map_cons, List.map_nil, ↓reduceIte, reduceCtorEq, if_true, if_false, true_and, and_true, false_and, and_false, and_self, not_true_eq_false, not_false_eq_true, forall_const, true_implies, false_implies, implies_true, Nat.reduceAdd, Nat.reduceSub, Nat.reduceLT, Nat.reduceLeDiff, Nat.reduceEqDiff, Nat.reduceMul, Nat.reducePow, Nat.add_one_ne_zero, Nat.add_one_sub_one, Nat.add_zero, Nat.zero_add, Int.reduceLT, Int.reduceLE, Int.reduceNeg, Int.reduceAdd, Int.reduceSub, Int.reduceToNat, Int.reduceEq, Int.reduceMul, Int.reducePow, Int.cast_ofNat_Int, Int.toNat_natCast, ne_eq, Bool.false_eq_true, true_or, or_true, or_self, Nat.not_lt_zero, ite_e0, ite_e1, lc_lt, lc_ge, lc_gt, lc_le, lc_eq, Classical.not_not]
        all_goals with_reducible repeat' (first | (refine And.intro ?_ ?_) | intro _)
        all_goals first | omega | exact r
      · have r := q σ' e3 (by rw [if_neg c5]; exact e41') hs
        refine TT_vb ok161 (sm3_ok G w) 60 [25] ?_
        simp -implicitDefEqProofs only [↓b161_0, ↓b161_4, ↓b161_7, ↓b161_16, ↓b161_18, ↓b161_25, ↓b161_29, ↓b161_32, ↓b161_42, ↓b161_50, ↓b161_57, ↓b161_58, ↓b161_72, ↓b161_82, ↓b161_87, ↓b161_93, b161_0, b161_4, b161_7, b161_16, b161_18, b161_25, b161_29, b161_32, b161_42, b161_50, b161_57, b161_58, b161_72, b161_82, b161_87, b161_93, nLE3, layE8, e3, t1, fl, k3_156, r156, n3_153, k3_154, r154, I32, ↓xb, xb, ps, lpad, lat, aok2, rd2, aaok, aav, alok, alen, aok, akk, csum, isLg, cmpI, clsE, Option.elim, eq_self, List.mem_cons, List.not_mem_nil, or_false, false_or, List.append_nil, List.nil_append, List.cons_append, List.append_eq, List.replicate, List.length_cons, List.length_nil, List.map_cons, List.map_nil, ↓reduceIte, reduceCtorEq, if_true, if_false, true_and, and_true, false_and, and_false, and_self, not_true_eq_false, not_false_eq_true, forall_const, true_implies, false_implies, implies_true, Nat.reduceAdd, Nat.reduceSub, Nat.reduceLT, Nat.reduceLeDiff, Nat.reduceEqDiff, Nat.reduceMul, Nat.reducePow, Nat.add_one_ne_zero, Nat.add_one_sub_one, Nat.add_zero, Nat.zero_add, Int.reduceLT, Int.reduceLE, Int.reduceNeg, Int.reduceAdd, Int.reduceSub, Int.reduceToNat, Int.reduceEq, Int.reduceMul, Int.reducePow, Int.cast_ofNat_Int, Int.toNat_natCast, ne_eq, Bool.false_eq_true, true_or, or_true, or_self, Nat.not_lt_zero, ite_e0, ite_e1, lc_lt, lc_ge, lc_gt, lc_le, lc_eq, Classical.not_not]
        with_reducible repeat' (first | (refine And.intro ?_ ?_) | intro _)
        all_goals try omega
        all_goals first | omega | exact r
set_option maxRecDepth 100000 in
set_option maxHeartbeats 1000000 in
theorem kx_digits {b : Nat} {most : Int} (ht : TR t) (hk : 10 ≤ k) (hm : 0 ≤ most) (T : TXx σ t N) (hb : b < N) (hd : isDg (t b) = true) (e40 : σ 21 40 0 0 = b) (e41 : σ 21 41 0 0 = 0)
    (q : ∀ σ', σ' 21 40 0 0 = ((dge t N b : Nat) : Int) → σ' 21 41 0 0 = (if 5 < dge t N b - b ∨ most < dgV t b (dge t N b - b) then 1 + 8 * (b : Int) + 1 else 0) → same S401 σ σ' → Q (some (vi (dgV t b (dge t N b - b)))) σ') : CC G w w k (0, 0) 161 [vr 21 0 0, vi most] σ Q := by
  have t1 := T.1
  have t2 := T.2.1
  have bs : ∀ a : Int, band a 255 = a % 256 := fun a => band_255
  have et : σ 21 49 0 b % 256 = t b := (T.2.2 b hb).1
  have c2 : 48 ≤ t b ∧ t b ≤ 57 := by unfold isDg at hd; rw [decide_eq_true_eq] at hd; exact hd
  have lt : (b : Int) < (N : Int) := by omega
  have g := kx_dg_l (G := G) (w := w) (k := k) (σ := σ) (Q := Q) ht (by omega) hm e41 q (N + 1) b σ (Nat.le_refl b) (by omega) (by omega) T e40 (fun j hj => absurd hj (by omega)) rfl same.refl e41
  rw [Nat.sub_self] at g
  refine CC_vb ok161 (by decide) (sm3_ok G w) 60 [25] (Nat.le_of_ble_eq_true rfl) ?_
  simp -implicitDefEqProofs only [↓b161_0, ↓b161_4, ↓b161_7, ↓b161_16, ↓b161_18, ↓b161_25, ↓b161_29, ↓b161_32, ↓b161_42, ↓b161_50, ↓b161_57, ↓b161_58, ↓b161_72, ↓b161_82, ↓b161_87, ↓b161_93, b161_0, b161_4, b161_7, b161_16, b161_18, b161_25, b161_29, b161_32, b161_42, b161_50, b161_57, b161_58, b161_72, b161_82, b161_87, b161_93, nLE3, layE8, e40, t1, bs, et, lt, c2, k3_156, r156, n3_153, k3_154, r154, I32, ↓xb, xb, ps, lpad, lat, aok2, rd2, aaok, aav, alok, alen, aok, akk, csum, isLg, cmpI, clsE, Option.elim, eq_self, List.mem_cons, List.not_mem_nil, or_false, false_or, List.append_nil, List.nil_append, List.cons_append, List.append_eq, List.replicate, List.length_cons, List.length_nil, List.map_cons, List.map_nil, ↓reduceIte, reduceCtorEq, if_true, if_false, true_and, and_true, false_and, and_false, and_self, not_true_eq_false, not_false_eq_true, forall_const, true_implies, false_implies, implies_true, Nat.reduceAdd, Nat.reduceSub, Nat.reduceLT, Nat.reduceLeDiff, Nat.reduceEqDiff, Nat.reduceMul, Nat.reducePow, Nat.add_one_ne_zero, Nat.add_one_sub_one, Nat.add_zero, Nat.zero_add, Int.reduceLT, Int.reduceLE, Int.reduceNeg, Int.reduceAdd, Int.reduceSub, Int.reduceToNat, Int.reduceEq, Int.reduceMul, Int.reducePow, Int.cast_ofNat_Int, Int.toNat_natCast, ne_eq, Bool.false_eq_true, true_or, or_true, or_self, Nat.not_lt_zero, ite_e0, ite_e1, lc_lt, lc_ge, lc_gt, lc_le, lc_eq, Classical.not_not]
  with_reducible repeat' (first | (refine And.intro ?_ ?_) | intro _)
  all_goals try omega
  all_goals first | omega | exact g
end DGX

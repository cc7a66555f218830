/-! 45.common: what the street should have in common (both) -/
def adS (P : Pt) (s : Int) (i : Nat) (P' : Pt) : Pt := if band (s / 2 ^ i) 1 = 1 then pu P' 8 (6 * P 28 i + P 29 i).toNat (min 99999 (P' 8 (6 * P 28 i + P 29 i).toNat + P 30 i)) else P'
def adP (P : Pt) (s : Int) (n : Nat) : Pt := iter (adS P s) n P
theorem ad_k {P : Pt} (W : WF P) {s : Int} (n : Nat) (hn : (n : Int) ≤ P 2 4) : K8 P (adP P s n) ∧ OR P (adP P s n) := by
  have w1 := W.sc.1
  refine iter_inv (st := adS P s) (I := fun _ P' => K8 P P' ∧ OR P P') ⟨K8.refl W, OR.refl⟩ (fun i b hi hb => ?_)
  obtain ⟨d1, d2, d3, d4⟩ := W.it (n := i) (by omega)
  have sb := hb.1.1.st (n := (6 * P 28 i + P 29 i).toNat) (by omega)
  unfold adS
  split
  · exact ⟨hb.1.put (by omega), hb.2.upd (show _ < 72 by omega)⟩
  · exact hb
theorem ad_6 {P : Pt} (W : WF P) {s : Int} (h0 : 0 ≤ s) (hs : s < 2 ^ (P 2 4).toNat) : ∀ d : Nat, (P 2 4).toNat + d ≤ 6 → adP P s ((P 2 4).toNat + d) = adP P s (P 2 4).toNat
  | 0, _ => rfl
  | d + 1, h => by
    have ih := ad_6 W h0 hs d (by omega)
    show adS P s ((P 2 4).toNat + d) (adP P s ((P 2 4).toNat + d)) = _
    rw [ih]
    unfold adS
    rw [bit0 h0 hs (by omega), if_neg (by decide)]
noncomputable def cmV (U : RU) (n : Nat) (P : Pt) (s : Nat) : Int := (rnP U 0 n (adP P s (P 2 4).toNat)).2
def prP (P : Pt) (s : Int) : Int := iter (pst P s) (P 2 4).toNat 0
noncomputable def cmS (U : RU) (n : Nat) (coins : Int) (P : Pt) (s : Nat) (a : Int × Int × Int) : Int × Int × Int := if prP P s ≤ coins ∧ (a.1 = -1 ∨ cmV U n P s < a.2.2 ∨ (cmV U n P s = a.2.2 ∧ prP P s < a.2.1)) then ((s : Int), prP P s, cmV U n P s) else a
noncomputable def cmR (U : RU) (n : Nat) (coins : Int) (P : Pt) (i : Nat) : Int × Int × Int := iter (cmS U n coins P) i (-1, 0, 0)
theorem cm_st {U : RU} {n : Nat} {coins : Int} {P : Pt} {s b p v : Int} (h0 : 0 ≤ s) (hc : (b, p, v) = cmR U n coins P s.toNat) : (¬ (prP P s ≤ coins ∧ (b = -1 ∨ cmV U n P s.toNat < v ∨ (cmV U n P s.toNat = v ∧ prP P s < p))) → (b, p, v) = cmR U n coins P (s + 1).toNat) ∧ ((prP P s ≤ coins ∧ (b = -1 ∨ cmV U n P s.toNat < v ∨ (cmV U n P s.toNat = v ∧ prP P s < p))) → (s, prP P s, cmV U n P s.toNat) = cmR U n coins P (s + 1).toNat) := by
  have e : cmR U n coins P (s + 1).toNat = cmS U n coins P s.toNat (b, p, v) := by
    rw [hc]; unfold cmR; exact iter_toNat _ h0 _
  have es : ((s.toNat : Nat) : Int) = s := by omega
  rw [e]
  unfold cmS
  rw [es]
  exact ⟨fun z => (if_neg z).symm, fun z => (if_pos z).symm⟩
theorem cm_r {U : RU} {n : Nat} {coins : Int} {P : Pt} (i : Nat) : (cmR U n coins P i).1 = -1 ∨ (0 ≤ (cmR U n coins P i).1 ∧ (cmR U n coins P i).1 < i ∧ (cmR U n coins P i).2.1 = prP P (cmR U n coins P i).1) := by
  refine iter_inv (st := cmS U n coins P) (I := fun i a => a.1 = -1 ∨ (0 ≤ a.1 ∧ a.1 < (i : Nat) ∧ a.2.1 = prP P a.1)) (Or.inl rfl) (fun j a _ ha => ?_)
  unfold cmS
  split
  · right; exact ⟨by show (0 : Int) ≤ (j : Int); omega, by show (j : Int) < _; omega, rfl⟩
  · rcases ha with z | ⟨z1, z2, z3⟩
    · exact Or.inl z
    · exact Or.inr ⟨z1, by omega, z3⟩
def cmA (wh : Int) (a : Int × Int × Int) : Int := if wh = 0 then a.1 else a.2.2
theorem pow2_6 {n : Int} (h : 0 ≤ n ∧ n ≤ 6) : 1 ≤ (2 : Int) ^ n.toNat ∧ (2 : Int) ^ n.toNat ≤ 64 := by
  have : n = 0 ∨ n = 1 ∨ n = 2 ∨ n = 3 ∨ n = 4 ∨ n = 5 ∨ n = 6 := by omega
  rcases this with rfl | rfl | rfl | rfl | rfl | rfl | rfl <;> decide
section CMN
variable {G : Gl} {w : Wd} {k : Nat} {σ : Mem} {Q : Option AV → Mem → Prop} {P : Pt} {ro : Nat} {U : RU} {r : Int}
set_option maxRecDepth 100000 in
set_option maxHeartbeats 1000000 in
theorem kc_add_items_l (W : WF P) (hk : 8 ≤ k) {s : Int} (hs0 : 0 ≤ s) (q : ∀ σ', RT True σ' 2 (adP P s (P 2 4).toNat) → same (fun o f => o == 2 && f == 9) σ σ' → Q none σ') :
    ∀ (m : Nat) (i : Int) (σ' : Mem) (l3 l4 : Option AV), 0 ≤ i → i ≤ P 2 4 → P 2 4 < i + m → RT True σ' 2 (adP P s i.toNat) → same (fun o f => o == 2 && f == 9) σ σ' → TT G w w w k (0, 0) 58 2 [some (vr 2 0 0), some (vi s), some (vi i), l3, l4] [] σ' Q
  | 0, i, σ', l3, l4, h0, h1, h2, _, _ => by omega
  | m + 1, i, σ', l3, l4, h0, h1, h2, R, hs => by
    have ih := kc_add_items_l W hk hs0 q m (i + 1)
    have w1 := W.sc.1
    have w5 := W.sc.2.2.2.2.1
    have st : adP P s (i + 1).toNat = adS P s i.toNat (adP P s i.toNat) := by unfold adP; exact iter_toNat _ h0 _
    rw [st] at ih
    have kk := (ad_k W (s := s) i.toNat (by omega)).1
    have e4 := R.items.trans (kk.2 2 4 (by decide))
    by_cases hi : i < P 2 4
    · obtain ⟨d1, d2, d3, d4⟩ := W.it (n := i.toNat) (by omega)
      have g0 := (R.item0 (n := i.toNat) (by omega)).trans (kk.2 28 _ (by decide))
      have g1 := (R.item1 (n := i.toNat) (by omega)).trans (kk.2 29 _ (by decide))
      have g2 := (R.item2 (n := i.toNat) (by omega)).trans (kk.2 30 _ (by decide))
      have sc := R.storeI (h := P 28 i.toNat) (c := P 29 i.toNat) (by omega) (by omega)
      have sb := kk.1.st (n := (6 * P 28 i.toNat + P 29 i.toNat).toNat) (by omega)
      by_cases hb : band (s / 2 ^ i.toNat) 1 = 1
      · rw [show adS P s i.toNat (adP P s i.toNat) = pu (adP P s i.toNat) 8 (6 * P 28 i.toNat + P 29 i.toNat).toNat (min 99999 (adP P s i.toNat 8 (6 * P 28 i.toNat + P 29 i.toNat).toNat + P 30 i.toNat)) from if_pos hb] at ih
        refine TT_vb ok58 (sm3_ok G w) 60 [2] ?_
        simp -implicitDefEqProofs only [↓b58_0, ↓b58_2, ↓b58_10, ↓b58_19, ↓b58_29, ↓b58_32, ↓b58_39, ↓b58_58, ↓b58_64, ↓b58_65, ↓b58_71, b58_0, b58_2, b58_10, b58_19, b58_29, b58_32, b58_39, b58_58, b58_64, b58_65, b58_71, nLE1, layE4, e4, hb, g0, g1, g2, sc, I32, ↓xb, xb, ps, lpad, lat, aok2, rd2, aaok, aav, alok, alen, aok, akk, csum, isLg, cmpI, clsE, Option.elim, eq_self, List.mem_cons, List.not_mem_nil, or_false, false_or, List.append_nil, List.nil_append, List.cons_append, List.append_eq, List.replicate, List.length_cons, List.length_nil, List.map_cons, List.map_nil, ↓reduceIte, reduceCtorEq, if_true, if_false, true_and, and_true, false_and, and_false, and_self, not_true_eq_false, not_false_eq_true, forall_const, true_implies, false_implies, implies_true, Nat.reduceAdd, Nat.reduceSub, Nat.reduceLT, Nat.reduceLeDiff, Nat.reduceEqDiff, Nat.reduceMul, Nat.reducePow, Nat.add_one_ne_zero, Nat.add_one_sub_one, Nat.add_zero, Nat.zero_add, Int.reduceLT, Int.reduceLE, Int.reduceNeg, Int.reduceAdd, Int.reduceSub, Int.reduceToNat, Int.reduceEq, Int.reduceMul, Int.reducePow, Int.cast_ofNat_Int, Int.toNat_natCast, ne_eq, Bool.false_eq_true, true_or, or_true, or_self, Nat.not_lt_zero, ite_e0, ite_e1, lc_lt, lc_ge, lc_gt, lc_le, lc_eq, Classical.not_not]
        with_reducible repeat' (first | (refine And.intro ?_ ?_) | intro _)
        all_goals try omega
        exact ih _ _ _ (by omega) (by omega) (by omega) (R.u_storeI (by omega) (by omega)) (hs.put rfl)
      · rw [show adS P s i.toNat (adP P s i.toNat) = adP P s i.toNat from if_neg hb] at ih
        refine TT_vb ok58 (sm3_ok G w) 60 [2] ?_
        simp -implicitDefEqProofs only [↓b58_0, ↓b58_2, ↓b58_10, ↓b58_19, ↓b58_29, ↓b58_32, ↓b58_39, ↓b58_58, ↓b58_64, ↓b58_65, ↓b58_71, b58_0, b58_2, b58_10, b58_19, b58_29, b58_32, b58_39, b58_58, b58_64, b58_65, b58_71, nLE1, layE4, e4, hb, I32, ↓xb, xb, ps, lpad, lat, aok2, rd2, aaok, aav, alok, alen, aok, akk, csum, isLg, cmpI, clsE, Option.elim, eq_self, List.mem_cons, List.not_mem_nil, or_false, false_or, List.append_nil, List.nil_append, List.cons_append, List.append_eq, List.replicate, List.length_cons, List.length_nil, List.map_cons, List.map_nil, ↓reduceIte, reduceCtorEq, if_true, if_false, true_and, and_true, false_and, and_false, and_self, not_true_eq_false, not_false_eq_true, forall_const, true_implies, false_implies, implies_true, Nat.reduceAdd, Nat.reduceSub, Nat.reduceLT, Nat.reduceLeDiff, Nat.reduceEqDiff, Nat.reduceMul, Nat.reducePow, Nat.add_one_ne_zero, Nat.add_one_sub_one, Nat.add_zero, Nat.zero_add, Int.reduceLT, Int.reduceLE, Int.reduceNeg, Int.reduceAdd, Int.reduceSub, Int.reduceToNat, Int.reduceEq, Int.reduceMul, Int.reducePow, Int.cast_ofNat_Int, Int.toNat_natCast, ne_eq, Bool.false_eq_true, true_or, or_true, or_self, Nat.not_lt_zero, ite_e0, ite_e1, lc_lt, lc_ge, lc_gt, lc_le, lc_eq, Classical.not_not]
        with_reducible repeat' (first | (refine And.intro ?_ ?_) | intro _)
        all_goals try omega
        exact ih _ _ _ (by omega) (by omega) (by omega) R hs
    · have ei : i = P 2 4 := by omega
      rw [ei] at R
      refine TT_vb ok58 (sm3_ok G w) 60 [2] ?_
      simp -implicitDefEqProofs only [↓b58_0, ↓b58_2, ↓b58_10, ↓b58_19, ↓b58_29, ↓b58_32, ↓b58_39, ↓b58_58, ↓b58_64, ↓b58_65, ↓b58_71, b58_0, b58_2, b58_10, b58_19, b58_29, b58_32, b58_39, b58_58, b58_64, b58_65, b58_71, nLE1, layE4, e4, I32, ↓xb, xb, ps, lpad, lat, aok2, rd2, aaok, aav, alok, alen, aok, akk, csum, isLg, cmpI, clsE, Option.elim, eq_self, List.mem_cons, List.not_mem_nil, or_false, false_or, List.append_nil, List.nil_append, List.cons_append, List.append_eq, List.replicate, List.length_cons, List.length_nil, List.map_cons, List.map_nil, ↓reduceIte, reduceCtorEq, if_true, if_false, true_and, and_true, false_and, and_false, and_self, not_true_eq_false, not_false_eq_true, forall_const, true_implies, false_implies, implies_true, Nat.reduceAdd, Nat.reduceSub, Nat.reduceLT, Nat.reduceLeDiff, Nat.reduceEqDiff, Nat.reduceMul, Nat.reducePow, Nat.add_one_ne_zero, Nat.add_one_sub_one, Nat.add_zero, Nat.zero_add, Int.reduceLT, Int.reduceLE, Int.reduceNeg, Int.reduceAdd, Int.reduceSub, Int.reduceToNat, Int.reduceEq, Int.reduceMul, Int.reducePow, Int.cast_ofNat_Int, Int.toNat_natCast, ne_eq, Bool.false_eq_true, true_or, or_true, or_self, Nat.not_lt_zero, ite_e0, ite_e1, lc_lt, lc_ge, lc_gt, lc_le, lc_eq, Classical.not_not]
      with_reducible repeat' (first | (refine And.intro ?_ ?_) | intro _)
      all_goals try omega
      exact q σ' R hs
set_option maxRecDepth 100000 in
set_option maxHeartbeats 1000000 in
theorem kc_add_items (R : RT True σ 2 P) (W : WF P) (hk : 8 ≤ k) {s : Int} (hs0 : 0 ≤ s) (q : ∀ σ', RT True σ' 2 (adP P s (P 2 4).toNat) → same (fun o f => o == 2 && f == 9) σ σ' → Q none σ') : CC G w w k (0, 0) 58 [vr 2 0 0, vi s] σ Q := by
  have w5 := W.sc.2.2.2.2.1
  refine CC_vb ok58 (by decide) (sm3_ok G w) 60 [2] (Nat.le_of_ble_eq_true rfl) ?_
  simp -implicitDefEqProofs only [↓b58_0, ↓b58_2, ↓b58_10, ↓b58_19, ↓b58_29, ↓b58_32, ↓b58_39, ↓b58_58, ↓b58_64, ↓b58_65, ↓b58_71, b58_0, b58_2, b58_10, b58_19, b58_29, b58_32, b58_39, b58_58, b58_64, b58_65, b58_71, nLE1, layE4, hk, I32, ↓xb, xb, ps, lpad, lat, aok2, rd2, aaok, aav, alok, alen, aok, akk, csum, isLg, cmpI, clsE, Option.elim, eq_self, List.mem_cons, List.not_mem_nil, or_false, false_or, List.append_nil, List.nil_append, List.cons_append, List.append_eq, List.replicate, List.length_cons, List.length_nil, List.map_cons, List.map_nil, ↓reduceIte, reduceCtorEq, if_true, if_false, true_and, and_true, false_and, and_false, and_self, not_true_eq_false, not_false_eq_true, forall_const, true_implies, false_implies, implies_true, Nat.reduceAdd, Nat.reduceSub, Nat.reduceLT, Nat.reduceLeDiff, Nat.reduceEqDiff, Nat.reduceMul, Nat.reducePow, Nat.add_one_ne_zero, Nat.add_one_sub_one, Nat.add_zero, Nat.zero_add, Int.reduceLT, Int.reduceLE, Int.reduceNeg, Int.reduceAdd, Int.reduceSub, Int.reduceToNat, Int.reduceEq, Int.reduceMul, Int.reducePow, Int.cast_ofNat_Int, Int.toNat_natCast, ne_eq, Bool.false_eq_true, true_or, or_true, or_self, Nat.not_lt_zero, ite_e0, ite_e1, lc_lt, lc_ge, lc_gt, lc_le, lc_eq, Classical.not_not]
  with_reducible repeat' (first | (refine And.intro ?_ ?_) | intro _)
  all_goals try omega
  exact kc_add_items_l W hk hs0 q 7 0 σ _ _ (by omega) (by omega) (by omega) R same.refl
set_option maxRecDepth 100000 in
set_option maxHeartbeats 1000000 in
theorem kc_common_l (W : WF P) (N : N38 P) (hn6 : P 2 6 ≤ 9999) (hr : 13 ≤ ro ∧ ro ≤ 20) (hk : 30 ≤ k) {n wh coins : Int} (hn : 0 ≤ n ∧ n ≤ 20)
    (q : ∀ σ', same (Str ro) σ σ' → Q (some (vl (cmA wh (cmR U n.toNat coins P ((2 : Int) ^ (P 2 4).toNat).toNat)))) σ') :
    ∀ (m : Nat) (s b p v : Int) (σ' : Mem) (l11 l12 l13 : Option AV), 0 ≤ s → s ≤ 2 ^ (P 2 4).toNat → 2 ^ (P 2 4).toNat < s + m → TF σ' P → RuC G w 6 ro U σ' → (b, p, v) = cmR U n.toNat coins P s.toNat → same (Str ro) σ σ' → TT G w w w k (0, 0) 109 62 [some (vr 0 0 0), some (vi r), some (vi coins), some (vi n), some (vi wh), some (vr ro 0 0), some (vi b), some (vi p), some (vl v), none, some (vi s), l11, l12, l13] [] σ' Q
  | 0, s, b, p, v, σ', l11, l12, l13, h0, h1, h2, _, _, _, _ => by omega
  | m + 1, s, b, p, v, σ', l11, l12, l13, h0, h1, h2, T, hU, hc, hs => by
    have ih := kc_common_l W N hn6 hr hk (coins := coins) (wh := wh) hn q m (s + 1)
    have w5 := W.sc.2.2.2.2.1
    have e4 := T.1.items
    have p6 := pow2_6 w5
    obtain ⟨c0, c1⟩ := cm_st h0 hc
    have br := cm_r (U := U) (n := n.toNat) (coins := coins) (P := P) s.toNat
    rw [← hc] at br
    have br' : b = -1 ∨ (0 ≤ b ∧ b < s) := by
      rcases br with z | ⟨z1, z2, z3⟩
      · exact Or.inl z
      · right
        have y1 : 0 ≤ b := z1
        have y2 : b < (s.toNat : Nat) := z2
        omega
    by_cases hi : s < 2 ^ (P 2 4).toNat
    · refine TT_vb ok109 (sm3_ok G w) 60 [62] ?_
      simp -implicitDefEqProofs only [↓b109_0, ↓b109_5, ↓b109_12, ↓b109_19, ↓b109_22, ↓b109_29, ↓b109_32, ↓b109_36, ↓b109_43, ↓b109_46, ↓b109_50, ↓b109_62, ↓b109_76, ↓b109_85, ↓b109_93, ↓b109_104, ↓b109_113, ↓b109_125, ↓b109_133, ↓b109_141, ↓b109_149, ↓b109_156, ↓b109_168, ↓b109_174, ↓b109_179, ↓b109_185, ↓b109_187, b109_0, b109_5, b109_12, b109_19, b109_22, b109_29, b109_32, b109_36, b109_43, b109_46, b109_50, b109_62, b109_76, b109_85, b109_93, b109_104, b109_113, b109_125, b109_133, b109_141, b109_149, b109_156, b109_168, b109_174, b109_179, b109_185, b109_187, nLE2, layE7, layE4, layE3, layE2, e4, n3_92, k3_76, r76, n3_57, n3_43, n3_58, n3_94, I32, ↓xb, xb, ps, lpad, lat, aok2, rd2, aaok, aav, alok, alen, aok, akk, csum, isLg, cmpI, clsE, Option.elim, eq_self, List.mem_cons, List.not_mem_nil, or_false, false_or, List.append_nil, List.nil_append, List.cons_append, List.append_eq, List.replicate, List.length_cons, List.length_nil, List.map_cons, List.map_nil, ↓reduceIte, reduceCtorEq, if_true, if_false, true_and, and_true, false_and, and_false, and_self, not_true_eq_false, not_false_eq_true, forall_const, true_implies, false_implies, implies_true, Nat.reduceAdd, Nat.reduceSub, Nat.reduceLT, Nat.reduceLeDiff, Nat.reduceEqDiff, Nat.reduceMul, Nat.reducePow, Nat.add_one_ne_zero, Nat.add_one_sub_one, Nat.add_zero, Nat.zero_add, Int.reduceLT, Int.reduceLE, Int.reduceNeg, Int.reduceAdd, Int.reduceSub, Int.reduceToNat, Int.reduceEq, Int.reduceMul, Int.reducePow, Int.cast_ofNat_Int, Int.toNat_natCast, ne_eq, Bool.false_eq_true, true_or, or_true, or_self, Nat.not_lt_zero, ite_e0, ite_e1, lc_lt, lc_ge, lc_gt, lc_le, lc_eq, Classical.not_not]
      with_reducible repeat' (first | (refine And.intro ?_ ?_) | intro _)
      all_goals try omega
      refine kc_price T.1 W (by omega) ?_
      have ep : iter (pst P s) (P 2 4).toNat 0 = prP P s := rfl
      rw [ep]
      by_cases hp : prP P s ≤ coins
      · have hp' : ¬ coins < prP P s := by omega
        simp -implicitDefEqProofs only [↓b109_0, ↓b109_5, ↓b109_12, ↓b109_19, ↓b109_22, ↓b109_29, ↓b109_32, ↓b109_36, ↓b109_43, ↓b109_46, ↓b109_50, ↓b109_62, ↓b109_76, ↓b109_85, ↓b109_93, ↓b109_104, ↓b109_113, ↓b109_125, ↓b109_133, ↓b109_141, ↓b109_149, ↓b109_156, ↓b109_168, ↓b109_174, ↓b109_179, ↓b109_185, ↓b109_187, b109_0, b109_5, b109_12, b109_19, b109_22, b109_29, b109_32, b109_36, b109_43, b109_46, b109_50, b109_62, b109_76, b109_85, b109_93, b109_104, b109_113, b109_125, b109_133, b109_141, b109_149, b109_156, b109_168, b109_174, b109_179, b109_185, b109_187, nLE2, layE7, layE4, layE3, layE2, hp', n3_92, k3_76, r76, n3_57, n3_43, n3_58, n3_94, I32, ↓xb, xb, ps, lpad, lat, aok2, rd2, aaok, aav, alok, alen, aok, akk, csum, isLg, cmpI, clsE, Option.elim, eq_self, List.mem_cons, List.not_mem_nil, or_false, false_or, List.append_nil, List.nil_append, List.cons_append, List.append_eq, List.replicate, List.length_cons, List.length_nil, List.map_cons, List.map_nil, ↓reduceIte, reduceCtorEq, if_true, if_false, true_and, and_true, false_and, and_false, and_self, not_true_eq_false, not_false_eq_true, forall_const, true_implies, false_implies, implies_true, Nat.reduceAdd, Nat.reduceSub, Nat.reduceLT, Nat.reduceLeDiff, Nat.reduceEqDiff, Nat.reduceMul, Nat.reducePow, Nat.add_one_ne_zero, Nat.add_one_sub_one, Nat.add_zero, Nat.zero_add, Int.reduceLT, Int.reduceLE, Int.reduceNeg, Int.reduceAdd, Int.reduceSub, Int.reduceToNat, Int.reduceEq, Int.reduceMul, Int.reducePow, Int.cast_ofNat_Int, Int.toNat_natCast, ne_eq, Bool.false_eq_true, true_or, or_true, or_self, Nat.not_lt_zero, ite_e0, ite_e1, lc_lt, lc_ge, lc_gt, lc_le, lc_eq, Classical.not_not]
        with_reducible repeat' (first | (refine And.intro ?_ ?_) | intro _)
        all_goals try omega
        all_goals first | omega | skip
        refine kc_trial T.1 W T.2.1 T.2.2 (by omega) (fun σ1 R1 W1 N1 s1 => ?_)
        simp -implicitDefEqProofs only [↓b109_0, ↓b109_5, ↓b109_12, ↓b109_19, ↓b109_22, ↓b109_29, ↓b109_32, ↓b109_36, ↓b109_43, ↓b109_46, ↓b109_50, ↓b109_62, ↓b109_76, ↓b109_85, ↓b109_93, ↓b109_104, ↓b109_113, ↓b109_125, ↓b109_133, ↓b109_141, ↓b109_149, ↓b109_156, ↓b109_168, ↓b109_174, ↓b109_179, ↓b109_185, ↓b109_187, b109_0, b109_5, b109_12, b109_19, b109_22, b109_29, b109_32, b109_36, b109_43, b109_46, b109_50, b109_62, b109_76, b109_85, b109_93, b109_104, b109_113, b109_125, b109_133, b109_141, b109_149, b109_156, b109_168, b109_174, b109_179, b109_185, b109_187, nLE2, layE7, layE4, layE3, layE2, hn, n3_92, k3_76, r76, n3_57, n3_43, n3_58, n3_94, I32, ↓xb, xb, ps, lpad, lat, aok2, rd2, aaok, aav, alok, alen, aok, akk, csum, isLg, cmpI, clsE, Option.elim, eq_self, List.mem_cons, List.not_mem_nil, or_false, false_or, List.append_nil, List.nil_append, List.cons_append, List.append_eq, List.replicate, List.length_cons, List.length_nil, List.map_cons, List.map_nil, ↓reduceIte, reduceCtorEq, if_true, if_false, true_and, and_true, false_and, and_false, and_self, not_true_eq_false, not_false_eq_true, forall_const, true_implies, false_implies, implies_true, Nat.reduceAdd, Nat.reduceSub, Nat.reduceLT, Nat.reduceLeDiff, Nat.reduceEqDiff, Nat.reduceMul, Nat.reducePow, Nat.add_one_ne_zero, Nat.add_one_sub_one, Nat.add_zero, Nat.zero_add, Int.reduceLT, Int.reduceLE, Int.reduceNeg, Int.reduceAdd, Int.reduceSub, Int.reduceToNat, Int.reduceEq, Int.reduceMul, Int.reducePow, Int.cast_ofNat_Int, Int.toNat_natCast, ne_eq, Bool.false_eq_true, true_or, or_true, or_self, Nat.not_lt_zero, ite_e0, ite_e1, lc_lt, lc_ge, lc_gt, lc_le, lc_eq, Classical.not_not]
        with_reducible repeat' (first | (refine And.intro ?_ ?_) | intro _)
        all_goals try omega
        refine kc_add_items R1 W (by omega) h0 (fun σ2 R2 s2 => ?_)
        simp -implicitDefEqProofs only [↓b109_0, ↓b109_5, ↓b109_12, ↓b109_19, ↓b109_22, ↓b109_29, ↓b109_32, ↓b109_36, ↓b109_43, ↓b109_46, ↓b109_50, ↓b109_62, ↓b109_76, ↓b109_85, ↓b109_93, ↓b109_104, ↓b109_113, ↓b109_125, ↓b109_133, ↓b109_141, ↓b109_149, ↓b109_156, ↓b109_168, ↓b109_174, ↓b109_179, ↓b109_185, ↓b109_187, b109_0, b109_5, b109_12, b109_19, b109_22, b109_29, b109_32, b109_36, b109_43, b109_46, b109_50, b109_62, b109_76, b109_85, b109_93, b109_104, b109_113, b109_125, b109_133, b109_141, b109_149, b109_156, b109_168, b109_174, b109_179, b109_185, b109_187, nLE2, layE7, layE4, layE3, layE2, hn, n3_92, k3_76, r76, n3_57, n3_43, n3_58, n3_94, I32, ↓xb, xb, ps, lpad, lat, aok2, rd2, aaok, aav, alok, alen, aok, akk, csum, isLg, cmpI, clsE, Option.elim, eq_self, List.mem_cons, List.not_mem_nil, or_false, false_or, List.append_nil, List.nil_append, List.cons_append, List.append_eq, List.replicate, List.length_cons, List.length_nil, List.map_cons, List.map_nil, ↓reduceIte, reduceCtorEq, if_true, if_false, true_and, and_true, false_and, and_false, and_self, not_true_eq_false, not_false_eq_true, forall_const, true_implies, false_implies, implies_true, Nat.reduceAdd, Nat.reduceSub, Nat.reduceLT, Nat.reduceLeDiff, Nat.reduceEqDiff, Nat.reduceMul, Nat.reducePow, Nat.add_one_ne_zero, Nat.add_one_sub_one, Nat.add_zero, Nat.zero_add, Int.reduceLT, Int.reduceLE, Int.reduceNeg, Int.reduceAdd, Int.reduceSub, Int.reduceToNat, Int.reduceEq, Int.reduceMul, Int.reducePow, Int.cast_ofNat_Int, Int.toNat_natCast, ne_eq, Bool.false_eq_true, true_or, or_true, or_self, Nat.not_lt_zero, ite_e0, ite_e1, lc_lt, lc_ge, lc_gt, lc_le, lc_eq, Classical.not_not]
        with_reducible repeat' (first | (refine And.intro ?_ ?_) | intro _)
        all_goals try omega
        obtain ⟨kk, oo⟩ := ad_k W (s := s) (P 2 4).toNat (by omega)
        have st2 : same (Str ro) σ' σ2 := (Str_2 (ro := ro) s1).trans (Str_2 (ro := ro) (s2.mono (fun o f z => by
          have z' : (o == 2 && f == 9) = true := z
          rw [Bool.and_eq_true] at z'
          exact z'.1)))
        have n2 : ∀ f r c, f ≠ 9 → σ2 2 f r c = σ1 2 f r c := fun f r' c hf => s2 2 f (by show ((2 : Nat) == 2 && f == 9) = false; simp [hf]) r' c
        refine kc_harmOf (t := 2) (kd := 0) (n := n) (P := adP P s (P 2 4).toNat) (R2.weak (fun _ => trivial)) kk.1 (N.same (fun i => kk.2 38 i (by decide))) (fun a b' ha hb => by
            rw [n2 _ _ _ (by decide)]; exact (WRs.of (P' := adP P s (P 2 4).toNat) W1 (kk.2 2 3 (by decide)) (fun _ => kk.2 _ _ (by decide)) (fun _ => kk.2 _ _ (by decide))) a b' ha hb) (fun f a b' d => by
            rw [n2 _ _ _ (by decide)]; exact (NRs.of (P' := adP P s (P 2 4).toNat) N1 (kk.2 2 0 (by decide)) (fun _ => kk.2 _ _ (by decide)) (fun _ => kk.2 _ _ (by decide))) f a b' d) (Or.inr rfl) hr (hU.str hr st2) (by omega) (by omega) (by omega) (by rw [kk.2 2 6 (by decide)]; omega) (fun σ3 R3 N3 W3 s3 => ?_)
        have st3 : same (Str ro) σ' σ3 := st2.trans (Str_sp s3)
        have es : ((s.toNat : Nat) : Int) = s := by omega
        have hv : (rnP U 0 n.toNat (adP P s (P 2 4).toNat)).2 = cmV U n.toNat P s.toNat := by unfold cmV; rw [es]
        rw [hv]
        rcases br' with hb2 | hb2
        · have hb2' := eq_true hb2
          simp -implicitDefEqProofs only [↓b109_0, ↓b109_5, ↓b109_12, ↓b109_19, ↓b109_22, ↓b109_29, ↓b109_32, ↓b109_36, ↓b109_43, ↓b109_46, ↓b109_50, ↓b109_62, ↓b109_76, ↓b109_85, ↓b109_93, ↓b109_104, ↓b109_113, ↓b109_125, ↓b109_133, ↓b109_141, ↓b109_149, ↓b109_156, ↓b109_168, ↓b109_174, ↓b109_179, ↓b109_185, ↓b109_187, b109_0, b109_5, b109_12, b109_19, b109_22, b109_29, b109_32, b109_36, b109_43, b109_46, b109_50, b109_62, b109_76, b109_85, b109_93, b109_104, b109_113, b109_125, b109_133, b109_141, b109_149, b109_156, b109_168, b109_174, b109_179, b109_185, b109_187, nLE2, layE7, layE4, layE3, layE2, hb2', n3_92, k3_76, r76, n3_57, n3_43, n3_58, n3_94, I32, ↓xb, xb, ps, lpad, lat, aok2, rd2, aaok, aav, alok, alen, aok, akk, csum, isLg, cmpI, clsE, Option.elim, eq_self, List.mem_cons, List.not_mem_nil, or_false, false_or, List.append_nil, List.nil_append, List.cons_append, List.append_eq, List.replicate, List.length_cons, List.length_nil, List.map_cons, List.map_nil, ↓reduceIte, reduceCtorEq, if_true, if_false, true_and, and_true, false_and, and_false, and_self, not_true_eq_false, not_false_eq_true, forall_const, true_implies, false_implies, implies_true, Nat.reduceAdd, Nat.reduceSub, Nat.reduceLT, Nat.reduceLeDiff, Nat.reduceEqDiff, Nat.reduceMul, Nat.reducePow, Nat.add_one_ne_zero, Nat.add_one_sub_one, Nat.add_zero, Nat.zero_add, Int.reduceLT, Int.reduceLE, Int.reduceNeg, Int.reduceAdd, Int.reduceSub, Int.reduceToNat, Int.reduceEq, Int.reduceMul, Int.reducePow, Int.cast_ofNat_Int, Int.toNat_natCast, ne_eq, Bool.false_eq_true, true_or, or_true, or_self, Nat.not_lt_zero, ite_e0, ite_e1, lc_lt, lc_ge, lc_gt, lc_le, lc_eq, Classical.not_not]
          with_reducible repeat' (first | (refine And.intro ?_ ?_) | intro _)
          all_goals try omega
          exact ih _ _ _ σ3 _ _ _ (by omega) (by omega) (by omega) (T.str hr st3) (hU.str hr st3) (c1 ⟨hp, Or.inl hb2⟩) (hs.trans st3)
        · have hb2' : ¬ b = -1 := by omega
          simp -implicitDefEqProofs only [↓b109_0, ↓b109_5, ↓b109_12, ↓b109_19, ↓b109_22, ↓b109_29, ↓b109_32, ↓b109_36, ↓b109_43, ↓b109_46, ↓b109_50, ↓b109_62, ↓b109_76, ↓b109_85, ↓b109_93, ↓b109_104, ↓b109_113, ↓b109_125, ↓b109_133, ↓b109_141, ↓b109_149, ↓b109_156, ↓b109_168, ↓b109_174, ↓b109_179, ↓b109_185, ↓b109_187, b109_0, b109_5, b109_12, b109_19, b109_22, b109_29, b109_32, b109_36, b109_43, b109_46, b109_50, b109_62, b109_76, b109_85, b109_93, b109_104, b109_113, b109_125, b109_133, b109_141, b109_149, b109_156, b109_168, b109_174, b109_179, b109_185, b109_187, nLE2, layE7, layE4, layE3, layE2, hb2', n3_92, k3_76, r76, n3_57, n3_43, n3_58, n3_94, I32, ↓xb, xb, ps, lpad, lat, aok2, rd2, aaok, aav, alok, alen, aok, akk, csum, isLg, cmpI, clsE, Option.elim, eq_self, List.mem_cons, List.not_mem_nil, or_false, false_or, List.append_nil, List.nil_append, List.cons_append, List.append_eq, List.replicate, List.length_cons, List.length_nil, List.map_cons, List.map_nil, ↓reduceIte, reduceCtorEq, if_true, if_false, true_and, and_true, false_and, and_false, and_self, not_true_eq_false, not_false_eq_true, forall_const, true_implies, false_implies, implies_true, Nat.reduceAdd, Nat.reduceSub, Nat.reduceLT, Nat.reduceLeDiff, Nat.reduceEqDiff, Nat.reduceMul, Nat.reducePow, Nat.add_one_ne_zero, Nat.add_one_sub_one, Nat.add_zero, Nat.zero_add, Int.reduceLT, Int.reduceLE, Int.reduceNeg, Int.reduceAdd, Int.reduceSub, Int.reduceToNat, Int.reduceEq, Int.reduceMul, Int.reducePow, Int.cast_ofNat_Int, Int.toNat_natCast, ne_eq, Bool.false_eq_true, true_or, or_true, or_self, Nat.not_lt_zero, ite_e0, ite_e1, lc_lt, lc_ge, lc_gt, lc_le, lc_eq, Classical.not_not]
          with_reducible repeat' (first | (refine And.intro ?_ ?_) | intro _)
          all_goals try omega
          all_goals first | exact ih _ _ _ σ3 _ _ _ (by omega) (by omega) (by omega) (T.str hr st3) (hU.str hr st3) (c1 ⟨hp, by omega⟩) (hs.trans st3) | exact ih _ _ _ σ3 _ _ _ (by omega) (by omega) (by omega) (T.str hr st3) (hU.str hr st3) (c0 (fun z => by omega)) (hs.trans st3)
      · simp -implicitDefEqProofs only [↓b109_0, ↓b109_5, ↓b109_12, ↓b109_19, ↓b109_22, ↓b109_29, ↓b109_32, ↓b109_36, ↓b109_43, ↓b109_46, ↓b109_50, ↓b109_62, ↓b109_76, ↓b109_85, ↓b109_93, ↓b109_104, ↓b109_113, ↓b109_125, ↓b109_133, ↓b109_141, ↓b109_149, ↓b109_156, ↓b109_168, ↓b109_174, ↓b109_179, ↓b109_185, ↓b109_187, b109_0, b109_5, b109_12, b109_19, b109_22, b109_29, b109_32, b109_36, b109_43, b109_46, b109_50, b109_62, b109_76, b109_85, b109_93, b109_104, b109_113, b109_125, b109_133, b109_141, b109_149, b109_156, b109_168, b109_174, b109_179, b109_185, b109_187, nLE2, layE7, layE4, layE3, layE2, hn, n3_92, k3_76, r76, n3_57, n3_43, n3_58, n3_94, I32, ↓xb, xb, ps, lpad, lat, aok2, rd2, aaok, aav, alok, alen, aok, akk, csum, isLg, cmpI, clsE, Option.elim, eq_self, List.mem_cons, List.not_mem_nil, or_false, false_or, List.append_nil, List.nil_append, List.cons_append, List.append_eq, List.replicate, List.length_cons, List.length_nil, List.map_cons, List.map_nil, ↓reduceIte, reduceCtorEq, if_true, if_false, true_and, and_true, false_and, and_false, and_self, not_true_eq_false, not_false_eq_true, forall_const, true_implies, false_implies, implies_true, Nat.reduceAdd, Nat.reduceSub, Nat.reduceLT, Nat.reduceLeDiff, Nat.reduceEqDiff, Nat.reduceMul, Nat.reducePow, Nat.add_one_ne_zero, Nat.add_one_sub_one, Nat.add_zero, Nat.zero_add, Int.reduceLT, Int.reduceLE, Int.reduceNeg, Int.reduceAdd, Int.reduceSub, Int.reduceToNat, Int.reduceEq, Int.reduceMul, Int.reducePow, Int.cast_ofNat_Int, Int.toNat_natCast, ne_eq, Bool.false_eq_true, true_or, or_true, or_self, Nat.not_lt_zero, ite_e0, ite_e1, lc_lt, lc_ge, lc_gt, lc_le, lc_eq, Classical.not_not]
        with_reducible repeat' (first | (refine And.intro ?_ ?_) | intro _)
        all_goals try omega
        all_goals first | omega | skip
        exact ih _ _ _ σ' _ _ _ (by omega) (by omega) (by omega) T hU (c0 (fun z => hp z.1)) hs
    · have ei : s = 2 ^ (P 2 4).toNat := by omega
      have z := q σ' hs
      rw [← ei, ← hc] at z
      refine TT_vb ok109 (sm3_ok G w) 60 [62] ?_
      simp -implicitDefEqProofs only [↓b109_0, ↓b109_5, ↓b109_12, ↓b109_19, ↓b109_22, ↓b109_29, ↓b109_32, ↓b109_36, ↓b109_43, ↓b109_46, ↓b109_50, ↓b109_62, ↓b109_76, ↓b109_85, ↓b109_93, ↓b109_104, ↓b109_113, ↓b109_125, ↓b109_133, ↓b109_141, ↓b109_149, ↓b109_156, ↓b109_168, ↓b109_174, ↓b109_179, ↓b109_185, ↓b109_187, b109_0, b109_5, b109_12, b109_19, b109_22, b109_29, b109_32, b109_36, b109_43, b109_46, b109_50, b109_62, b109_76, b109_85, b109_93, b109_104, b109_113, b109_125, b109_133, b109_141, b109_149, b109_156, b109_168, b109_174, b109_179, b109_185, b109_187, nLE2, layE7, layE4, layE3, layE2, e4, n3_92, k3_76, r76, n3_57, n3_43, n3_58, n3_94, I32, ↓xb, xb, ps, lpad, lat, aok2, rd2, aaok, aav, alok, alen, aok, akk, csum, isLg, cmpI, clsE, Option.elim, eq_self, List.mem_cons, List.not_mem_nil, or_false, false_or, List.append_nil, List.nil_append, List.cons_append, List.append_eq, List.replicate, List.length_cons, List.length_nil, List.map_cons, List.map_nil, ↓reduceIte, reduceCtorEq, if_true, if_false, true_and, and_true, false_and, and_false, and_self, not_true_eq_false, not_false_eq_true, forall_const, true_implies, false_implies, implies_true, Nat.reduceAdd, Nat.reduceSub, Nat.reduceLT, Nat.reduceLeDiff, Nat.reduceEqDiff, Nat.reduceMul, Nat.reducePow, Nat.add_one_ne_zero, Nat.add_one_sub_one, Nat.add_zero, Nat.zero_add, Int.reduceLT, Int.reduceLE, Int.reduceNeg, Int.reduceAdd, Int.reduceSub, Int.reduceToNat, Int.reduceEq, Int.reduceMul, Int.reducePow, Int.cast_ofNat_Int, Int.toNat_natCast, ne_eq, Bool.false_eq_true, true_or, or_true, or_self, Nat.not_lt_zero, ite_e0, ite_e1, lc_lt, lc_ge, lc_gt, lc_le, lc_eq, Classical.not_not]
      with_reducible repeat' (first | (refine And.intro ?_ ?_) | intro _)
      all_goals try omega
      all_goals first | (rw [show cmA wh (b, p, v) = b from if_pos (by omega)] at z; exact z) | (rw [show cmA wh (b, p, v) = v from if_neg (by omega)] at z; exact z)
set_option maxRecDepth 100000 in
set_option maxHeartbeats 1000000 in
theorem kc_common (T : TF σ P) (W : WF P) (N : N38 P) (hn6 : P 2 6 ≤ 9999) {nr : Int} (L : RLs w σ nr) {u : Nat → RU} (hU : RUs G w nr u σ) (hk : 32 ≤ k) {coins n wh : Int}
    (q0 : ¬ ((0 ≤ r ∧ r < nr) ∧ (0 ≤ coins ∧ coins ≤ 99999) ∧ (0 ≤ n ∧ n ≤ 20) ∧ (0 ≤ wh ∧ wh ≤ 1)) → Q (some (vl (-1))) σ)
    (q1 : (0 ≤ r ∧ r < nr) ∧ (0 ≤ coins ∧ coins ≤ 99999) ∧ (0 ≤ n ∧ n ≤ 20) ∧ (0 ≤ wh ∧ wh ≤ 1) → ∀ σ', same (Str (13 + r.toNat)) σ σ' → Q (some (vl (cmA wh (cmR (u r.toNat) n.toNat coins P ((2 : Int) ^ (P 2 4).toNat).toNat)))) σ') : CC G w w k (0, 0) 109 [vr 0 0 0, vi r, vi coins, vi n, vi wh] σ Q := by
  have hL := L.2.1
  have w5 := W.sc.2.2.2.2.1
  have p6 := pow2_6 w5
  refine CC_vb ok109 (by decide) (sm3_ok G w) 60 [62] (Nat.le_of_ble_eq_true rfl) ?_
  simp -implicitDefEqProofs only [↓b109_0, ↓b109_5, ↓b109_12, ↓b109_19, ↓b109_22, ↓b109_29, ↓b109_32, ↓b109_36, ↓b109_43, ↓b109_46, ↓b109_50, ↓b109_62, ↓b109_76, ↓b109_85, ↓b109_93, ↓b109_104, ↓b109_113, ↓b109_125, ↓b109_133, ↓b109_141, ↓b109_149, ↓b109_156, ↓b109_168, ↓b109_174, ↓b109_179, ↓b109_185, ↓b109_187, b109_0, b109_5, b109_12, b109_19, b109_22, b109_29, b109_32, b109_36, b109_43, b109_46, b109_50, b109_62, b109_76, b109_85, b109_93, b109_104, b109_113, b109_125, b109_133, b109_141, b109_149, b109_156, b109_168, b109_174, b109_179, b109_185, b109_187, nLE2, layE7, layE4, layE3, layE2, hk, n3_92, k3_76, r76, n3_57, n3_43, n3_58, n3_94, I32, ↓xb, xb, ps, lpad, lat, aok2, rd2, aaok, aav, alok, alen, aok, akk, csum, isLg, cmpI, clsE, Option.elim, eq_self, List.mem_cons, List.not_mem_nil, or_false, false_or, List.append_nil, List.nil_append, List.cons_append, List.append_eq, List.replicate, List.length_cons, List.length_nil, List.map_cons, List.map_nil, ↓reduceIte, reduceCtorEq, if_true, if_false, true_and, and_true, false_and, and_false, and_self, not_true_eq_false, not_false_eq_true, forall_const, true_implies, false_implies, implies_true, Nat.reduceAdd, Nat.reduceSub, Nat.reduceLT, Nat.reduceLeDiff, Nat.reduceEqDiff, Nat.reduceMul, Nat.reducePow, Nat.add_one_ne_zero, Nat.add_one_sub_one, Nat.add_zero, Nat.zero_add, Int.reduceLT, Int.reduceLE, Int.reduceNeg, Int.reduceAdd, Int.reduceSub, Int.reduceToNat, Int.reduceEq, Int.reduceMul, Int.reducePow, Int.cast_ofNat_Int, Int.toNat_natCast, ne_eq, Bool.false_eq_true, true_or, or_true, or_self, Nat.not_lt_zero, ite_e0, ite_e1, lc_lt, lc_ge, lc_gt, lc_le, lc_eq, Classical.not_not]
  with_reducible repeat' (first | (refine And.intro ?_ ?_) | intro _)
  all_goals try omega
  refine kc_ruleOf L (by omega) (fun h => ?_) (fun h => ?_)
  · simp -implicitDefEqProofs only [↓b109_0, ↓b109_5, ↓b109_12, ↓b109_19, ↓b109_22, ↓b109_29, ↓b109_32, ↓b109_36, ↓b109_43, ↓b109_46, ↓b109_50, ↓b109_62, ↓b109_76, ↓b109_85, ↓b109_93, ↓b109_104, ↓b109_113, ↓b109_125, ↓b109_133, ↓b109_141, ↓b109_149, ↓b109_156, ↓b109_168, ↓b109_174, ↓b109_179, ↓b109_185, ↓b109_187, b109_0, b109_5, b109_12, b109_19, b109_22, b109_29, b109_32, b109_36, b109_43, b109_46, b109_50, b109_62, b109_76, b109_85, b109_93, b109_104, b109_113, b109_125, b109_133, b109_141, b109_149, b109_156, b109_168, b109_174, b109_179, b109_185, b109_187, nLE2, layE7, layE4, layE3, layE2, hk, n3_92, k3_76, r76, n3_57, n3_43, n3_58, n3_94, I32, ↓xb, xb, ps, lpad, lat, aok2, rd2, aaok, aav, alok, alen, aok, akk, csum, isLg, cmpI, clsE, Option.elim, eq_self, List.mem_cons, List.not_mem_nil, or_false, false_or, List.append_nil, List.nil_append, List.cons_append, List.append_eq, List.replicate, List.length_cons, List.length_nil, List.map_cons, List.map_nil, ↓reduceIte, reduceCtorEq, if_true, if_false, true_and, and_true, false_and, and_false, and_self, not_true_eq_false, not_false_eq_true, forall_const, true_implies, false_implies, implies_true, Nat.reduceAdd, Nat.reduceSub, Nat.reduceLT, Nat.reduceLeDiff, Nat.reduceEqDiff, Nat.reduceMul, Nat.reducePow, Nat.add_one_ne_zero, Nat.add_one_sub_one, Nat.add_zero, Nat.zero_add, Int.reduceLT, Int.reduceLE, Int.reduceNeg, Int.reduceAdd, Int.reduceSub, Int.reduceToNat, Int.reduceEq, Int.reduceMul, Int.reducePow, Int.cast_ofNat_Int, Int.toNat_natCast, ne_eq, Bool.false_eq_true, true_or, or_true, or_self, Nat.not_lt_zero, ite_e0, ite_e1, lc_lt, lc_ge, lc_gt, lc_le, lc_eq, Classical.not_not]
    with_reducible repeat' (first | (refine And.intro ?_ ?_) | intro _)
    all_goals try omega
    exact q0 (fun z => h z.1)
  · simp -implicitDefEqProofs only [↓b109_0, ↓b109_5, ↓b109_12, ↓b109_19, ↓b109_22, ↓b109_29, ↓b109_32, ↓b109_36, ↓b109_43, ↓b109_46, ↓b109_50, ↓b109_62, ↓b109_76, ↓b109_85, ↓b109_93, ↓b109_104, ↓b109_113, ↓b109_125, ↓b109_133, ↓b109_141, ↓b109_149, ↓b109_156, ↓b109_168, ↓b109_174, ↓b109_179, ↓b109_185, ↓b109_187, b109_0, b109_5, b109_12, b109_19, b109_22, b109_29, b109_32, b109_36, b109_43, b109_46, b109_50, b109_62, b109_76, b109_85, b109_93, b109_104, b109_113, b109_125, b109_133, b109_141, b109_149, b109_156, b109_168, b109_174, b109_179, b109_185, b109_187, nLE2, layE7, layE4, layE3, layE2, hk, n3_92, k3_76, r76, n3_57, n3_43, n3_58, n3_94, I32, ↓xb, xb, ps, lpad, lat, aok2, rd2, aaok, aav, alok, alen, aok, akk, csum, isLg, cmpI, clsE, Option.elim, eq_self, List.mem_cons, List.not_mem_nil, or_false, false_or, List.append_nil, List.nil_append, List.cons_append, List.append_eq, List.replicate, List.length_cons, List.length_nil, List.map_cons, List.map_nil, ↓reduceIte, reduceCtorEq, if_true, if_false, true_and, and_true, false_and, and_false, and_self, not_true_eq_false, not_false_eq_true, forall_const, true_implies, false_implies, implies_true, Nat.reduceAdd, Nat.reduceSub, Nat.reduceLT, Nat.reduceLeDiff, Nat.reduceEqDiff, Nat.reduceMul, Nat.reducePow, Nat.add_one_ne_zero, Nat.add_one_sub_one, Nat.add_zero, Nat.zero_add, Int.reduceLT, Int.reduceLE, Int.reduceNeg, Int.reduceAdd, Int.reduceSub, Int.reduceToNat, Int.reduceEq, Int.reduceMul, Int.reducePow, Int.cast_ofNat_Int, Int.toNat_natCast, ne_eq, Bool.false_eq_true, true_or, or_true, or_self, Nat.not_lt_zero, ite_e0, ite_e1, lc_lt, lc_ge, lc_gt, lc_le, lc_eq, Classical.not_not]
    with_reducible repeat' (first | (refine And.intro ?_ ?_) | intro _)
    all_goals try omega
    all_goals first | omega | exact q0 (fun z => by omega) | skip
    exact kc_common_l (U := u r.toNat) W N hn6 (by omega) (by omega) (by omega) (q1 ⟨h, by omega, by omega, by omega⟩) 65 0 (-1) 0 0 σ _ _ _ (by omega) (by omega) (by omega) T (hU r.toNat (by omega)) rfl same.refl
end CMN

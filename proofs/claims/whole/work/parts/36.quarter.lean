/-! 36.quarter: a quarter, by the check -/
section QTX
variable {G : Gl} {w : Wd} {k : Nat} {σ : Mem} {Q : Option AV → Mem → Prop} {P : Pt} {U : RU} {r kd : Int}
set_option maxRecDepth 100000 in
set_option maxHeartbeats 1000000 in
theorem kx_q_l (W : WF P) (N : N38 P) (hk : 24 ≤ k) (hn6 : P 2 6 ≤ 99998) (hkd : 0 ≤ kd ∧ kd ≤ 2) (hU2 : 0 ≤ U.2) {li : Nat → Int} {d : Int} (hd : 0 ≤ d ∧ d ≤ 40) (hli : ∀ c, c < d.toNat → 0 ≤ li c ∧ li c < P 2 1)
    (q : ∀ σ', MR σ' (pu (iter (svS U kd li (fun n => nrP P (P 9 n))) d.toNat (P, 0)).1 2 6 (P 2 6 + 1)) → same SX σ σ' → Q none σ') :
    ∀ (m : Nat) (i : Int) (σ' : Mem) (l5 l6 : Option AV), 0 ≤ i → i ≤ d → d < i + m → RuX G w 6 r U σ' → MR σ' (iter (svS U kd li (fun n => nrP P (P 9 n))) i.toNat (P, 0)).1 → (∀ c, c < d.toNat → σ' 21 61 0 c = li c) → same SX σ σ' → TT G w w w k (0, 0) 192 14 [some (vr 21 0 0), some (vi r), some (vi kd), some (vi d), some (vi i), l5, l6] [] σ' Q
  | 0, i, σ', l5, l6, h0, h1, h2, _, _, _, _ => by omega
  | m + 1, i, σ', l5, l6, h0, h1, h2, hX, M, hl, hs => by
    have ih := kx_q_l W N hk hn6 hkd hU2 hd hli q m (i + 1)
    rw [iter_toNat _ h0] at ih
    have w1 := W.sc.1; have w2 := W.sc.2.1
    have w6 := W.sc.2.2.2.2.2.2.1
    have hnr : ∀ n : Nat, (n : Int) < P 2 1 → ∀ j : Nat, (j : Int) < P 2 0 - 1 → 0 ≤ nrP P (P 9 n) j ∧ nrP P (P 9 n) j < P 2 0 ∧ nrP P (P 9 n) j ≠ P 9 n := fun n hn j hj => nr_r W (W.nd hn).1 hj
    have kk : KQ P (iter (svS U kd li (fun n => nrP P (P 9 n))) i.toNat (P, 0)).1 ∧ N38 (iter (svS U kd li (fun n => nrP P (P 9 n))) i.toNat (P, 0)).1 ∧ (iter (svS U kd li (fun n => nrP P (P 9 n))) i.toNat (P, 0)).1 2 6 = P 2 6 := iter_inv (st := svS U kd li (fun n => nrP P (P 9 n))) (I := fun _ s => KQ P s.1 ∧ N38 s.1 ∧ s.1 2 6 = P 2 6) ⟨KQ.refl W, N, rfl⟩ (fun j b hj hb => by
      have hj' := hli j (by omega)
      have z := sv_k (kd := kd) hb.1 hb.2.1 hU2 (n := (li j).toNat) (by omega) (hnr (li j).toNat (by omega))
      exact ⟨z.1, z.2, z.1.2 2 6 (by decide) (by decide) (by decide) (by decide)⟩)
    obtain ⟨kq, Nq, e26⟩ := kk
    by_cases hi : i < d
    · have li1 := hli i.toNat (by omega)
      have l1 := hl i.toNat (by omega)
      have f1 := kq.2 2 1 (by decide) (by decide) (by decide) (by decide)
      have f0 := kq.2 2 0 (by decide) (by decide) (by decide) (by decide)
      have f9 := kq.2 9 (li i.toNat).toNat (by decide) (by decide) (by decide) (by decide)
      have eL : vi (li i.toNat) = vi (((li i.toNat).toNat : Nat) : Int) := by rw [show (((li i.toNat).toNat : Nat) : Int) = li i.toNat by omega]
      have step : svS U kd li (fun n => nrP P (P 9 n)) i.toNat (iter (svS U kd li (fun n => nrP P (P 9 n))) i.toNat (P, 0)) = (svP U kd (nrP P (P 9 (li i.toNat).toNat)) (li i.toNat).toNat (iter (svS U kd li (fun n => nrP P (P 9 n))) i.toNat (P, 0)).1, w64 ((iter (svS U kd li (fun n => nrP P (P 9 n))) i.toNat (P, 0)).2 + svH U kd (nrP P (P 9 (li i.toNat).toNat)) (li i.toNat).toNat (iter (svS U kd li (fun n => nrP P (P 9 n))) i.toNat (P, 0)).1)) := rfl
      rw [step] at ih
      have enr : nrP (iter (svS U kd li (fun n => nrP P (P 9 n))) i.toNat (P, 0)).1 ((iter (svS U kd li (fun n => nrP P (P 9 n))) i.toNat (P, 0)).1 9 (li i.toNat).toNat) = nrP P (P 9 (li i.toNat).toNat) := by funext j; rw [nrP_ext kq, f9]
      have kv := sv_k (kd := kd) kq Nq hU2 (n := (li i.toNat).toNat) (by omega) (hnr (li i.toNat).toNat (by omega))
      revert ih M kq Nq f1 f0 f9 enr kv
      generalize (iter (svS U kd li (fun n => nrP P (P 9 n))) i.toNat (P, 0)).1 = s
      intro M ih kq Nq f1 f0 f9 enr kv
      have kvw := kv.1
      unfold svP at kvw
      refine TT_vb ok192 (sm3_ok G w) 60 [14] ?_
      simp -implicitDefEqProofs only [↓b192_0, ↓b192_5, ↓b192_10, ↓b192_14, ↓b192_20, ↓b192_37, ↓b192_72, b192_0, b192_5, b192_10, b192_14, b192_20, b192_37, b192_72, nLE3, layE8, l1, n3_187, n3_188, n3_191, I32, ↓xb, xb, ps, lpad, lat, aok2, rd2, aaok, aav, alok, alen, aok, akk, csum, isLg, cmpI, clsE, Option.elim, eq_self, List.mem_cons, List.not_mem_nil, or_false, false_or, List.append_nil, List.nil_append, List.cons_append, List.append_eq, List.replicate, List.length_cons, List.length_nil, List.map_cons, List.map_nil, ↓reduceIte, reduceCtorEq, if_true, if_false, true_and, and_true, false_and, and_false, and_self, not_true_eq_false, not_false_eq_true, forall_const, true_implies, false_implies, implies_true, Nat.reduceAdd, Nat.reduceSub, Nat.reduceLT, Nat.reduceLeDiff, Nat.reduceEqDiff, Nat.reduceMul, Nat.reducePow, Nat.add_one_ne_zero, Nat.add_one_sub_one, Nat.add_zero, Nat.zero_add, Int.reduceLT, Int.reduceLE, Int.reduceNeg, Int.reduceAdd, Int.reduceSub, Int.reduceToNat, Int.reduceEq, Int.reduceMul, Int.reducePow, Int.cast_ofNat_Int, Int.toNat_natCast, ne_eq, Bool.false_eq_true, true_or, or_true, or_self, Nat.not_lt_zero, ite_e0, ite_e1, lc_lt, lc_ge, lc_gt, lc_le, lc_eq, Classical.not_not]
      with_reducible repeat' (first | (refine And.intro ?_ ?_) | intro _)
      all_goals try omega
      rw [eL]
      refine kx_has M kq.1 Nq hX (by omega) (by have := kq.2 2 6 (by decide) (by decide) (by decide) (by decide); omega) hkd (n := (li i.toNat).toNat) (by omega) (fun σ2 M2 hs2 => ?_)
      rw [← eL]
      rw [enr] at M2 ⊢
      have sve : svP U kd (nrP P (P 9 (li i.toNat).toNat)) (li i.toNat).toNat s = pu (svG U kd (nrP P (P 9 (li i.toNat).toNat)) (li i.toNat).toNat s).1 37 (s 9 (li i.toNat).toNat).toNat (w64 ((svG U kd (nrP P (P 9 (li i.toNat).toNat)) (li i.toNat).toNat s).1 37 (s 9 (li i.toNat).toNat).toNat + w64 ((svG U kd (nrP P (P 9 (li i.toNat).toNat)) (li i.toNat).toNat s).2 * s 12 (li i.toNat).toNat))) := rfl
      have h9 : (svG U kd (nrP P (P 9 (li i.toNat).toNat)) (li i.toNat).toNat s).1 9 (li i.toNat).toNat = s 9 (li i.toNat).toNat := by
        have z := kvw.2 9 (li i.toNat).toNat (by decide) (by decide) (by decide) (by decide)
        rw [pu_nf (by decide)] at z
        rw [z, f9]
      have h12 : (svG U kd (nrP P (P 9 (li i.toNat).toNat)) (li i.toNat).toNat s).1 12 (li i.toNat).toNat = s 12 (li i.toNat).toNat := by
        have z := kvw.2 12 (li i.toNat).toNat (by decide) (by decide) (by decide) (by decide)
        rw [pu_nf (by decide)] at z
        rw [z, kq.2 12 _ (by decide) (by decide) (by decide) (by decide)]
      have d1 := (W.nd (n := (li i.toNat).toNat) (by omega)).1
      rw [sve] at ih
      revert ih M2 h9 h12
      generalize svG U kd (nrP P (P 9 (li i.toNat).toNat)) (li i.toNat).toNat s = z
      intro ih M2 h9 h12
      have hM2 : ∀ f i, 2 ≤ f → f ≤ 38 → σ2 21 f 0 i = z.1 f i := M2
      simp -implicitDefEqProofs only [↓b192_0, ↓b192_5, ↓b192_10, ↓b192_14, ↓b192_20, ↓b192_37, ↓b192_72, b192_0, b192_5, b192_10, b192_14, b192_20, b192_37, b192_72, nLE3, layE8, hM2, h9, h12, n3_187, n3_188, n3_191, I32, ↓xb, xb, ps, lpad, lat, aok2, rd2, aaok, aav, alok, alen, aok, akk, csum, isLg, cmpI, clsE, Option.elim, eq_self, List.mem_cons, List.not_mem_nil, or_false, false_or, List.append_nil, List.nil_append, List.cons_append, List.append_eq, List.replicate, List.length_cons, List.length_nil, List.map_cons, List.map_nil, ↓reduceIte, reduceCtorEq, if_true, if_false, true_and, and_true, false_and, and_false, and_self, not_true_eq_false, not_false_eq_true, forall_const, true_implies, false_implies, implies_true, Nat.reduceAdd, Nat.reduceSub, Nat.reduceLT, Nat.reduceLeDiff, Nat.reduceEqDiff, Nat.reduceMul, Nat.reducePow, Nat.add_one_ne_zero, Nat.add_one_sub_one, Nat.add_zero, Nat.zero_add, Int.reduceLT, Int.reduceLE, Int.reduceNeg, Int.reduceAdd, Int.reduceSub, Int.reduceToNat, Int.reduceEq, Int.reduceMul, Int.reducePow, Int.cast_ofNat_Int, Int.toNat_natCast, ne_eq, Bool.false_eq_true, true_or, or_true, or_self, Nat.not_lt_zero, ite_e0, ite_e1, lc_lt, lc_ge, lc_gt, lc_le, lc_eq, Classical.not_not]
      with_reducible repeat' (first | (refine And.intro ?_ ?_) | intro _)
      all_goals try omega
      refine ih _ _ _ (by omega) (by omega) (by omega) ((hX.sx (same_sh hs2)).keep (fun f a b r c => upp_nf (by omega))) M2.put (fun c hc => ?_) ((hs.trans (same_sh hs2)).put rfl)
      rw [upp_nf (by decide), hs2 21 61 rfl 0 c]
      exact hl c hc
    · have ei : i = d := by omega
      have hM : ∀ f j, 2 ≤ f → f ≤ 38 → σ' 21 f 0 j = (iter (svS U kd li (fun n => nrP P (P 9 n))) i.toNat (P, 0)).1 f j := M
      refine TT_vb ok192 (sm3_ok G w) 60 [14] ?_
      simp -implicitDefEqProofs only [↓b192_0, ↓b192_5, ↓b192_10, ↓b192_14, ↓b192_20, ↓b192_37, ↓b192_72, b192_0, b192_5, b192_10, b192_14, b192_20, b192_37, b192_72, nLE3, layE8, hM, e26, n3_187, n3_188, n3_191, I32, ↓xb, xb, ps, lpad, lat, aok2, rd2, aaok, aav, alok, alen, aok, akk, csum, isLg, cmpI, clsE, Option.elim, eq_self, List.mem_cons, List.not_mem_nil, or_false, false_or, List.append_nil, List.nil_append, List.cons_append, List.append_eq, List.replicate, List.length_cons, List.length_nil, List.map_cons, List.map_nil, ↓reduceIte, reduceCtorEq, if_true, if_false, true_and, and_true, false_and, and_false, and_self, not_true_eq_false, not_false_eq_true, forall_const, true_implies, false_implies, implies_true, Nat.reduceAdd, Nat.reduceSub, Nat.reduceLT, Nat.reduceLeDiff, Nat.reduceEqDiff, Nat.reduceMul, Nat.reducePow, Nat.add_one_ne_zero, Nat.add_one_sub_one, Nat.add_zero, Nat.zero_add, Int.reduceLT, Int.reduceLE, Int.reduceNeg, Int.reduceAdd, Int.reduceSub, Int.reduceToNat, Int.reduceEq, Int.reduceMul, Int.reducePow, Int.cast_ofNat_Int, Int.toNat_natCast, ne_eq, Bool.false_eq_true, true_or, or_true, or_self, Nat.not_lt_zero, ite_e0, ite_e1, lc_lt, lc_ge, lc_gt, lc_le, lc_eq, Classical.not_not]
      with_reducible repeat' (first | (refine And.intro ?_ ?_) | intro _)
      all_goals try omega
      refine q _ ?_ (hs.put rfl)
      rw [ei] at M
      exact M.put
set_option maxRecDepth 100000 in
set_option maxHeartbeats 1000000 in
theorem kx_quarter (M : MR σ P) (W : WF P) (N : N38 P) (hX : RuX G w 6 r U σ) (hk : 26 ≤ k) (hn6 : P 2 6 ≤ 99998) (hkd : 0 ≤ kd ∧ kd ≤ 2)
    (q : ∀ σ', MR σ' (quP U kd P) → same SX σ σ' → Q none σ') : CC G w w k (0, 0) 192 [vr 21 0 0, vi r, vi kd] σ Q := by
  have w1 := W.sc.1; have w2 := W.sc.2.1
  have k4 := q4_k (U := U) W
  have f1 := k4.2 2 1 (by decide) (by decide) (by decide) (by decide)
  have f6 := k4.2 2 6 (by decide) (by decide) (by decide) (by decide)
  refine CC_vb ok192 (by decide) (sm3_ok G w) 60 [14] (Nat.le_of_ble_eq_true rfl) ?_
  simp -implicitDefEqProofs only [↓b192_0, ↓b192_5, ↓b192_10, ↓b192_14, ↓b192_20, ↓b192_37, ↓b192_72, b192_0, b192_5, b192_10, b192_14, b192_20, b192_37, b192_72, nLE3, layE8, hk, n3_187, n3_188, n3_191, I32, ↓xb, xb, ps, lpad, lat, aok2, rd2, aaok, aav, alok, alen, aok, akk, csum, isLg, cmpI, clsE, Option.elim, eq_self, List.mem_cons, List.not_mem_nil, or_false, false_or, List.append_nil, List.nil_append, List.cons_append, List.append_eq, List.replicate, List.length_cons, List.length_nil, List.map_cons, List.map_nil, ↓reduceIte, reduceCtorEq, if_true, if_false, true_and, and_true, false_and, and_false, and_self, not_true_eq_false, not_false_eq_true, forall_const, true_implies, false_implies, implies_true, Nat.reduceAdd, Nat.reduceSub, Nat.reduceLT, Nat.reduceLeDiff, Nat.reduceEqDiff, Nat.reduceMul, Nat.reducePow, Nat.add_one_ne_zero, Nat.add_one_sub_one, Nat.add_zero, Nat.zero_add, Int.reduceLT, Int.reduceLE, Int.reduceNeg, Int.reduceAdd, Int.reduceSub, Int.reduceToNat, Int.reduceEq, Int.reduceMul, Int.reducePow, Int.cast_ofNat_Int, Int.toNat_natCast, ne_eq, Bool.false_eq_true, true_or, or_true, or_self, Nat.not_lt_zero, ite_e0, ite_e1, lc_lt, lc_ge, lc_gt, lc_le, lc_eq, Classical.not_not]
  with_reducible repeat' (first | (refine And.intro ?_ ?_) | intro _)
  all_goals try omega
  refine kx_begins M W hX (by omega) (by omega) (fun σ1 M1 s1 => ?_)
  simp -implicitDefEqProofs only [↓b192_0, ↓b192_5, ↓b192_10, ↓b192_14, ↓b192_20, ↓b192_37, ↓b192_72, b192_0, b192_5, b192_10, b192_14, b192_20, b192_37, b192_72, nLE3, layE8, hk, n3_187, n3_188, n3_191, I32, ↓xb, xb, ps, lpad, lat, aok2, rd2, aaok, aav, alok, alen, aok, akk, csum, isLg, cmpI, clsE, Option.elim, eq_self, List.mem_cons, List.not_mem_nil, or_false, false_or, List.append_nil, List.nil_append, List.cons_append, List.append_eq, List.replicate, List.length_cons, List.length_nil, List.map_cons, List.map_nil, ↓reduceIte, reduceCtorEq, if_true, if_false, true_and, and_true, false_and, and_false, and_self, not_true_eq_false, not_false_eq_true, forall_const, true_implies, false_implies, implies_true, Nat.reduceAdd, Nat.reduceSub, Nat.reduceLT, Nat.reduceLeDiff, Nat.reduceEqDiff, Nat.reduceMul, Nat.reducePow, Nat.add_one_ne_zero, Nat.add_one_sub_one, Nat.add_zero, Nat.zero_add, Int.reduceLT, Int.reduceLE, Int.reduceNeg, Int.reduceAdd, Int.reduceSub, Int.reduceToNat, Int.reduceEq, Int.reduceMul, Int.reducePow, Int.cast_ofNat_Int, Int.toNat_natCast, ne_eq, Bool.false_eq_true, true_or, or_true, or_self, Nat.not_lt_zero, ite_e0, ite_e1, lc_lt, lc_ge, lc_gt, lc_le, lc_eq, Classical.not_not]
  with_reducible repeat' (first | (refine And.intro ?_ ?_) | intro _)
  all_goals try omega
  refine kx_sorts M1 k4.1 (hX.sx s1) (by omega) (by omega) (fun σ2 M2 hl s2 => ?_)
  rw [f1] at hl ⊢
  have v := lnP_inv (U := U) (P := q4P U P) (P 2 1).toNat
  simp -implicitDefEqProofs only [↓b192_0, ↓b192_5, ↓b192_10, ↓b192_14, ↓b192_20, ↓b192_37, ↓b192_72, b192_0, b192_5, b192_10, b192_14, b192_20, b192_37, b192_72, nLE3, layE8, hk, n3_187, n3_188, n3_191, I32, ↓xb, xb, ps, lpad, lat, aok2, rd2, aaok, aav, alok, alen, aok, akk, csum, isLg, cmpI, clsE, Option.elim, eq_self, List.mem_cons, List.not_mem_nil, or_false, false_or, List.append_nil, List.nil_append, List.cons_append, List.append_eq, List.replicate, List.length_cons, List.length_nil, List.map_cons, List.map_nil, ↓reduceIte, reduceCtorEq, if_true, if_false, true_and, and_true, false_and, and_false, and_self, not_true_eq_false, not_false_eq_true, forall_const, true_implies, false_implies, implies_true, Nat.reduceAdd, Nat.reduceSub, Nat.reduceLT, Nat.reduceLeDiff, Nat.reduceEqDiff, Nat.reduceMul, Nat.reducePow, Nat.add_one_ne_zero, Nat.add_one_sub_one, Nat.add_zero, Nat.zero_add, Int.reduceLT, Int.reduceLE, Int.reduceNeg, Int.reduceAdd, Int.reduceSub, Int.reduceToNat, Int.reduceEq, Int.reduceMul, Int.reducePow, Int.cast_ofNat_Int, Int.toNat_natCast, ne_eq, Bool.false_eq_true, true_or, or_true, or_self, Nat.not_lt_zero, ite_e0, ite_e1, lc_lt, lc_ge, lc_gt, lc_le, lc_eq, Classical.not_not]
  with_reducible repeat' (first | (refine And.intro ?_ ?_) | intro _)
  all_goals try omega
  refine kx_q_l (σ := σ) (P := q4P U P) (U := U) (li := (lnP U (q4P U P) (P 2 1).toNat).1) (d := (lnP U (q4P U P) (P 2 1).toNat).2) k4.1 (N.same (q4_n W)) (by omega) (by omega) hkd hX.1.1 ⟨v.1, by omega⟩ (fun c hc => by have := v.2.2 c hc; omega) (fun σ' M' s' => ?_) 41 0 σ2 _ _ (by omega) v.1 (by omega) ((hX.sx s1).sx s2) M2 hl (s1.trans s2)
  have e : (fun n => nrP (q4P U P) ((q4P U P) 9 n)) = fun n => nrP P (P 9 n) := by
    funext n j
    rw [nrP_ext k4, k4.2 9 n (by decide) (by decide) (by decide) (by decide)]
  rw [e, f6] at M'
  exact q σ' M' s'
end QTX

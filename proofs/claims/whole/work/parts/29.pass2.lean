/-! 29.pass2: a quarter (class), its loops -/
def SP (t ro : Nat) (o f : Nat) : Bool := SQ t ro o f || o == 8
theorem same_sp {t ro : Nat} {σ σ' : Mem} (h : same (SQ t ro) σ σ') : same (SP t ro) σ σ' := h.mono (fun o f z => by unfold SP; rw [z]; rfl)
theorem same_8r {t ro : Nat} {σ σ' : Mem} (h : same (S8r ro) σ σ') : same (SP t ro) σ σ' := h.mono (fun o f z => by
  unfold SP
  have z' : (o == 8 || (o == ro && f == 9)) = true := z
  rw [Bool.or_eq_true] at z' ⊢
  rcases z' with z | z
  · exact Or.inr z
  · simp only [Bool.and_eq_true, beq_iff_eq] at z
    rw [z.1, z.2]; exact Or.inl SQ_r)
theorem NRs.keep {σ σ' : Mem} {t : Nat} {P P' : Pt} (h : NRs σ t P) (hs : ∀ r c, σ' t 10 r c = σ t 10 r c) (k : KQ P P') : NRs σ' t P' := fun f h0 h1 c hc => by
  have e0 := k.2 2 0 (by decide) (by decide) (by decide) (by decide)
  rw [e0] at h1
  rw [soP_ext (fun i => k.2 3 i (by decide) (by decide) (by decide) (by decide)) (fun i => k.2 4 i (by decide) (by decide) (by decide) (by decide)), e0] at hc ⊢
  rw [hs]; exact h f h0 h1 c hc
theorem WRs.keep {σ σ' : Mem} {t : Nat} {P P' : Pt} (h : WRs σ t P) (hs : ∀ r c, σ' t 14 r c = σ t 14 r c) (k : KQ P P') : WRs σ' t P' := fun a b ha hb => by
  rw [hs, h a b ha hb, k.2 2 3 (by decide) (by decide) (by decide) (by decide), cob_ext (P := P) (P' := P') (fun i => k.2 23 i (by decide) (by decide) (by decide) (by decide)) (fun i => k.2 24 i (by decide) (by decide) (by decide) (by decide))]
theorem RuC.sp {G : Gl} {w : Wd} {k ro t : Nat} {U : RU} {σ σ' : Mem} (h : RuC G w k ro U σ) (ht : t = 1 ∨ t = 2) (hr : 13 ≤ ro ∧ ro ≤ 20) (hs : same (SP t ro) σ σ') : RuC G w k ro U σ' := h.keep (fun f hf r c => hs ro f (by
  unfold SP SQ
  rw [show (ro == t) = false by simp; omega, show (ro == 8) = false by simp; omega, show (f == 9) = false by simp; omega]
  simp) r c)
section PS2
variable {G : Gl} {w : Wd} {k : Nat} {σ : Mem} {Q : Option AV → Mem → Prop} {P : Pt} {g : Prop} {t ro : Nat} {U : RU} {kd : Int}
set_option maxRecDepth 100000 in
set_option maxHeartbeats 1000000 in
theorem kc_pa (W : WF P) (ht : t = 1 ∨ t = 2) (hr : 13 ≤ ro ∧ ro ≤ 20) (hk : 16 ≤ k) (hn6 : P 2 6 ≤ 99999)
    (q : ∀ (σ' : Mem) (l5 l6 l7 : Option AV), RT g σ' t (iter (fun h P => spP U P h) (P 2 0).toNat P) → same (SP t ro) σ σ' → TT G w w w k (0, 0) 6 39 [some (vr 8 0 0), some (vr t 0 0), some (vr ro 0 0), some (vi kd), some (vi 0), l5, l6, l7] [] σ' Q) :
    ∀ (m : Nat) (i : Int) (σ' : Mem) (l5 l6 l7 : Option AV), 0 ≤ i → i ≤ P 2 0 → P 2 0 < i + m → RuC G w 6 ro U σ' → RT g σ' t (iter (fun h P => spP U P h) i.toNat P) → same (SP t ro) σ σ' → TT G w w w k (0, 0) 6 13 [some (vr 8 0 0), some (vr t 0 0), some (vr ro 0 0), some (vi kd), some (vi i), l5, l6, l7] [] σ' Q
  | 0, i, σ', l5, l6, l7, h0, h1, h2, _, _, _ => by omega
  | m + 1, i, σ', l5, l6, l7, h0, h1, h2, hU, R, hs => by
    have ih := kc_pa W ht hr hk hn6 q m (i + 1)
    rw [iter_toNat _ h0] at ih
    obtain ⟨hc, h22, n8, n8', n21, n21'⟩ := t_facts ht
    obtain ⟨rc, r22, m8, m8', m1, m2⟩ := r_facts hr
    have w1 := W.sc.1
    have kk : K8 P (iter (fun h P => spP U P h) i.toNat P) := iter_inv (I := fun _ P' => K8 P P') (K8.refl W) (fun j b hj hb => spP_k hb (by omega))
    have e1 := R.houses.trans (kk.2 2 0 (by decide))
    have e6 := kk.2 2 6 (by decide)
    refine TT_vb ok6 (sm3_ok G w) 60 [13, 39] ?_
    simp -implicitDefEqProofs only [↓b6_0, ↓b6_5, ↓b6_10, ↓b6_13, ↓b6_22, ↓b6_30, ↓b6_36, ↓b6_39, ↓b6_48, ↓b6_55, ↓b6_64, ↓b6_70, ↓b6_78, ↓b6_85, ↓b6_103, ↓b6_106, ↓b6_115, b6_0, b6_5, b6_10, b6_13, b6_22, b6_30, b6_36, b6_39, b6_48, b6_55, b6_64, b6_70, b6_78, b6_85, b6_103, b6_106, b6_115, nLE0, layE1, layE4, layE3, hc, h22, rc, r22, e1, n3_7, n3_8, n3_9, n3_11, n3_12, I32, ↓xb, xb, ps, lpad, lat, aok2, rd2, aaok, aav, alok, alen, aok, akk, csum, isLg, cmpI, clsE, Option.elim, eq_self, List.mem_cons, List.not_mem_nil, or_false, false_or, List.append_nil, List.nil_append, List.cons_append, List.append_eq, List.replicate, List.length_cons, List.length_nil, List.map_cons, List.map_nil, ↓reduceIte, reduceCtorEq, if_true, if_false, true_and, and_true, false_and, and_false, and_self, not_true_eq_false, not_false_eq_true, forall_const, true_implies, false_implies, implies_true, Nat.reduceAdd, Nat.reduceSub, Nat.reduceLT, Nat.reduceLeDiff, Nat.reduceEqDiff, Nat.reduceMul, Nat.reducePow, Nat.add_one_ne_zero, Nat.add_one_sub_one, Nat.add_zero, Nat.zero_add, Int.reduceLT, Int.reduceLE, Int.reduceNeg, Int.reduceAdd, Int.reduceSub, Int.reduceToNat, Int.reduceEq, Int.reduceMul, Int.reducePow, Int.cast_ofNat_Int, Int.toNat_natCast, ne_eq, Bool.false_eq_true, true_or, or_true, or_self, Nat.not_lt_zero, ite_e0, ite_e1, lc_lt, lc_ge, lc_gt, lc_le, lc_eq, Classical.not_not]
    with_reducible repeat' (first | (refine And.intro ?_ ?_) | intro _)
    all_goals try omega
    · have ei : i = P 2 0 := by omega
      rw [ei] at R
      exact q σ' _ _ _ R hs
    · refine kc_spoil (U := U) (ro := ro) R kk.1 ht hr hU (by omega) (by omega) (h := i) (by omega) (fun σ2 R2 hs2 => ?_)
      simp -implicitDefEqProofs only [↓b6_0, ↓b6_5, ↓b6_10, ↓b6_13, ↓b6_22, ↓b6_30, ↓b6_36, ↓b6_39, ↓b6_48, ↓b6_55, ↓b6_64, ↓b6_70, ↓b6_78, ↓b6_85, ↓b6_103, ↓b6_106, ↓b6_115, b6_0, b6_5, b6_10, b6_13, b6_22, b6_30, b6_36, b6_39, b6_48, b6_55, b6_64, b6_70, b6_78, b6_85, b6_103, b6_106, b6_115, nLE0, layE1, layE4, layE3, hc, h22, rc, r22, n3_7, n3_8, n3_9, n3_11, n3_12, I32, ↓xb, xb, ps, lpad, lat, aok2, rd2, aaok, aav, alok, alen, aok, akk, csum, isLg, cmpI, clsE, Option.elim, eq_self, List.mem_cons, List.not_mem_nil, or_false, false_or, List.append_nil, List.nil_append, List.cons_append, List.append_eq, List.replicate, List.length_cons, List.length_nil, List.map_cons, List.map_nil, ↓reduceIte, reduceCtorEq, if_true, if_false, true_and, and_true, false_and, and_false, and_self, not_true_eq_false, not_false_eq_true, forall_const, true_implies, false_implies, implies_true, Nat.reduceAdd, Nat.reduceSub, Nat.reduceLT, Nat.reduceLeDiff, Nat.reduceEqDiff, Nat.reduceMul, Nat.reducePow, Nat.add_one_ne_zero, Nat.add_one_sub_one, Nat.add_zero, Nat.zero_add, Int.reduceLT, Int.reduceLE, Int.reduceNeg, Int.reduceAdd, Int.reduceSub, Int.reduceToNat, Int.reduceEq, Int.reduceMul, Int.reducePow, Int.cast_ofNat_Int, Int.toNat_natCast, ne_eq, Bool.false_eq_true, true_or, or_true, or_self, Nat.not_lt_zero, ite_e0, ite_e1, lc_lt, lc_ge, lc_gt, lc_le, lc_eq, Classical.not_not]
      with_reducible repeat' (first | (refine And.intro ?_ ?_) | intro _)
      all_goals try omega
      refine ih _ _ _ _ (by omega) (by omega) (by omega) (hU.sq ht hr hs2) ?_ (hs.trans (same_sp hs2))
      show RT g σ2 t (spP U _ ((i.toNat : Nat) : Int))
      rw [show ((i.toNat : Nat) : Int) = i by omega]
      exact R2
set_option maxRecDepth 100000 in
set_option maxHeartbeats 1000000 in
theorem kc_pb (W : WF P) (ht : t = 1 ∨ t = 2) (hk : 8 ≤ k)
    (q : ∀ (σ' : Mem) (l4 l5 l6 l7 : Option AV), RT g σ' t (iter caP (P 2 3).toNat P) → same (SP t ro) σ σ' → TT G w w w k (0, 0) 6 64 [some (vr 8 0 0), some (vr t 0 0), some (vr ro 0 0), some (vi kd), l4, l5, l6, l7] [] σ' Q) :
    ∀ (m : Nat) (i : Int) (σ' : Mem) (l5 l6 l7 : Option AV), 0 ≤ i → i ≤ P 2 3 → P 2 3 < i + m → RT g σ' t (iter caP i.toNat P) → same (SP t ro) σ σ' → TT G w w w k (0, 0) 6 39 [some (vr 8 0 0), some (vr t 0 0), some (vr ro 0 0), some (vi kd), some (vi i), l5, l6, l7] [] σ' Q
  | 0, i, σ', l5, l6, l7, h0, h1, h2, _, _ => by omega
  | m + 1, i, σ', l5, l6, l7, h0, h1, h2, R, hs => by
    have ih := kc_pb W ht hk q m (i + 1)
    rw [iter_toNat _ h0] at ih
    obtain ⟨hc, h22, n8, n8', n21, n21'⟩ := t_facts ht
    have w1 := W.sc.2.2.2.1
    have kk : KQ P (iter caP i.toNat P) := iter_inv (I := fun _ P' => KQ P P') (KQ.refl W) (fun j b hj hb => ca_k hb (by omega))
    have e1 := R.cables.trans (kk.2 2 3 (by decide) (by decide) (by decide) (by decide))
    refine TT_vb ok6 (sm3_ok G w) 60 [39, 64] ?_
    simp -implicitDefEqProofs only [↓b6_0, ↓b6_5, ↓b6_10, ↓b6_13, ↓b6_22, ↓b6_30, ↓b6_36, ↓b6_39, ↓b6_48, ↓b6_55, ↓b6_64, ↓b6_70, ↓b6_78, ↓b6_85, ↓b6_103, ↓b6_106, ↓b6_115, b6_0, b6_5, b6_10, b6_13, b6_22, b6_30, b6_36, b6_39, b6_48, b6_55, b6_64, b6_70, b6_78, b6_85, b6_103, b6_106, b6_115, nLE0, layE1, layE4, layE3, hc, h22, e1, n3_7, n3_8, n3_9, n3_11, n3_12, I32, ↓xb, xb, ps, lpad, lat, aok2, rd2, aaok, aav, alok, alen, aok, akk, csum, isLg, cmpI, clsE, Option.elim, eq_self, List.mem_cons, List.not_mem_nil, or_false, false_or, List.append_nil, List.nil_append, List.cons_append, List.append_eq, List.replicate, List.length_cons, List.length_nil, List.map_cons, List.map_nil, ↓reduceIte, reduceCtorEq, if_true, if_false, true_and, and_true, false_and, and_false, and_self, not_true_eq_false, not_false_eq_true, forall_const, true_implies, false_implies, implies_true, Nat.reduceAdd, Nat.reduceSub, Nat.reduceLT, Nat.reduceLeDiff, Nat.reduceEqDiff, Nat.reduceMul, Nat.reducePow, Nat.add_one_ne_zero, Nat.add_one_sub_one, Nat.add_zero, Nat.zero_add, Int.reduceLT, Int.reduceLE, Int.reduceNeg, Int.reduceAdd, Int.reduceSub, Int.reduceToNat, Int.reduceEq, Int.reduceMul, Int.reducePow, Int.cast_ofNat_Int, Int.toNat_natCast, ne_eq, Bool.false_eq_true, true_or, or_true, or_self, Nat.not_lt_zero, ite_e0, ite_e1, lc_lt, lc_ge, lc_gt, lc_le, lc_eq, Classical.not_not]
    with_reducible repeat' (first | (refine And.intro ?_ ?_) | intro _)
    all_goals try omega
    · have ei : i = P 2 3 := by omega
      rw [ei] at R
      exact q σ' _ _ _ _ R hs
    · refine ih _ _ _ _ (by omega) (by omega) (by omega) (R.u_cable1 (by omega)) (hs.put (by unfold SP; rw [SQ_t (by omega)]; rfl))
set_option maxRecDepth 100000 in
set_option maxHeartbeats 1000000 in
theorem kc_pc (W : WF P) (N : N38 P) (ht : t = 1 ∨ t = 2) (hr : 13 ≤ ro ∧ ro ≤ 20) (hk : 20 ≤ k) (hn6 : P 2 6 ≤ 99998) (hkd : 0 ≤ kd ∧ kd ≤ 2) (hU2 : 0 ≤ U.2) {li : Nat → Int} {d : Int} (hd : 0 ≤ d ∧ d ≤ 40) (hli : ∀ c, c < d.toNat → 0 ≤ li c ∧ li c < P 2 1)
    (q : ∀ σ', RT (¬ kd = 2) σ' t (pu (iter (svS U kd li (fun n => nrP P (P 9 n))) d.toNat (P, 0)).1 2 6 (P 2 6 + 1)) → same (SP t ro) σ σ' → Q (some (vl (iter (svS U kd li (fun n => nrP P (P 9 n))) d.toNat (P, 0)).2)) σ') :
    ∀ (m : Nat) (i : Int) (σ' : Mem), 0 ≤ i → i ≤ d → d < i + m → RuC G w 6 ro U σ' → RT (¬ kd = 2) σ' t (iter (svS U kd li (fun n => nrP P (P 9 n))) i.toNat (P, 0)).1 → WRs σ' t P → NRs σ' t P → (∀ c, c < d.toNat → σ' 8 3 0 c = li c) → same (SP t ro) σ σ' → TT G w w w k (0, 0) 6 78 [some (vr 8 0 0), some (vr t 0 0), some (vr ro 0 0), some (vi kd), some (vi d), some (vl (iter (svS U kd li (fun n => nrP P (P 9 n))) i.toNat (P, 0)).2), none, some (vi i)] [] σ' Q
  | 0, i, σ', h0, h1, h2, _, _, _, _, _, _ => by omega
  | m + 1, i, σ', h0, h1, h2, hU, R, Wr, Nr, hl, hs => by
    have ih := kc_pc W N ht hr hk hn6 hkd hU2 hd hli q m (i + 1)
    rw [iter_toNat _ h0] at ih
    obtain ⟨hc, h22, n8, n8', n21, n21'⟩ := t_facts ht
    obtain ⟨rc, r22, m8, m8', m1, m2⟩ := r_facts hr
    have w1 := W.sc.1; have w2 := W.sc.2.1
    have w6 := W.sc.2.2.2.2.2.2.1
    have hnr : ∀ n : Nat, (n : Int) < P 2 1 → ∀ j : Nat, (j : Int) < P 2 0 - 1 → 0 ≤ nrP P (P 9 n) j ∧ nrP P (P 9 n) j < P 2 0 ∧ nrP P (P 9 n) j ≠ P 9 n := fun n hn j hj => nr_r W (W.nd hn).1 hj
    have kk : KQ P (iter (svS U kd li (fun n => nrP P (P 9 n))) i.toNat (P, 0)).1 ∧ N38 (iter (svS U kd li (fun n => nrP P (P 9 n))) i.toNat (P, 0)).1 ∧ (iter (svS U kd li (fun n => nrP P (P 9 n))) i.toNat (P, 0)).1 2 6 = P 2 6 := iter_inv (st := svS U kd li (fun n => nrP P (P 9 n))) (I := fun _ s => KQ P s.1 ∧ N38 s.1 ∧ s.1 2 6 = P 2 6) ⟨KQ.refl W, N, rfl⟩ (fun j b hj hb => by
      have hj' := hli j (by omega)
      have z := sv_k (kd := kd) hb.1 hb.2.1 hU2 (n := (li j).toNat) (by omega) (hnr (li j).toNat (by omega))
      exact ⟨z.1, z.2, z.1.2 2 6 (by decide) (by decide) (by decide) (by decide)⟩)
    obtain ⟨kq, Nq, e26⟩ := kk
    have e7 := R.now.trans e26
    by_cases hi : i < d
    · have li1 := hli i.toNat (by omega)
      have l1 := hl i.toNat (by omega)
      have f1 := kq.2 2 1 (by decide) (by decide) (by decide) (by decide)
      have f9 := kq.2 9 (li i.toNat).toNat (by decide) (by decide) (by decide) (by decide)
      refine TT_vb ok6 (sm3_ok G w) 60 [78] ?_
      simp -implicitDefEqProofs only [↓b6_0, ↓b6_5, ↓b6_10, ↓b6_13, ↓b6_22, ↓b6_30, ↓b6_36, ↓b6_39, ↓b6_48, ↓b6_55, ↓b6_64, ↓b6_70, ↓b6_78, ↓b6_85, ↓b6_103, ↓b6_106, ↓b6_115, b6_0, b6_5, b6_10, b6_13, b6_22, b6_30, b6_36, b6_39, b6_48, b6_55, b6_64, b6_70, b6_78, b6_85, b6_103, b6_106, b6_115, nLE0, layE1, layE4, layE3, hc, h22, rc, r22, l1, n3_7, n3_8, n3_9, n3_11, n3_12, I32, ↓xb, xb, ps, lpad, lat, aok2, rd2, aaok, aav, alok, alen, aok, akk, csum, isLg, cmpI, clsE, Option.elim, eq_self, List.mem_cons, List.not_mem_nil, or_false, false_or, List.append_nil, List.nil_append, List.cons_append, List.append_eq, List.replicate, List.length_cons, List.length_nil, List.map_cons, List.map_nil, ↓reduceIte, reduceCtorEq, if_true, if_false, true_and, and_true, false_and, and_false, and_self, not_true_eq_false, not_false_eq_true, forall_const, true_implies, false_implies, implies_true, Nat.reduceAdd, Nat.reduceSub, Nat.reduceLT, Nat.reduceLeDiff, Nat.reduceEqDiff, Nat.reduceMul, Nat.reducePow, Nat.add_one_ne_zero, Nat.add_one_sub_one, Nat.add_zero, Nat.zero_add, Int.reduceLT, Int.reduceLE, Int.reduceNeg, Int.reduceAdd, Int.reduceSub, Int.reduceToNat, Int.reduceEq, Int.reduceMul, Int.reducePow, Int.cast_ofNat_Int, Int.toNat_natCast, ne_eq, Bool.false_eq_true, true_or, or_true, or_self, Nat.not_lt_zero, ite_e0, ite_e1, lc_lt, lc_ge, lc_gt, lc_le, lc_eq, Classical.not_not]
      with_reducible repeat' (first | (refine And.intro ?_ ?_) | intro _)
      all_goals try omega
      refine kc_serve R kq.1 Nq (Wr.keep (fun _ _ => rfl) kq) (Nr.keep (fun _ _ => rfl) kq) ht hr hU (by omega) (by omega) hkd (n := (li i.toNat).toNat) (by omega) (fun σ2 R2 hs2 => ?_)
      rw [nrP_ext kq, f9] at R2
      have e2 : svH U kd (nrP (iter (svS U kd li (fun n => nrP P (P 9 n))) i.toNat (P, 0)).1 ((iter (svS U kd li (fun n => nrP P (P 9 n))) i.toNat (P, 0)).1 9 (li i.toNat).toNat)) (li i.toNat).toNat (iter (svS U kd li (fun n => nrP P (P 9 n))) i.toNat (P, 0)).1 = svH U kd (nrP P (P 9 (li i.toNat).toNat)) (li i.toNat).toNat (iter (svS U kd li (fun n => nrP P (P 9 n))) i.toNat (P, 0)).1 := by rw [nrP_ext kq, f9]
      rw [e2]
      simp -implicitDefEqProofs only [↓b6_0, ↓b6_5, ↓b6_10, ↓b6_13, ↓b6_22, ↓b6_30, ↓b6_36, ↓b6_39, ↓b6_48, ↓b6_55, ↓b6_64, ↓b6_70, ↓b6_78, ↓b6_85, ↓b6_103, ↓b6_106, ↓b6_115, b6_0, b6_5, b6_10, b6_13, b6_22, b6_30, b6_36, b6_39, b6_48, b6_55, b6_64, b6_70, b6_78, b6_85, b6_103, b6_106, b6_115, nLE0, layE1, layE4, layE3, hc, h22, rc, r22, n3_7, n3_8, n3_9, n3_11, n3_12, I32, ↓xb, xb, ps, lpad, lat, aok2, rd2, aaok, aav, alok, alen, aok, akk, csum, isLg, cmpI, clsE, Option.elim, eq_self, List.mem_cons, List.not_mem_nil, or_false, false_or, List.append_nil, List.nil_append, List.cons_append, List.append_eq, List.replicate, List.length_cons, List.length_nil, List.map_cons, List.map_nil, ↓reduceIte, reduceCtorEq, if_true, if_false, true_and, and_true, false_and, and_false, and_self, not_true_eq_false, not_false_eq_true, forall_const, true_implies, false_implies, implies_true, Nat.reduceAdd, Nat.reduceSub, Nat.reduceLT, Nat.reduceLeDiff, Nat.reduceEqDiff, Nat.reduceMul, Nat.reducePow, Nat.add_one_ne_zero, Nat.add_one_sub_one, Nat.add_zero, Nat.zero_add, Int.reduceLT, Int.reduceLE, Int.reduceNeg, Int.reduceAdd, Int.reduceSub, Int.reduceToNat, Int.reduceEq, Int.reduceMul, Int.reducePow, Int.cast_ofNat_Int, Int.toNat_natCast, ne_eq, Bool.false_eq_true, true_or, or_true, or_self, Nat.not_lt_zero, ite_e0, ite_e1, lc_lt, lc_ge, lc_gt, lc_le, lc_eq, Classical.not_not]
      with_reducible repeat' (first | (refine And.intro ?_ ?_) | intro _)
      all_goals try omega
      refine ih σ2 (by omega) (by omega) (by omega) (hU.sq ht hr hs2) R2 (Wr.keep (fun r c => hs2 t 14 (by unfold SQ; simp [n8]) r c) (KQ.refl W)) (Nr.keep (fun r c => hs2 t 10 (by unfold SQ; simp [n8]) r c) (KQ.refl W)) (fun c hc2 => ?_) (hs.trans (same_sp hs2))
      rw [hs2 8 3 (by unfold SQ; simp [n8', m8']) 0 c]
      exact hl c hc2
    · have ei : i = d := by omega
      rw [ei] at R ⊢
      refine TT_vb ok6 (sm3_ok G w) 60 [78] ?_
      simp -implicitDefEqProofs only [↓b6_0, ↓b6_5, ↓b6_10, ↓b6_13, ↓b6_22, ↓b6_30, ↓b6_36, ↓b6_39, ↓b6_48, ↓b6_55, ↓b6_64, ↓b6_70, ↓b6_78, ↓b6_85, ↓b6_103, ↓b6_106, ↓b6_115, b6_0, b6_5, b6_10, b6_13, b6_22, b6_30, b6_36, b6_39, b6_48, b6_55, b6_64, b6_70, b6_78, b6_85, b6_103, b6_106, b6_115, nLE0, layE1, layE4, layE3, hc, h22, rc, r22, e7, n3_7, n3_8, n3_9, n3_11, n3_12, I32, ↓xb, xb, ps, lpad, lat, aok2, rd2, aaok, aav, alok, alen, aok, akk, csum, isLg, cmpI, clsE, Option.elim, eq_self, List.mem_cons, List.not_mem_nil, or_false, false_or, List.append_nil, List.nil_append, List.cons_append, List.append_eq, List.replicate, List.length_cons, List.length_nil, List.map_cons, List.map_nil, ↓reduceIte, reduceCtorEq, if_true, if_false, true_and, and_true, false_and, and_false, and_self, not_true_eq_false, not_false_eq_true, forall_const, true_implies, false_implies, implies_true, Nat.reduceAdd, Nat.reduceSub, Nat.reduceLT, Nat.reduceLeDiff, Nat.reduceEqDiff, Nat.reduceMul, Nat.reducePow, Nat.add_one_ne_zero, Nat.add_one_sub_one, Nat.add_zero, Nat.zero_add, Int.reduceLT, Int.reduceLE, Int.reduceNeg, Int.reduceAdd, Int.reduceSub, Int.reduceToNat, Int.reduceEq, Int.reduceMul, Int.reducePow, Int.cast_ofNat_Int, Int.toNat_natCast, ne_eq, Bool.false_eq_true, true_or, or_true, or_self, Nat.not_lt_zero, ite_e0, ite_e1, lc_lt, lc_ge, lc_gt, lc_le, lc_eq, Classical.not_not]
      with_reducible repeat' (first | (refine And.intro ?_ ?_) | intro _)
      all_goals try omega
      exact q _ R.u_now (hs.put (by unfold SP; rw [SQ_t (by omega)]; rfl))
set_option maxRecDepth 100000 in
set_option maxHeartbeats 1000000 in
theorem kc_pass (R : RT (¬ kd = 2) σ t P) (W : WF P) (N : N38 P) (Wr : WRs σ t P) (Nr : NRs σ t P) (ht : t = 1 ∨ t = 2) (hr : 13 ≤ ro ∧ ro ≤ 20) (hU : RuC G w 6 ro U σ) (hk : 22 ≤ k) (hn6 : P 2 6 ≤ 99998) (hkd : 0 ≤ kd ∧ kd ≤ 2)
    (q : ∀ σ', RT (¬ kd = 2) σ' t (quP U kd P) → same (SP t ro) σ σ' → Q (some (vl (quH U kd P))) σ') : CC G w w k (0, 0) 6 [vr 8 0 0, vr t 0 0, vr ro 0 0, vi kd] σ Q := by
  obtain ⟨hc, h22, n8, n8', n21, n21'⟩ := t_facts ht
  obtain ⟨rc, r22, m8, m8', m1, m2⟩ := r_facts hr
  have w1 := W.sc.1; have w2 := W.sc.2.1; have w3 := W.sc.2.2.1; have w4 := W.sc.2.2.2.1
  have k1 : K8 P (iter cuP (P 2 0).toNat P) := iter_inv (I := fun _ P' => K8 P P') (K8.refl W) (fun i b hi hb => cuP_k hb (by omega))
  have k2 : K8 P (iter mkP (P 2 2).toNat (iter cuP (P 2 0).toNat P)) := iter_inv (I := fun _ P' => K8 P P') k1 (fun i b hi hb => mkP_k hb (by omega))
  have k3 := q3_k (U := U) W
  have k4 := q4_k (U := U) W
  have g12 := k1.2 2 2 (by decide)
  have g20 := k2.2 2 0 (by decide)
  have g26 := k2.2 2 6 (by decide)
  have g33 := k3.2 2 3 (by decide)
  have f0 := k4.2 2 0 (by decide) (by decide) (by decide) (by decide)
  have f1 := k4.2 2 1 (by decide) (by decide) (by decide) (by decide)
  have f6 := k4.2 2 6 (by decide) (by decide) (by decide) (by decide)
  refine CC_vb ok6 (by decide) (sm3_ok G w) 60 [13] (Nat.le_of_ble_eq_true rfl) ?_
  simp -implicitDefEqProofs only [↓b6_0, ↓b6_5, ↓b6_10, ↓b6_13, ↓b6_22, ↓b6_30, ↓b6_36, ↓b6_39, ↓b6_48, ↓b6_55, ↓b6_64, ↓b6_70, ↓b6_78, ↓b6_85, ↓b6_103, ↓b6_106, ↓b6_115, b6_0, b6_5, b6_10, b6_13, b6_22, b6_30, b6_36, b6_39, b6_48, b6_55, b6_64, b6_70, b6_78, b6_85, b6_103, b6_106, b6_115, nLE0, layE1, layE4, layE3, hc, h22, rc, r22, n3_7, n3_8, n3_9, n3_11, n3_12, I32, ↓xb, xb, ps, lpad, lat, aok2, rd2, aaok, aav, alok, alen, aok, akk, csum, isLg, cmpI, clsE, Option.elim, eq_self, List.mem_cons, List.not_mem_nil, or_false, false_or, List.append_nil, List.nil_append, List.cons_append, List.append_eq, List.replicate, List.length_cons, List.length_nil, List.map_cons, List.map_nil, ↓reduceIte, reduceCtorEq, if_true, if_false, true_and, and_true, false_and, and_false, and_self, not_true_eq_false, not_false_eq_true, forall_const, true_implies, false_implies, implies_true, Nat.reduceAdd, Nat.reduceSub, Nat.reduceLT, Nat.reduceLeDiff, Nat.reduceEqDiff, Nat.reduceMul, Nat.reducePow, Nat.add_one_ne_zero, Nat.add_one_sub_one, Nat.add_zero, Nat.zero_add, Int.reduceLT, Int.reduceLE, Int.reduceNeg, Int.reduceAdd, Int.reduceSub, Int.reduceToNat, Int.reduceEq, Int.reduceMul, Int.reducePow, Int.cast_ofNat_Int, Int.toNat_natCast, ne_eq, Bool.false_eq_true, true_or, or_true, or_self, Nat.not_lt_zero, ite_e0, ite_e1, lc_lt, lc_ge, lc_gt, lc_le, lc_eq, Classical.not_not]
  with_reducible repeat' (first | (refine And.intro ?_ ?_) | intro _)
  all_goals try omega
  refine kc_cur (ro := ro) R W ht (by omega) (fun σ1 R1 s1 => ?_)
  simp -implicitDefEqProofs only [↓b6_0, ↓b6_5, ↓b6_10, ↓b6_13, ↓b6_22, ↓b6_30, ↓b6_36, ↓b6_39, ↓b6_48, ↓b6_55, ↓b6_64, ↓b6_70, ↓b6_78, ↓b6_85, ↓b6_103, ↓b6_106, ↓b6_115, b6_0, b6_5, b6_10, b6_13, b6_22, b6_30, b6_36, b6_39, b6_48, b6_55, b6_64, b6_70, b6_78, b6_85, b6_103, b6_106, b6_115, nLE0, layE1, layE4, layE3, hc, h22, rc, r22, n3_7, n3_8, n3_9, n3_11, n3_12, I32, ↓xb, xb, ps, lpad, lat, aok2, rd2, aaok, aav, alok, alen, aok, akk, csum, isLg, cmpI, clsE, Option.elim, eq_self, List.mem_cons, List.not_mem_nil, or_false, false_or, List.append_nil, List.nil_append, List.cons_append, List.append_eq, List.replicate, List.length_cons, List.length_nil, List.map_cons, List.map_nil, ↓reduceIte, reduceCtorEq, if_true, if_false, true_and, and_true, false_and, and_false, and_self, not_true_eq_false, not_false_eq_true, forall_const, true_implies, false_implies, implies_true, Nat.reduceAdd, Nat.reduceSub, Nat.reduceLT, Nat.reduceLeDiff, Nat.reduceEqDiff, Nat.reduceMul, Nat.reducePow, Nat.add_one_ne_zero, Nat.add_one_sub_one, Nat.add_zero, Nat.zero_add, Int.reduceLT, Int.reduceLE, Int.reduceNeg, Int.reduceAdd, Int.reduceSub, Int.reduceToNat, Int.reduceEq, Int.reduceMul, Int.reducePow, Int.cast_ofNat_Int, Int.toNat_natCast, ne_eq, Bool.false_eq_true, true_or, or_true, or_self, Nat.not_lt_zero, ite_e0, ite_e1, lc_lt, lc_ge, lc_gt, lc_le, lc_eq, Classical.not_not]
  with_reducible repeat' (first | (refine And.intro ?_ ?_) | intro _)
  all_goals try omega
  refine kc_mk (ro := ro) R1 k1.1 ht (by omega) (fun σ2 R2 s2 => ?_)
  rw [g12] at R2
  have s12 : same (SP t ro) σ σ2 := same_sp (s1.trans s2)
  simp -implicitDefEqProofs only [↓b6_0, ↓b6_5, ↓b6_10, ↓b6_13, ↓b6_22, ↓b6_30, ↓b6_36, ↓b6_39, ↓b6_48, ↓b6_55, ↓b6_64, ↓b6_70, ↓b6_78, ↓b6_85, ↓b6_103, ↓b6_106, ↓b6_115, b6_0, b6_5, b6_10, b6_13, b6_22, b6_30, b6_36, b6_39, b6_48, b6_55, b6_64, b6_70, b6_78, b6_85, b6_103, b6_106, b6_115, nLE0, layE1, layE4, layE3, hc, h22, rc, r22, n3_7, n3_8, n3_9, n3_11, n3_12, I32, ↓xb, xb, ps, lpad, lat, aok2, rd2, aaok, aav, alok, alen, aok, akk, csum, isLg, cmpI, clsE, Option.elim, eq_self, List.mem_cons, List.not_mem_nil, or_false, false_or, List.append_nil, List.nil_append, List.cons_append, List.append_eq, List.replicate, List.length_cons, List.length_nil, List.map_cons, List.map_nil, ↓reduceIte, reduceCtorEq, if_true, if_false, true_and, and_true, false_and, and_false, and_self, not_true_eq_false, not_false_eq_true, forall_const, true_implies, false_implies, implies_true, Nat.reduceAdd, Nat.reduceSub, Nat.reduceLT, Nat.reduceLeDiff, Nat.reduceEqDiff, Nat.reduceMul, Nat.reducePow, Nat.add_one_ne_zero, Nat.add_one_sub_one, Nat.add_zero, Nat.zero_add, Int.reduceLT, Int.reduceLE, Int.reduceNeg, Int.reduceAdd, Int.reduceSub, Int.reduceToNat, Int.reduceEq, Int.reduceMul, Int.reducePow, Int.cast_ofNat_Int, Int.toNat_natCast, ne_eq, Bool.false_eq_true, true_or, or_true, or_self, Nat.not_lt_zero, ite_e0, ite_e1, lc_lt, lc_ge, lc_gt, lc_le, lc_eq, Classical.not_not]
  with_reducible repeat' (first | (refine And.intro ?_ ?_) | intro _)
  all_goals try omega
  refine kc_pa (U := U) (P := iter mkP (P 2 2).toNat (iter cuP (P 2 0).toNat P)) (σ := σ) k2.1 ht hr (by omega) (by omega) (fun σ3 l5 l6 l7 R3 s3 => ?_) 13 0 σ2 _ _ _ (by omega) (by omega) (by omega) (hU.sp ht hr s12) R2 s12
  rw [g20] at R3
  refine kc_pb (P := q3P U P) (σ := σ) (g := ¬ kd = 2) k3.1 ht (by omega) (fun σ4 l4 l5 l6 l7 R4 s4 => ?_) 21 0 σ3 _ _ _ (by omega) (by omega) (by omega) R3 s3
  rw [g33] at R4
  have R4' : RT (¬ kd = 2) σ4 t (q4P U P) := R4
  refine TT_vb ok6 (sm3_ok G w) 60 [78] ?_
  simp -implicitDefEqProofs only [↓b6_0, ↓b6_5, ↓b6_10, ↓b6_13, ↓b6_22, ↓b6_30, ↓b6_36, ↓b6_39, ↓b6_48, ↓b6_55, ↓b6_64, ↓b6_70, ↓b6_78, ↓b6_85, ↓b6_103, ↓b6_106, ↓b6_115, b6_0, b6_5, b6_10, b6_13, b6_22, b6_30, b6_36, b6_39, b6_48, b6_55, b6_64, b6_70, b6_78, b6_85, b6_103, b6_106, b6_115, nLE0, layE1, layE4, layE3, hc, h22, rc, r22, n3_7, n3_8, n3_9, n3_11, n3_12, I32, ↓xb, xb, ps, lpad, lat, aok2, rd2, aaok, aav, alok, alen, aok, akk, csum, isLg, cmpI, clsE, Option.elim, eq_self, List.mem_cons, List.not_mem_nil, or_false, false_or, List.append_nil, List.nil_append, List.cons_append, List.append_eq, List.replicate, List.length_cons, List.length_nil, List.map_cons, List.map_nil, ↓reduceIte, reduceCtorEq, if_true, if_false, true_and, and_true, false_and, and_false, and_self, not_true_eq_false, not_false_eq_true, forall_const, true_implies, false_implies, implies_true, Nat.reduceAdd, Nat.reduceSub, Nat.reduceLT, Nat.reduceLeDiff, Nat.reduceEqDiff, Nat.reduceMul, Nat.reducePow, Nat.add_one_ne_zero, Nat.add_one_sub_one, Nat.add_zero, Nat.zero_add, Int.reduceLT, Int.reduceLE, Int.reduceNeg, Int.reduceAdd, Int.reduceSub, Int.reduceToNat, Int.reduceEq, Int.reduceMul, Int.reducePow, Int.cast_ofNat_Int, Int.toNat_natCast, ne_eq, Bool.false_eq_true, true_or, or_true, or_self, Nat.not_lt_zero, ite_e0, ite_e1, lc_lt, lc_ge, lc_gt, lc_le, lc_eq, Classical.not_not]
  with_reducible repeat' (first | (refine And.intro ?_ ?_) | intro _)
  all_goals try omega
  refine kc_line R4' k4.1 ht hr (hU.sp ht hr s4) (by omega) (by omega) (fun σ5 hl s5 => ?_)
  rw [f1] at hl ⊢
  have v := lnP_inv (U := U) (P := q4P U P) (P 2 1).toNat
  have tr : (t == ro) = false := by simp; omega
  have s5t : ∀ f r c, σ5 t f r c = σ4 t f r c := fun f r c => s5 t f (by show (t == 8 || (t == ro && f == 9)) = false; rw [tr]; simp [n8]) r c
  have s45 : same (SP t ro) σ σ5 := s4.trans (same_8r s5)
  simp -implicitDefEqProofs only [↓b6_0, ↓b6_5, ↓b6_10, ↓b6_13, ↓b6_22, ↓b6_30, ↓b6_36, ↓b6_39, ↓b6_48, ↓b6_55, ↓b6_64, ↓b6_70, ↓b6_78, ↓b6_85, ↓b6_103, ↓b6_106, ↓b6_115, b6_0, b6_5, b6_10, b6_13, b6_22, b6_30, b6_36, b6_39, b6_48, b6_55, b6_64, b6_70, b6_78, b6_85, b6_103, b6_106, b6_115, nLE0, layE1, layE4, layE3, hc, h22, rc, r22, n3_7, n3_8, n3_9, n3_11, n3_12, I32, ↓xb, xb, ps, lpad, lat, aok2, rd2, aaok, aav, alok, alen, aok, akk, csum, isLg, cmpI, clsE, Option.elim, eq_self, List.mem_cons, List.not_mem_nil, or_false, false_or, List.append_nil, List.nil_append, List.cons_append, List.append_eq, List.replicate, List.length_cons, List.length_nil, List.map_cons, List.map_nil, ↓reduceIte, reduceCtorEq, if_true, if_false, true_and, and_true, false_and, and_false, and_self, not_true_eq_false, not_false_eq_true, forall_const, true_implies, false_implies, implies_true, Nat.reduceAdd, Nat.reduceSub, Nat.reduceLT, Nat.reduceLeDiff, Nat.reduceEqDiff, Nat.reduceMul, Nat.reducePow, Nat.add_one_ne_zero, Nat.add_one_sub_one, Nat.add_zero, Nat.zero_add, Int.reduceLT, Int.reduceLE, Int.reduceNeg, Int.reduceAdd, Int.reduceSub, Int.reduceToNat, Int.reduceEq, Int.reduceMul, Int.reducePow, Int.cast_ofNat_Int, Int.toNat_natCast, ne_eq, Bool.false_eq_true, true_or, or_true, or_self, Nat.not_lt_zero, ite_e0, ite_e1, lc_lt, lc_ge, lc_gt, lc_le, lc_eq, Classical.not_not]
  with_reducible repeat' (first | (refine And.intro ?_ ?_) | intro _)
  all_goals try omega
  have fin := kc_pc (G := G) (w := w) (k := k) (σ := σ) (Q := Q) (P := q4P U P) (t := t) (ro := ro) (U := U) (kd := kd) k4.1 (N.same (q4_n W)) ht hr (by omega) (by omega) hkd hU.1.2.1 (li := (lnP U (q4P U P) (P 2 1).toNat).1) (d := (lnP U (q4P U P) (P 2 1).toNat).2) ⟨v.1, by omega⟩ (fun c hc => by have := v.2.2 c hc; omega)
    (fun σ' R' s' => by
      have e : (fun n => nrP (q4P U P) ((q4P U P) 9 n)) = fun n => nrP P (P 9 n) := by
        funext n
        rw [nrP_ext k4, k4.2 9 n (by decide) (by decide) (by decide) (by decide)]
      rw [e, f6] at R'
      rw [e]
      exact q σ' R' s') 41 0 σ5 (by omega) v.1 (by omega) (hU.sp ht hr s45) (R4'.keep s5 (fun f _ => by show (t == 8 || (t == ro && f == 9)) = false; rw [tr]; simp [n8])) (Wr.keep (fun r c => s45 t 14 (by unfold SP SQ; rw [tr]; simp [n8]) r c) k4) (Nr.keep (fun r c => s45 t 10 (by unfold SP SQ; rw [tr]; simp [n8]) r c) k4) hl s45
  exact fin
end PS2

/-! 28.pass: a need served, a quarter (class) -/
section PSS
variable {G : Gl} {w : Wd} {k : Nat} {σ : Mem} {Q : Option AV → Mem → Prop} {P : Pt} {g : Prop} {t ro : Nat} {U : RU} {kd : Int}
set_option maxRecDepth 100000 in
set_option maxHeartbeats 1000000 in
theorem kc_serve (R : RT (¬ kd = 2) σ t P) (W : WF P) (N : N38 P) (Wr : WRs σ t P) (Nr : NRs σ t P) (ht : t = 1 ∨ t = 2) (hr : 13 ≤ ro ∧ ro ≤ 20) (hU : RuC G w 6 ro U σ) (hk : 18 ≤ k) (hn6 : P 2 6 ≤ 99999) (hkd : 0 ≤ kd ∧ kd ≤ 2) {n : Nat} (hn : (n : Int) < P 2 1)
    (q : ∀ σ', RT (¬ kd = 2) σ' t (svP U kd (nrP P (P 9 n)) n P) → same (SQ t ro) σ σ' → Q (some (vl (svH U kd (nrP P (P 9 n)) n P))) σ') : CC G w w k (0, 0) 12 [vr 8 0 0, vr t 0 0, vr ro 0 0, vi kd, vr t 11 (n + 1)] σ Q := by
  obtain ⟨hc, h22, n8, n8', n21, n21'⟩ := t_facts ht
  obtain ⟨rc, r22, m8, m8', m1, m2⟩ := r_facts hr
  have w1 := W.sc.1; have w2 := W.sc.2.1
  obtain ⟨d1, d2, d3, d4, d5, d6, d7⟩ := W.nd (n := n) hn
  have s0 := R.need0 (n := n) (by omega); have s1 := R.need1 (n := n) (by omega); have s2 := R.need2 (n := n) (by omega); have s6 := R.need6 (n := n) (by omega)
  have st := R.storeI (h := P 9 n) (c := P 10 n) (by omega) (by omega)
  have sb := W.st (n := (6 * P 9 n + P 10 n).toNat) (by omega)
  have so : min (P 11 n) (P 8 (6 * P 9 n + P 10 n).toNat) = svO P n := rfl
  have sr : 0 ≤ svO P n ∧ svO P n ≤ P 11 n ∧ svO P n ≤ P 8 (6 * P 9 n + P 10 n).toNat := by rw [← so]; omega
  have k1 : KQ P (pu P 8 (6 * P 9 n + P 10 n).toNat (P 8 (6 * P 9 n + P 10 n).toNat - svO P n)) := (KQ.refl W).put8 (by omega)
  have R1 := R.u_storeI (h := P 9 n) (c := P 10 n) (v := P 8 (6 * P 9 n + P 10 n).toNat - svO P n) (by omega) (by omega)
  have g0 : GI (pu P 8 (6 * P 9 n + P 10 n).toNat (P 8 (6 * P 9 n + P 10 n).toNat - svO P n)) n (pu P 8 (6 * P 9 n + P 10 n).toNat (P 8 (6 * P 9 n + P 10 n).toNat - svO P n), P 11 n - svO P n) := ⟨KQ.refl k1.1, N.keep (by decide), fun _ _ _ => rfl, by show 0 ≤ P 11 n - svO P n; omega, by show P 11 n - svO P n ≤ 999; omega⟩
  have hsa : same (SQ t ro) σ (up σ t 9 ((P 9 n).toNat + 1) (P 10 n).toNat (P 8 (6 * P 9 n + P 10 n).toNat - svO P n)) := same.refl.put (SQ_t (by omega))
  have fin : ∀ (s : Pt × Int) (σ' : Mem) (a9 : Int) (l10 l11 : Option AV), svG U kd (nrP P (P 9 n)) n P = s → GI (pu P 8 (6 * P 9 n + P 10 n).toNat (P 8 (6 * P 9 n + P 10 n).toNat - svO P n)) n s → RT (¬ kd = 2) σ' t s.1 → same (SQ t ro) σ σ' → TT G w w w k (0, 0) 12 168 [some (vr 8 0 0), some (vr t 0 0), some (vr ro 0 0), some (vi kd), some (vr t 11 (n + 1)), some (vi (P 9 n)), some (vr t 9 ((P 9 n).toNat + 1)), some (vi (svO P n)), some (vi s.2), some (vi a9), l10, l11] [] σ' Q := fun s σ' a9 l10 l11 es gs Rs hs => by
    have kk := k1.trans gs.1
    have e9 := kk.2 9 n (by decide) (by decide) (by decide) (by decide)
    have e12 := kk.2 12 n (by decide) (by decide) (by decide) (by decide)
    have e21 := kk.2 2 1 (by decide) (by decide) (by decide) (by decide)
    have z := kc_sv_end (G := G) (w := w) (k := k) (Q := Q) (l0 := some (vr 8 0 0)) (l2 := some (vr ro 0 0)) (l3 := some (vi kd)) (l6 := some (vr t 9 ((P 9 n).toNat + 1))) (l7 := some (vi (svO P n))) (l10 := l10) (l11 := l11) (a9 := a9) (by omega) ht Rs gs.1.1 (n := n) (by omega) (fun e => by
      have := q _ (by
        unfold svP
        rw [es, ← e9, ← e12]
        exact e) (hs.put (SQ_t (by omega)))
      unfold svH at this
      rw [es, ← e12] at this
      exact this)
    rw [e9] at z
    exact z
  have no : ¬ 0 < P 11 n - svO P n → svG U kd (nrP P (P 9 n)) n P = (pu P 8 (6 * P 9 n + P 10 n).toNat (P 8 (6 * P 9 n + P 10 n).toNat - svO P n), P 11 n - svO P n) := fun z => by
    unfold svG
    split
    · have := sg_stay (U := U) (kd := kd) (nr := nrP P (P 9 n)) (n := n) (s := (pu P 8 (6 * P 9 n + P 10 n).toNat (P 8 (6 * P 9 n + P 10 n).toNat - svO P n), P 11 n - svO P n)) z (i := 0) (P 2 0 - 1).toNat _ rfl
      rw [Nat.zero_add] at this
      exact this
    · rfl
  have na : ¬ (kd = 2 ∨ (kd = 0 ∧ P 15 n = 1)) → svG U kd (nrP P (P 9 n)) n P = (pu P 8 (6 * P 9 n + P 10 n).toNat (P 8 (6 * P 9 n + P 10 n).toNat - svO P n), P 11 n - svO P n) := fun z => if_neg z
  have lp : ∀ (σ' : Mem), (kd = 2 ∨ (kd = 0 ∧ P 15 n = 1)) → same (SQ t ro) σ σ' → RT (¬ kd = 2) σ' t (pu P 8 (6 * P 9 n + P 10 n).toNat (P 8 (6 * P 9 n + P 10 n).toNat - svO P n)) → (wd σ' = wN (pu P 8 (6 * P 9 n + P 10 n).toNat (P 8 (6 * P 9 n + P 10 n).toNat - svO P n)) n (P 11 n)) → TT G w w w k (0, 0) 12 98 [some (vr 8 0 0), some (vr t 0 0), some (vr ro 0 0), some (vi kd), some (vr t 11 (n + 1)), some (vi (P 9 n)), some (vr t 9 ((P 9 n).toNat + 1)), some (vi (svO P n)), some (vi (P 11 n - svO P n)), some (vi 1), some (vi 0), none] [] σ' Q := fun σ' ask hs R' hw => by
    have sg : svG U kd (nrP P (P 9 n)) n P = iter (sgP U kd (nrP P (P 9 n)) n) (P 2 0 - 1).toNat (pu P 8 (6 * P 9 n + P 10 n).toNat (P 8 (6 * P 9 n + P 10 n).toNat - svO P n), P 11 n - svO P n) := if_pos ask
    have hnr : ∀ j : Nat, (j : Int) < P 2 0 - 1 → 0 ≤ nrP P (P 9 n) j ∧ nrP P (P 9 n) j < P 2 0 ∧ nrP P (P 9 n) j ≠ P 9 n := fun j hj => nr_r W (by omega) hj
    refine kc_sv_l (P := P) (P1 := pu P 8 (6 * P 9 n + P 10 n).toNat (P 8 (6 * P 9 n + P 10 n).toNat - svO P n)) (nr := nrP P (P 9 n)) (n := n) ht hr (by omega) (by omega) hn k1.1 hU.1.2.1 g0 hnr (fun σ2 l10 l11 R2 hs2 => ?_) 13 0 σ' none (by omega) (show (0 : Int) ≤ P 2 0 - 1 by omega) (show P 2 0 - 1 < (0 : Int) + (13 : Nat) by omega) (hU.sq ht hr hs) R' (fun a b ha hb => ?_) (fun j hj => ?_) (fun _ i hi h8 => ?_) hs
    · refine fin _ σ2 1 l10 l11 sg ?_ R2 hs2
      exact iter_inv (I := fun _ s => GI (pu P 8 (6 * P 9 n + P 10 n).toNat (P 8 (6 * P 9 n + P 10 n).toNat - svO P n)) n s) g0 (fun i b hi hb => sg_step (P1 := pu P 8 (6 * P 9 n + P 10 n).toNat (P 8 (6 * P 9 n + P 10 n).toNat - svO P n)) hU.1.2.1 hn (hnr i (by have hi' : i < (P 2 0 - 1).toNat := hi; omega)) hb)
    · rw [hs t 14 (by unfold SQ; simp [n8]) _ _]
      have := Wr a b ha hb
      rw [← cob_ext (P := P) (P' := pu P 8 (6 * P 9 n + P 10 n).toNat (P 8 (6 * P 9 n + P 10 n).toNat - svO P n)) (fun _ => rfl) (fun _ => rfl)] at this
      exact this
    · have hj' : (j : Int) < P 2 0 - 1 := hj
      have c := soP_cnt (P := P) d1.1 (P 2 0).toNat
      rw [if_pos (by omega)] at c
      exact (hs t 10 (by unfold SQ; simp [n8]) _ _).trans (Nr (P 9 n) d1.1 d1.2 j (by omega))
    · rw [hw]
      unfold wN
      rw [if_neg h8, if_neg h8]
  refine CC_vb ok12 (by decide) (sm3_ok G w) 60 [98, 168] (Nat.le_of_ble_eq_true rfl) ?_
  simp -implicitDefEqProofs only [↓b12_0, ↓b12_13, ↓b12_29, ↓b12_57, ↓b12_62, ↓b12_71, ↓b12_75, ↓b12_76, ↓b12_83, ↓b12_88, ↓b12_95, ↓b12_98, ↓b12_109, ↓b12_114, ↓b12_121, ↓b12_133, ↓b12_144, ↓b12_147, ↓b12_159, ↓b12_168, b12_0, b12_13, b12_29, b12_57, b12_62, b12_71, b12_75, b12_76, b12_83, b12_88, b12_95, b12_98, b12_109, b12_114, b12_121, b12_133, b12_144, b12_147, b12_159, b12_168, nLE0, layE1, layE4, layE3, hc, h22, rc, r22, s0, s1, s2, s6, st, so, up_rd, n3_16, n3_13, n3_14, I32, ↓xb, xb, ps, lpad, lat, aok2, rd2, aaok, aav, alok, alen, aok, akk, csum, isLg, cmpI, clsE, Option.elim, eq_self, List.mem_cons, List.not_mem_nil, or_false, false_or, List.append_nil, List.nil_append, List.cons_append, List.append_eq, List.replicate, List.length_cons, List.length_nil, List.map_cons, List.map_nil, ↓reduceIte, reduceCtorEq, if_true, if_false, true_and, and_true, false_and, and_false, and_self, not_true_eq_false, not_false_eq_true, forall_const, true_implies, false_implies, implies_true, Nat.reduceAdd, Nat.reduceSub, Nat.reduceLT, Nat.reduceLeDiff, Nat.reduceEqDiff, Nat.reduceMul, Nat.reducePow, Nat.add_one_ne_zero, Nat.add_one_sub_one, Nat.add_zero, Nat.zero_add, Int.reduceLT, Int.reduceLE, Int.reduceNeg, Int.reduceAdd, Int.reduceSub, Int.reduceToNat, Int.reduceEq, Int.reduceMul, Int.reducePow, Int.cast_ofNat_Int, Int.toNat_natCast, ne_eq, Bool.false_eq_true, true_or, or_true, or_self, Nat.not_lt_zero, ite_e0, ite_e1, lc_lt, lc_ge, lc_gt, lc_le, lc_eq, Classical.not_not]
  with_reducible repeat' (first | (refine And.intro ?_ ?_) | intro _)
  all_goals try omega
  · exact fin _ _ _ _ _ (na (by omega)) g0 R1 hsa
  · exact fin _ _ _ _ _ (no (by omega)) g0 R1 hsa
  · refine kc_tellN R1 k1.1 ht (by omega) hn6 hn (fun σ1 hw hs => ?_)
    simp -implicitDefEqProofs only [↓b12_0, ↓b12_13, ↓b12_29, ↓b12_57, ↓b12_62, ↓b12_71, ↓b12_75, ↓b12_76, ↓b12_83, ↓b12_88, ↓b12_95, ↓b12_98, ↓b12_109, ↓b12_114, ↓b12_121, ↓b12_133, ↓b12_144, ↓b12_147, ↓b12_159, ↓b12_168, b12_0, b12_13, b12_29, b12_57, b12_62, b12_71, b12_75, b12_76, b12_83, b12_88, b12_95, b12_98, b12_109, b12_114, b12_121, b12_133, b12_144, b12_147, b12_159, b12_168, nLE0, layE1, layE4, layE3, hc, h22, rc, r22, n3_16, n3_13, n3_14, I32, ↓xb, xb, ps, lpad, lat, aok2, rd2, aaok, aav, alok, alen, aok, akk, csum, isLg, cmpI, clsE, Option.elim, eq_self, List.mem_cons, List.not_mem_nil, or_false, false_or, List.append_nil, List.nil_append, List.cons_append, List.append_eq, List.replicate, List.length_cons, List.length_nil, List.map_cons, List.map_nil, ↓reduceIte, reduceCtorEq, if_true, if_false, true_and, and_true, false_and, and_false, and_self, not_true_eq_false, not_false_eq_true, forall_const, true_implies, false_implies, implies_true, Nat.reduceAdd, Nat.reduceSub, Nat.reduceLT, Nat.reduceLeDiff, Nat.reduceEqDiff, Nat.reduceMul, Nat.reducePow, Nat.add_one_ne_zero, Nat.add_one_sub_one, Nat.add_zero, Nat.zero_add, Int.reduceLT, Int.reduceLE, Int.reduceNeg, Int.reduceAdd, Int.reduceSub, Int.reduceToNat, Int.reduceEq, Int.reduceMul, Int.reducePow, Int.cast_ofNat_Int, Int.toNat_natCast, ne_eq, Bool.false_eq_true, true_or, or_true, or_self, Nat.not_lt_zero, ite_e0, ite_e1, lc_lt, lc_ge, lc_gt, lc_le, lc_eq, Classical.not_not]
    with_reducible repeat' (first | (refine And.intro ?_ ?_) | intro _)
    all_goals try omega
    exact lp σ1 (by omega) (hsa.trans (same_81 hs)) (R1.keep hs (fun f _ => by simp [n8])) hw
  · exact fin _ _ _ _ _ (na (by omega)) g0 R1 hsa
  · exact fin _ _ _ _ _ (no (by omega)) g0 R1 hsa
  · refine kc_tellN R1 k1.1 ht (by omega) hn6 hn (fun σ1 hw hs => ?_)
    simp -implicitDefEqProofs only [↓b12_0, ↓b12_13, ↓b12_29, ↓b12_57, ↓b12_62, ↓b12_71, ↓b12_75, ↓b12_76, ↓b12_83, ↓b12_88, ↓b12_95, ↓b12_98, ↓b12_109, ↓b12_114, ↓b12_121, ↓b12_133, ↓b12_144, ↓b12_147, ↓b12_159, ↓b12_168, b12_0, b12_13, b12_29, b12_57, b12_62, b12_71, b12_75, b12_76, b12_83, b12_88, b12_95, b12_98, b12_109, b12_114, b12_121, b12_133, b12_144, b12_147, b12_159, b12_168, nLE0, layE1, layE4, layE3, hc, h22, rc, r22, n3_16, n3_13, n3_14, I32, ↓xb, xb, ps, lpad, lat, aok2, rd2, aaok, aav, alok, alen, aok, akk, csum, isLg, cmpI, clsE, Option.elim, eq_self, List.mem_cons, List.not_mem_nil, or_false, false_or, List.append_nil, List.nil_append, List.cons_append, List.append_eq, List.replicate, List.length_cons, List.length_nil, List.map_cons, List.map_nil, ↓reduceIte, reduceCtorEq, if_true, if_false, true_and, and_true, false_and, and_false, and_self, not_true_eq_false, not_false_eq_true, forall_const, true_implies, false_implies, implies_true, Nat.reduceAdd, Nat.reduceSub, Nat.reduceLT, Nat.reduceLeDiff, Nat.reduceEqDiff, Nat.reduceMul, Nat.reducePow, Nat.add_one_ne_zero, Nat.add_one_sub_one, Nat.add_zero, Nat.zero_add, Int.reduceLT, Int.reduceLE, Int.reduceNeg, Int.reduceAdd, Int.reduceSub, Int.reduceToNat, Int.reduceEq, Int.reduceMul, Int.reducePow, Int.cast_ofNat_Int, Int.toNat_natCast, ne_eq, Bool.false_eq_true, true_or, or_true, or_self, Nat.not_lt_zero, ite_e0, ite_e1, lc_lt, lc_ge, lc_gt, lc_le, lc_eq, Classical.not_not]
    with_reducible repeat' (first | (refine And.intro ?_ ?_) | intro _)
    all_goals try omega
    exact lp σ1 (by omega) (hsa.trans (same_81 hs)) (R1.keep hs (fun f _ => by simp [n8])) hw
/-- a quarter by a rule and a kind: the state then, and the harm in it -/
def q3P (U : RU) (P : Pt) : Pt := iter (fun h P => spP U P h) (P 2 0).toNat (iter mkP (P 2 2).toNat (iter cuP (P 2 0).toNat P))
def caP (c : Nat) (P : Pt) : Pt := pu P 26 c 0
def q4P (U : RU) (P : Pt) : Pt := iter caP (P 2 3).toNat (q3P U P)
noncomputable def svS (U : RU) (kd : Int) (li : Nat → Int) (nr : Nat → Nat → Int) (i : Nat) (s : Pt × Int) : Pt × Int := (svP U kd (nr (li i).toNat) (li i).toNat s.1, w64 (s.2 + svH U kd (nr (li i).toNat) (li i).toNat s.1))
noncomputable def q5P (U : RU) (kd : Int) (P : Pt) : Pt × Int := iter (svS U kd (lnP U (q4P U P) (P 2 1).toNat).1 (fun n => nrP P (P 9 n))) (lnP U (q4P U P) (P 2 1).toNat).2.toNat (q4P U P, 0)
noncomputable def quP (U : RU) (kd : Int) (P : Pt) : Pt := pu (q5P U kd P).1 2 6 (P 2 6 + 1)
noncomputable def quH (U : RU) (kd : Int) (P : Pt) : Int := (q5P U kd P).2
theorem soP_ext {P P' : Pt} (h3 : ∀ i, P' 3 i = P 3 i) (h4 : ∀ i, P' 4 i = P 4 i) {f : Int} {n : Nat} : soP P' f n = soP P f n := by
  have e : farP P' = farP P := by
    funext a b
    unfold farP
    rw [h3, h3, h4, h4]
  unfold soP
  have e2 : soS P' f = soS P f := by
    funext i s
    unfold soS soB
    rw [e]
  rw [e2]
theorem nrP_ext {P P' : Pt} (k : KQ P P') {h : Int} : nrP P' h = nrP P h := by
  funext j
  unfold nrP
  rw [soP_ext (fun i => k.2 3 i (by decide) (by decide) (by decide) (by decide)) (fun i => k.2 4 i (by decide) (by decide) (by decide) (by decide)), k.2 2 0 (by decide) (by decide) (by decide) (by decide)]
theorem q3_k {U : RU} {P : Pt} (W : WF P) : K8 P (q3P U P) := by
  have w1 := W.sc.1; have w2 := W.sc.2.2.1
  refine iter_inv (I := fun _ P' => K8 P P') ?_ (fun i b hi hb => spP_k hb (by omega))
  refine iter_inv (I := fun _ P' => K8 P P') ?_ (fun i b hi hb => mkP_k hb (by omega))
  exact iter_inv (I := fun _ P' => K8 P P') (K8.refl W) (fun i b hi hb => cuP_k hb (by omega))
theorem ca_k {P P' : Pt} (h : KQ P P') {c : Nat} (hc : (c : Int) < P 2 3) : KQ P (caP c P') := by
  have e := h.2 2 3 (by decide) (by decide) (by decide) (by decide)
  have b := h.1.cb (n := c) (by omega)
  exact h.put26 (by omega) (by omega)
theorem q4_k {U : RU} {P : Pt} (W : WF P) : KQ P (q4P U P) :=
  iter_inv (I := fun _ P' => KQ P P') (q3_k W).kq (fun i b hi hb => ca_k hb (by have := W.sc.2.2.2.1; omega))
theorem N38.same {P P' : Pt} (N : N38 P) (h : ∀ i, P' 38 i = P 38 i) : N38 P' := fun i => by rw [h]; exact N i
theorem q4_n {U : RU} {P : Pt} (W : WF P) : ∀ i, q4P U P 38 i = P 38 i := fun j =>
  iter_inv (st := caP) (I := fun _ (P' : Pt) => P' 38 j = P 38 j) ((q3_k W).2 38 j (by decide)) (fun i b hi hb => by
    show pu b 26 i 0 38 j = P 38 j
    rw [pu_nf (by decide)]; exact hb)
theorem sv_k {U : RU} {kd : Int} {P P' : Pt} (h : KQ P P') (N : N38 P') (hU : 0 ≤ U.2) {n : Nat} (hn : (n : Int) < P 2 1) {nr : Nat → Int} (hnr : ∀ j : Nat, (j : Int) < P 2 0 - 1 → 0 ≤ nr j ∧ nr j < P 2 0 ∧ nr j ≠ P 9 n) : KQ P (svP U kd nr n P') ∧ N38 (svP U kd nr n P') := by
  have e0 := h.2 2 0 (by decide) (by decide) (by decide) (by decide)
  have e1 := h.2 2 1 (by decide) (by decide) (by decide) (by decide)
  have e9 := h.2 9 n (by decide) (by decide) (by decide) (by decide)
  obtain ⟨d1, d2, d3, d4, d5, d6, d7⟩ := h.1.nd (n := n) (by omega)
  have w1 := h.1.sc.1
  have sb := h.1.st (n := (6 * P' 9 n + P' 10 n).toNat) (by omega)
  have so : svO P' n = min (P' 11 n) (P' 8 (6 * P' 9 n + P' 10 n).toNat) := rfl
  have k1 : KQ P' (pu P' 8 (6 * P' 9 n + P' 10 n).toNat (P' 8 (6 * P' 9 n + P' 10 n).toNat - svO P' n)) := (KQ.refl h.1).put8 (by omega)
  have g0 : GI (pu P' 8 (6 * P' 9 n + P' 10 n).toNat (P' 8 (6 * P' 9 n + P' 10 n).toNat - svO P' n)) n (pu P' 8 (6 * P' 9 n + P' 10 n).toNat (P' 8 (6 * P' 9 n + P' 10 n).toNat - svO P' n), P' 11 n - svO P' n) := ⟨KQ.refl k1.1, N.keep (by decide), fun _ _ _ => rfl, by show 0 ≤ P' 11 n - svO P' n; omega, by show P' 11 n - svO P' n ≤ 999; omega⟩
  have gs : GI (pu P' 8 (6 * P' 9 n + P' 10 n).toNat (P' 8 (6 * P' 9 n + P' 10 n).toNat - svO P' n)) n (svG U kd nr n P') := by
    unfold svG
    split
    · exact iter_inv (I := fun _ s => GI (pu P' 8 (6 * P' 9 n + P' 10 n).toNat (P' 8 (6 * P' 9 n + P' 10 n).toNat - svO P' n)) n s) g0 (fun i b hi hb => sg_step (P1 := pu P' 8 (6 * P' 9 n + P' 10 n).toNat (P' 8 (6 * P' 9 n + P' 10 n).toNat - svO P' n)) hU (show (n : Int) < P' 2 1 by omega) (by
        have hi' : i < (P' 2 0 - 1).toNat := hi
        have z := hnr i (by omega)
        rw [← e0, ← e9] at z
        exact z) hb)
    · exact g0
  exact ⟨((h.trans k1).trans gs.1).put37, gs.2.1.keep (by decide)⟩
end PSS

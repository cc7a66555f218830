/-! 25.line: the class's line of needs that are due -/
theorem posA_b {b b' : Int → Bool} {a : Nat → Int} : ∀ d : Nat, (∀ c, c < d → b (a c) = b' (a c)) → posA b a d = posA b' a d
  | 0, _ => rfl
  | d + 1, h => by
    have ih := posA_b d (fun c hc => h c (by omega))
    show (if b (a d) = true then posA b a d else d + 1) = (if b' (a d) = true then posA b' a d else d + 1)
    rw [ih, h d (by omega)]
theorem insA_b {b b' : Int → Bool} {a : Nat → Int} {d : Nat} {n : Int} (h : ∀ c, c < d → b (a c) = b' (a c)) : insA b a d n = insA b' a d n := by
  funext c
  unfold insA
  rw [posA_b d h]
theorem insA_mem {b : Int → Bool} {a : Nat → Int} {d : Nat} {n : Int} {X : Int → Prop} (hn : X n) (h : ∀ c, c < d → X (a c)) : ∀ c, c < d + 1 → X (insA b a d n c) := fun c hc => by
  have l := posA_le (b := b) (a := a) d
  unfold insA shA
  split
  · exact hn
  · split
    · exact h c (by omega)
    · rw [if_pos (by omega)]; exact h (c - 1) (by omega)
def keyN (U : RU) (P : Pt) (n : Nat) : Int := U.1 16 (wN P n (P 11 n))
def lnB (U : RU) (P : Pt) (n : Nat) : Int → Bool := fun x => decide (keyN U P x.toNat < keyN U P n)
def lnS (U : RU) (P : Pt) (n : Nat) (s : (Nat → Int) × Int) : (Nat → Int) × Int := if P 13 n ≤ P 2 6 % 96 ∧ P 2 6 % 96 ≤ P 14 n then (insA (lnB U P n) s.1 s.2.toNat n, s.2 + 1) else s
def lnP (U : RU) (P : Pt) (n : Nat) : (Nat → Int) × Int := iter (lnS U P) n (fun _ => 0, 0)
theorem lnP_inv {U : RU} {P : Pt} (n : Nat) : 0 ≤ (lnP U P n).2 ∧ (lnP U P n).2 ≤ n ∧ ∀ c : Nat, c < (lnP U P n).2.toNat → 0 ≤ (lnP U P n).1 c ∧ (lnP U P n).1 c < n := by
  refine iter_inv (st := lnS U P) (I := fun n s => 0 ≤ s.2 ∧ s.2 ≤ (n : Int) ∧ ∀ c : Nat, c < s.2.toNat → 0 ≤ s.1 c ∧ s.1 c < (n : Int)) ⟨by simp, by simp, fun c hc => by simp at hc⟩ ?_
  intro i s hi ⟨h1, h2, h3⟩
  unfold lnS
  split
  · refine ⟨by show 0 ≤ s.2 + 1; omega, by show s.2 + 1 ≤ _; omega, fun c hc => ?_⟩
    have hc' : c < (s.2 + 1).toNat := hc
    exact insA_mem (X := fun x => 0 ≤ x ∧ x < ((i + 1 : Nat) : Int)) ⟨by omega, by omega⟩ (fun c hc => by have := h3 c hc; omega) c (by omega)
  · exact ⟨h1, by omega, fun c hc => by have := h3 c hc; omega⟩
section LNE
variable {G : Gl} {w : Wd} {k : Nat} {σ : Mem} {Q : Option AV → Mem → Prop} {P : Pt} {g : Prop} {t ro : Nat} {U : RU}
abbrev S83 : Nat → Nat → Bool := fun o f => o == 8 && f == 3
set_option maxRecDepth 100000 in
set_option maxHeartbeats 1000000 in
theorem kc_ln_i (hk : 8 ≤ k) {v1 v2 : AV} (hv1 : ∃ o f r, v1 = vr o f r) (hv2 : ∃ o f r, v2 = vr o f r) {n d : Int} {a : Nat → Int} (hn : 0 ≤ n ∧ n < 40) (hd : 0 ≤ d ∧ d < 40) (ha : ∀ c : Nat, c < d.toNat → 0 ≤ a c ∧ a c < 40)
    (q : ∀ (σ' : Mem) (p : Int), (∀ c, σ' 8 3 0 c = insA (fun x => decide (σ 8 2 0 x.toNat < σ 8 2 0 n.toNat)) a d.toNat n c) → same S83 σ σ' → TT G w w w k (0, 0) 11 105 [some (vr 8 0 0), some v1, some v2, some (vi (d + 1)), some (vi n), some (vi p)] [] σ' Q) :
    ∀ (m : Nat) (p : Int) (σ' : Mem), 0 ≤ p → p ≤ d → p < m → posA (fun x => decide (σ 8 2 0 x.toNat < σ 8 2 0 n.toNat)) a d.toNat = posA (fun x => decide (σ 8 2 0 x.toNat < σ 8 2 0 n.toNat)) a p.toNat → (∀ c, c ≠ p.toNat → σ' 8 3 0 c = shA a p.toNat d.toNat c) → same S83 σ σ' → TT G w w w k (0, 0) 11 41 [some (vr 8 0 0), some v1, some v2, some (vi d), some (vi n), some (vi p)] [] σ' Q
  | 0, p, σ', h0, h1, h2, _, _, _ => by omega
  | m + 1, p, σ', h0, h1, h2, hp, hr, hs => by
    have ih := kc_ln_i hk hv1 hv2 hn hd ha q m (p - 1)
    obtain ⟨x1, x2, x3, rfl⟩ := hv1
    obtain ⟨y1, y2, y3, rfl⟩ := hv2
    have fin : (posA (fun x => decide (σ 8 2 0 x.toNat < σ 8 2 0 n.toNat)) a p.toNat = p.toNat) → TT G w w w k (0, 0) 11 105 [some (vr 8 0 0), some (vr x1 x2 x3), some (vr y1 y2 y3), some (vi (d + 1)), some (vi n), some (vi p)] [] (up σ' 8 3 0 p.toNat n) Q := fun hst => by
      refine q _ _ (fun c => ?_) (hs.put rfl)
      unfold insA
      rw [hp, hst, up_rd]
      by_cases hc : c = p.toNat
      · rw [if_pos ⟨rfl, rfl, rfl, hc⟩, if_pos hc]
      · rw [if_neg (fun z => hc z.2.2.2), if_neg hc, hr c hc]
    by_cases hz : p ≤ 0
    · refine TT_vb ok11 (sm3_ok G w) 60 [41, 105] ?_
      simp -implicitDefEqProofs only [↓b11_0, ↓b11_5, ↓b11_14, ↓b11_20, ↓b11_23, ↓b11_37, ↓b11_41, ↓b11_46, ↓b11_71, ↓b11_93, ↓b11_105, ↓b11_111, b11_0, b11_5, b11_14, b11_20, b11_23, b11_37, b11_41, b11_46, b11_71, b11_93, b11_105, b11_111, nLE0, layE1, layE4, layE3, up_rd, k3_54, r54, n3_10, I32, ↓xb, xb, ps, lpad, lat, aok2, rd2, aaok, aav, alok, alen, aok, akk, csum, isLg, cmpI, clsE, Option.elim, eq_self, List.mem_cons, List.not_mem_nil, or_false, false_or, List.append_nil, List.nil_append, List.cons_append, List.append_eq, List.replicate, List.length_cons, List.length_nil, List.map_cons, List.map_nil, ↓reduceIte, reduceCtorEq, if_true, if_false, true_and, and_true, false_and, and_false, and_self, not_true_eq_false, not_false_eq_true, forall_const, true_implies, false_implies, implies_true, Nat.reduceAdd, Nat.reduceSub, Nat.reduceLT, Nat.reduceLeDiff, Nat.reduceEqDiff, Nat.reduceMul, Nat.reducePow, Nat.add_one_ne_zero, Nat.add_one_sub_one, Nat.add_zero, Nat.zero_add, Int.reduceLT, Int.reduceLE, Int.reduceNeg, Int.reduceAdd, Int.reduceSub, Int.reduceToNat, Int.reduceEq, Int.reduceMul, Int.reducePow, Int.cast_ofNat_Int, Int.toNat_natCast, ne_eq, Bool.false_eq_true, true_or, or_true, or_self, Nat.not_lt_zero, ite_e0, ite_e1, lc_lt, lc_ge, lc_gt, lc_le, lc_eq, Classical.not_not]
      with_reducible repeat' (first | (refine And.intro ?_ ?_) | intro _)
      all_goals try omega
      exact fin (by rw [show p.toNat = 0 by omega]; rfl)
    · have va := ha (p.toNat - 1) (by omega)
      have v : σ' 8 3 0 (p - 1).toNat = a (p.toNat - 1) := by
        rw [show (p - 1).toNat = p.toNat - 1 by omega, hr _ (by omega)]
        exact if_pos (by omega)
      have f1 := hs 8 2 rfl 0 (a (p.toNat - 1)).toNat
      have f2 := hs 8 2 rfl 0 n.toNat
      refine TT_vb ok11 (sm3_ok G w) 60 [41, 105] ?_
      simp -implicitDefEqProofs only [↓b11_0, ↓b11_5, ↓b11_14, ↓b11_20, ↓b11_23, ↓b11_37, ↓b11_41, ↓b11_46, ↓b11_71, ↓b11_93, ↓b11_105, ↓b11_111, b11_0, b11_5, b11_14, b11_20, b11_23, b11_37, b11_41, b11_46, b11_71, b11_93, b11_105, b11_111, nLE0, layE1, layE4, layE3, v, f1, f2, k3_54, r54, n3_10, I32, ↓xb, xb, ps, lpad, lat, aok2, rd2, aaok, aav, alok, alen, aok, akk, csum, isLg, cmpI, clsE, Option.elim, eq_self, List.mem_cons, List.not_mem_nil, or_false, false_or, List.append_nil, List.nil_append, List.cons_append, List.append_eq, List.replicate, List.length_cons, List.length_nil, List.map_cons, List.map_nil, ↓reduceIte, reduceCtorEq, if_true, if_false, true_and, and_true, false_and, and_false, and_self, not_true_eq_false, not_false_eq_true, forall_const, true_implies, false_implies, implies_true, Nat.reduceAdd, Nat.reduceSub, Nat.reduceLT, Nat.reduceLeDiff, Nat.reduceEqDiff, Nat.reduceMul, Nat.reducePow, Nat.add_one_ne_zero, Nat.add_one_sub_one, Nat.add_zero, Nat.zero_add, Int.reduceLT, Int.reduceLE, Int.reduceNeg, Int.reduceAdd, Int.reduceSub, Int.reduceToNat, Int.reduceEq, Int.reduceMul, Int.reducePow, Int.cast_ofNat_Int, Int.toNat_natCast, ne_eq, Bool.false_eq_true, true_or, or_true, or_self, Nat.not_lt_zero, ite_e0, ite_e1, lc_lt, lc_ge, lc_gt, lc_le, lc_eq, Classical.not_not]
      with_reducible repeat' (first | (refine And.intro ?_ ?_) | intro _)
      all_goals try omega
      · refine fin ?_
        rw [show p.toNat = (p.toNat - 1) + 1 by omega]
        refine posA_stop ?_
        rw [decide_eq_true_iff]
        omega
      · have hgo : posA (fun x => decide (σ 8 2 0 x.toNat < σ 8 2 0 n.toNat)) a p.toNat = posA (fun x => decide (σ 8 2 0 x.toNat < σ 8 2 0 n.toNat)) a (p - 1).toNat := by
          rw [show p.toNat = (p.toNat - 1) + 1 by omega, show (p - 1).toNat = p.toNat - 1 by omega]
          refine posA_go ?_
          rw [decide_eq_true_iff]
          omega
        rw [show p + -1 = p - 1 by omega]
        refine ih _ (by omega) (by omega) (by omega) (hp.trans hgo) (fun c hc => ?_) (hs.put rfl)
        rw [up_rd, show (p - 1).toNat = p.toNat - 1 by omega, ← sh_step (a := a) (d := d.toNat) (c := c) (by omega) (by omega) (by omega)]
        by_cases hc2 : c = p.toNat
        · rw [if_pos ⟨rfl, rfl, rfl, hc2⟩, if_pos hc2]
        · rw [if_neg (fun z => hc2 z.2.2.2), if_neg hc2, hr c hc2]
abbrev S8r (ro : Nat) : Nat → Nat → Bool := fun o f => o == 8 || (o == ro && f == 9)
set_option maxRecDepth 100000 in
set_option maxHeartbeats 1000000 in
theorem kc_line_l (R0 : RT g σ t P) (W : WF P) (ht : t = 1 ∨ t = 2) (hr : 13 ≤ ro ∧ ro ≤ 20) (hU : RuC G w 6 ro U σ) (hk : 14 ≤ k) (hn : P 2 6 ≤ 99999)
    (q : ∀ σ', (∀ c : Nat, c < (lnP U P (P 2 1).toNat).2.toNat → σ' 8 3 0 c = (lnP U P (P 2 1).toNat).1 c) → same (S8r ro) σ σ' → Q (some (vi (lnP U P (P 2 1).toNat).2)) σ') :
    ∀ (m : Nat) (i d : Int) (σ' : Mem) (l5 : Option AV), 0 ≤ i → i ≤ P 2 1 → P 2 1 < i + m → d = (lnP U P i.toNat).2 → (∀ c : Nat, c < (lnP U P i.toNat).2.toNat → σ' 8 3 0 c = (lnP U P i.toNat).1 c ∧ σ' 8 2 0 ((lnP U P i.toNat).1 c).toNat = keyN U P ((lnP U P i.toNat).1 c).toNat) → same (S8r ro) σ σ' → TT G w w w k (0, 0) 11 5 [some (vr 8 0 0), some (vr t 0 0), some (vr ro 0 0), some (vi d), some (vi i), l5] [] σ' Q
  | 0, i, d, σ', l5, h0, h1, h2, _, _, _ => by omega
  | m + 1, i, d, σ', l5, h0, h1, h2, hd, hl, hs => by
    have ih := kc_line_l R0 W ht hr hU hk hn q m (i + 1)
    obtain ⟨hc, h22, n8, n8', n21, n21'⟩ := t_facts ht
    obtain ⟨rc, r22, m8, m8', m1, m2⟩ := r_facts hr
    have wn := W.sc.2.1
    have w13 := W.sc.2.2.2.2.2.2.1
    have tr : (t == ro) = false := by simp; omega
    have R : RT g σ' t P := R0.keep hs (fun f _ => by simp [n8, tr])
    have hU' : RuC G w 6 ro U σ' := hU.keep (fun f hf r c => hs ro f (by
      show (ro == 8 || (ro == ro && f == 9)) = false
      rw [show (ro == 8) = false by simp; omega, show (f == 9) = false by simp; omega]; simp) r c)
    have e1 := R.needs
    have e7 := R.now
    obtain ⟨v1, v2, v3⟩ := lnP_inv (U := U) (P := P) i.toNat
    have es : lnP U P (i + 1).toNat = lnS U P i.toNat (lnP U P i.toNat) := iter_toNat _ h0 _
    by_cases hi : i < P 2 1
    · have s4 := R.need4 (n := i.toNat) (by omega)
      have s5 := R.need5 (n := i.toNat) (by omega)
      refine TT_vb ok11 (sm3_ok G w) 60 [5, 41] ?_
      simp -implicitDefEqProofs only [↓b11_0, ↓b11_5, ↓b11_14, ↓b11_20, ↓b11_23, ↓b11_37, ↓b11_41, ↓b11_46, ↓b11_71, ↓b11_93, ↓b11_105, ↓b11_111, b11_0, b11_5, b11_14, b11_20, b11_23, b11_37, b11_41, b11_46, b11_71, b11_93, b11_105, b11_111, nLE0, layE1, layE4, layE3, hc, h22, rc, r22, e1, e7, s4, s5, k3_54, r54, n3_10, I32, ↓xb, xb, ps, lpad, lat, aok2, rd2, aaok, aav, alok, alen, aok, akk, csum, isLg, cmpI, clsE, Option.elim, eq_self, List.mem_cons, List.not_mem_nil, or_false, false_or, List.append_nil, List.nil_append, List.cons_append, List.append_eq, List.replicate, List.length_cons, List.length_nil, List.map_cons, List.map_nil, ↓reduceIte, reduceCtorEq, if_true, if_false, true_and, and_true, false_and, and_false, and_self, not_true_eq_false, not_false_eq_true, forall_const, true_implies, false_implies, implies_true, Nat.reduceAdd, Nat.reduceSub, Nat.reduceLT, Nat.reduceLeDiff, Nat.reduceEqDiff, Nat.reduceMul, Nat.reducePow, Nat.add_one_ne_zero, Nat.add_one_sub_one, Nat.add_zero, Nat.zero_add, Int.reduceLT, Int.reduceLE, Int.reduceNeg, Int.reduceAdd, Int.reduceSub, Int.reduceToNat, Int.reduceEq, Int.reduceMul, Int.reducePow, Int.cast_ofNat_Int, Int.toNat_natCast, ne_eq, Bool.false_eq_true, true_or, or_true, or_self, Nat.not_lt_zero, ite_e0, ite_e1, lc_lt, lc_ge, lc_gt, lc_le, lc_eq, Classical.not_not]
      with_reducible repeat' (first | (refine And.intro ?_ ?_) | intro _)
      all_goals try omega
      · have e2 : lnP U P (i + 1).toNat = lnP U P i.toNat := by rw [es]; exact if_neg (by assumption)
        refine ih _ _ _ (by omega) (by omega) (by omega) (by rw [e2]; exact hd) (by rw [e2]; exact hl) hs
      · have e2 : lnP U P (i + 1).toNat = (insA (lnB U P i.toNat) (lnP U P i.toNat).1 (lnP U P i.toNat).2.toNat i, (lnP U P i.toNat).2 + 1) := by
          rw [es]
          unfold lnS
          rw [if_pos (by assumption), show ((i.toNat : Nat) : Int) = i by omega]
        refine kc_first R W ht hr hU' (by omega) hn ⟨h0, by omega⟩ (fun σ1 hs1 => ?_)
        simp -implicitDefEqProofs only [↓b11_0, ↓b11_5, ↓b11_14, ↓b11_20, ↓b11_23, ↓b11_37, ↓b11_41, ↓b11_46, ↓b11_71, ↓b11_93, ↓b11_105, ↓b11_111, b11_0, b11_5, b11_14, b11_20, b11_23, b11_37, b11_41, b11_46, b11_71, b11_93, b11_105, b11_111, nLE0, layE1, layE4, layE3, hc, h22, rc, r22, e1, k3_54, r54, n3_10, I32, ↓xb, xb, ps, lpad, lat, aok2, rd2, aaok, aav, alok, alen, aok, akk, csum, isLg, cmpI, clsE, Option.elim, eq_self, List.mem_cons, List.not_mem_nil, or_false, false_or, List.append_nil, List.nil_append, List.cons_append, List.append_eq, List.replicate, List.length_cons, List.length_nil, List.map_cons, List.map_nil, ↓reduceIte, reduceCtorEq, if_true, if_false, true_and, and_true, false_and, and_false, and_self, not_true_eq_false, not_false_eq_true, forall_const, true_implies, false_implies, implies_true, Nat.reduceAdd, Nat.reduceSub, Nat.reduceLT, Nat.reduceLeDiff, Nat.reduceEqDiff, Nat.reduceMul, Nat.reducePow, Nat.add_one_ne_zero, Nat.add_one_sub_one, Nat.add_zero, Nat.zero_add, Int.reduceLT, Int.reduceLE, Int.reduceNeg, Int.reduceAdd, Int.reduceSub, Int.reduceToNat, Int.reduceEq, Int.reduceMul, Int.reducePow, Int.cast_ofNat_Int, Int.toNat_natCast, ne_eq, Bool.false_eq_true, true_or, or_true, or_self, Nat.not_lt_zero, ite_e0, ite_e1, lc_lt, lc_ge, lc_gt, lc_le, lc_eq, Classical.not_not]
        with_reducible repeat' (first | (refine And.intro ?_ ?_) | intro _)
        all_goals try omega
        have t8 : ∀ f r c, f ≠ 1 → σ1 8 f r c = σ' 8 f r c := fun f r c hf => hs1 8 f (by
          show ((8 : Nat) == 8 && f == 1 || (8 : Nat) == ro && f == 9) = false
          rw [show (f == 1) = false by simp; exact hf, show ((8 : Nat) == ro) = false by simp; omega]; rfl) r c
        refine kc_ln_i (σ := up σ1 8 2 0 i.toNat (U.1 16 (wN P i.toNat (P 11 i.toNat)))) (by omega) ⟨_, _, _, rfl⟩ ⟨_, _, _, rfl⟩ (a := fun c => σ1 8 3 0 c) (n := i) (d := d) (by omega) (by omega) (fun c hc => ?_) (fun σ2 p r1 r3 => ?_) 41 d _ (by omega) (by omega) (by omega) rfl (fun c hc => ?_) same.refl
        · show 0 ≤ σ1 8 3 0 c ∧ σ1 8 3 0 c < 40
          rw [hd] at hc
          rw [t8 3 0 c (by decide), (hl c hc).1]
          have := v3 c hc
          omega
        · have hs2 : same (S8r ro) σ' σ2 := ((hs1.mono (fun o f z => by
            rw [Bool.or_eq_true] at z ⊢
            exact z.imp (fun y => (Bool.and_eq_true _ _ ▸ y).1) id)).put rfl).trans (r3.mono (fun o f z => by
            rw [Bool.or_eq_true]
            exact Or.inl (Bool.and_eq_true _ _ ▸ z).1))
          have fk : ∀ x : Nat, σ2 8 2 0 x = if x = i.toNat then keyN U P i.toNat else σ' 8 2 0 x := fun x => by
            rw [r3 8 2 rfl 0 x, up_rd]
            by_cases z : x = i.toNat
            · rw [if_pos ⟨rfl, rfl, rfl, z⟩, if_pos z]; rfl
            · rw [if_neg (fun y => z y.2.2.2), if_neg z, t8 2 0 x (by decide)]
          have row : ∀ c, c < d.toNat + 1 → σ2 8 3 0 c = insA (lnB U P i.toNat) (lnP U P i.toNat).1 d.toNat i c := fun c hc => by
            rw [r1 c]
            have bb : insA (fun x => decide (up σ1 8 2 0 i.toNat (U.1 16 (wN P i.toNat (P 11 i.toNat))) 8 2 0 x.toNat < up σ1 8 2 0 i.toNat (U.1 16 (wN P i.toNat (P 11 i.toNat))) 8 2 0 i.toNat)) (fun c => σ1 8 3 0 c) d.toNat i = insA (lnB U P i.toNat) (fun c => σ1 8 3 0 c) d.toNat i := insA_b (fun c hc => by
              rw [hd] at hc
              have hl1 := (hl c hc).1
              have hl2 := (hl c hc).2
              have := v3 c hc
              show decide (_ < _) = decide (_ < _)
              rw [t8 3 0 c (by decide), hl1, up_rd, up_rd, if_neg (fun y => by omega), if_pos ⟨rfl, rfl, rfl, rfl⟩, t8 2 0 _ (by decide), hl2]
              rfl)
            rw [bb]
            exact insA_agree (fun c hc => by
              rw [hd] at hc
              show σ1 8 3 0 c = _
              rw [t8 3 0 c (by decide), (hl c hc).1]) c hc
          refine TT_vb ok11 (sm3_ok G w) 60 [5] ?_
          simp -implicitDefEqProofs only [↓b11_0, ↓b11_5, ↓b11_14, ↓b11_20, ↓b11_23, ↓b11_37, ↓b11_41, ↓b11_46, ↓b11_71, ↓b11_93, ↓b11_105, ↓b11_111, b11_0, b11_5, b11_14, b11_20, b11_23, b11_37, b11_41, b11_46, b11_71, b11_93, b11_105, b11_111, nLE0, layE1, layE4, layE3, hc, h22, rc, r22, e1, k3_54, r54, n3_10, I32, ↓xb, xb, ps, lpad, lat, aok2, rd2, aaok, aav, alok, alen, aok, akk, csum, isLg, cmpI, clsE, Option.elim, eq_self, List.mem_cons, List.not_mem_nil, or_false, false_or, List.append_nil, List.nil_append, List.cons_append, List.append_eq, List.replicate, List.length_cons, List.length_nil, List.map_cons, List.map_nil, ↓reduceIte, reduceCtorEq, if_true, if_false, true_and, and_true, false_and, and_false, and_self, not_true_eq_false, not_false_eq_true, forall_const, true_implies, false_implies, implies_true, Nat.reduceAdd, Nat.reduceSub, Nat.reduceLT, Nat.reduceLeDiff, Nat.reduceEqDiff, Nat.reduceMul, Nat.reducePow, Nat.add_one_ne_zero, Nat.add_one_sub_one, Nat.add_zero, Nat.zero_add, Int.reduceLT, Int.reduceLE, Int.reduceNeg, Int.reduceAdd, Int.reduceSub, Int.reduceToNat, Int.reduceEq, Int.reduceMul, Int.reducePow, Int.cast_ofNat_Int, Int.toNat_natCast, ne_eq, Bool.false_eq_true, true_or, or_true, or_self, Nat.not_lt_zero, ite_e0, ite_e1, lc_lt, lc_ge, lc_gt, lc_le, lc_eq, Classical.not_not]
          with_reducible repeat' (first | (refine And.intro ?_ ?_) | intro _)
          all_goals try omega
          refine ih _ _ _ (by omega) (by omega) (by omega) (by rw [e2, hd]) (fun c hc => ?_) (hs.trans hs2)
          rw [e2] at hc ⊢
          have hc' : c < ((lnP U P i.toNat).2 + 1).toNat := hc
          have rr := row c (by omega)
          rw [hd] at rr
          refine ⟨rr, ?_⟩
          show σ2 8 2 0 (insA (lnB U P i.toNat) (lnP U P i.toNat).1 (lnP U P i.toNat).2.toNat i c).toNat = keyN U P (insA (lnB U P i.toNat) (lnP U P i.toNat).1 (lnP U P i.toNat).2.toNat i c).toNat
          refine insA_mem (X := fun x => σ2 8 2 0 x.toNat = keyN U P x.toNat) ?_ (fun c hc => ?_) c (by omega)
          · rw [fk, if_pos rfl]
          · have hl2 := (hl c hc).2
            have := v3 c hc
            rw [fk, if_neg (by omega)]; exact hl2
        · rw [up_rd, if_neg (fun y => absurd y.2.1 (by decide))]
          show σ1 8 3 0 c = shA (fun c => σ1 8 3 0 c) d.toNat d.toNat c
          unfold shA
          by_cases z : c < d.toNat
          · rw [if_pos z]
          · rw [if_neg z, if_neg (by omega)]
    · refine TT_vb ok11 (sm3_ok G w) 60 [5] ?_
      simp -implicitDefEqProofs only [↓b11_0, ↓b11_5, ↓b11_14, ↓b11_20, ↓b11_23, ↓b11_37, ↓b11_41, ↓b11_46, ↓b11_71, ↓b11_93, ↓b11_105, ↓b11_111, b11_0, b11_5, b11_14, b11_20, b11_23, b11_37, b11_41, b11_46, b11_71, b11_93, b11_105, b11_111, nLE0, layE1, layE4, layE3, hc, h22, e1, k3_54, r54, n3_10, I32, ↓xb, xb, ps, lpad, lat, aok2, rd2, aaok, aav, alok, alen, aok, akk, csum, isLg, cmpI, clsE, Option.elim, eq_self, List.mem_cons, List.not_mem_nil, or_false, false_or, List.append_nil, List.nil_append, List.cons_append, List.append_eq, List.replicate, List.length_cons, List.length_nil, List.map_cons, List.map_nil, ↓reduceIte, reduceCtorEq, if_true, if_false, true_and, and_true, false_and, and_false, and_self, not_true_eq_false, not_false_eq_true, forall_const, true_implies, false_implies, implies_true, Nat.reduceAdd, Nat.reduceSub, Nat.reduceLT, Nat.reduceLeDiff, Nat.reduceEqDiff, Nat.reduceMul, Nat.reducePow, Nat.add_one_ne_zero, Nat.add_one_sub_one, Nat.add_zero, Nat.zero_add, Int.reduceLT, Int.reduceLE, Int.reduceNeg, Int.reduceAdd, Int.reduceSub, Int.reduceToNat, Int.reduceEq, Int.reduceMul, Int.reducePow, Int.cast_ofNat_Int, Int.toNat_natCast, ne_eq, Bool.false_eq_true, true_or, or_true, or_self, Nat.not_lt_zero, ite_e0, ite_e1, lc_lt, lc_ge, lc_gt, lc_le, lc_eq, Classical.not_not]
      with_reducible repeat' (first | (refine And.intro ?_ ?_) | intro _)
      all_goals try omega
      have ei : i = P 2 1 := by omega
      rw [ei] at hl hd
      rw [hd]
      exact q σ' (fun c hc => (hl c hc).1) hs
set_option maxRecDepth 100000 in
set_option maxHeartbeats 1000000 in
theorem kc_line (R : RT g σ t P) (W : WF P) (ht : t = 1 ∨ t = 2) (hr : 13 ≤ ro ∧ ro ≤ 20) (hU : RuC G w 6 ro U σ) (hk : 14 ≤ k) (hn : P 2 6 ≤ 99999)
    (q : ∀ σ', (∀ c : Nat, c < (lnP U P (P 2 1).toNat).2.toNat → σ' 8 3 0 c = (lnP U P (P 2 1).toNat).1 c) → same (S8r ro) σ σ' → Q (some (vi (lnP U P (P 2 1).toNat).2)) σ') : CC G w w k (0, 0) 11 [vr 8 0 0, vr t 0 0, vr ro 0 0] σ Q := by
  have wn := W.sc.2.1
  refine CC_vb ok11 (by decide) (sm3_ok G w) 60 [5] (Nat.le_of_ble_eq_true rfl) ?_
  simp -implicitDefEqProofs only [↓b11_0, ↓b11_5, ↓b11_14, ↓b11_20, ↓b11_23, ↓b11_37, ↓b11_41, ↓b11_46, ↓b11_71, ↓b11_93, ↓b11_105, ↓b11_111, b11_0, b11_5, b11_14, b11_20, b11_23, b11_37, b11_41, b11_46, b11_71, b11_93, b11_105, b11_111, nLE0, layE1, layE4, layE3, hk, k3_54, r54, n3_10, I32, ↓xb, xb, ps, lpad, lat, aok2, rd2, aaok, aav, alok, alen, aok, akk, csum, isLg, cmpI, clsE, Option.elim, eq_self, List.mem_cons, List.not_mem_nil, or_false, false_or, List.append_nil, List.nil_append, List.cons_append, List.append_eq, List.replicate, List.length_cons, List.length_nil, List.map_cons, List.map_nil, ↓reduceIte, reduceCtorEq, if_true, if_false, true_and, and_true, false_and, and_false, and_self, not_true_eq_false, not_false_eq_true, forall_const, true_implies, false_implies, implies_true, Nat.reduceAdd, Nat.reduceSub, Nat.reduceLT, Nat.reduceLeDiff, Nat.reduceEqDiff, Nat.reduceMul, Nat.reducePow, Nat.add_one_ne_zero, Nat.add_one_sub_one, Nat.add_zero, Nat.zero_add, Int.reduceLT, Int.reduceLE, Int.reduceNeg, Int.reduceAdd, Int.reduceSub, Int.reduceToNat, Int.reduceEq, Int.reduceMul, Int.reducePow, Int.cast_ofNat_Int, Int.toNat_natCast, ne_eq, Bool.false_eq_true, true_or, or_true, or_self, Nat.not_lt_zero, ite_e0, ite_e1, lc_lt, lc_ge, lc_gt, lc_le, lc_eq, Classical.not_not]
  with_reducible repeat' (first | (refine And.intro ?_ ?_) | intro _)
  all_goals try omega
  refine kc_line_l R W ht hr hU hk hn q 41 0 0 σ none (by omega) (by omega) (by omega) rfl (fun c hc => ?_) same.refl
  exact absurd hc (show ¬ c < (0 : Int).toNat by simp)
end LNE

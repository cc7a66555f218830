/-! 32.sorts: the check's line of needs that are due -/
theorem posA_map {b b' : Int → Bool} {a F : Nat → Int} : ∀ d : Nat, (∀ c, c < d → b (a c) = b' (F c)) → posA b a d = posA b' F d
  | 0, _ => rfl
  | d + 1, h => by
    have ih := posA_map d (fun c hc => h c (by omega))
    show (if b (a d) = true then posA b a d else d + 1) = (if b' (F d) = true then posA b' F d else d + 1)
    rw [ih, h d (by omega)]
theorem shA_agree {a a' : Nat → Int} {p d : Nat} (hp : p ≤ d) (h : ∀ c, c < d → a c = a' c) : ∀ c, c < d + 1 → c ≠ p → shA a p d c = shA a' p d c := fun c hc hne => by
  unfold shA
  split
  · exact h c (by omega)
  · rw [if_pos (by omega), if_pos (by omega)]; exact h (c - 1) (by omega)
abbrev S6 : Nat → Nat → Bool := fun o f => o == 21 && (f == 61 || f == 62)
section SRT
variable {G : Gl} {w : Wd} {k : Nat} {σ : Mem} {Q : Option AV → Mem → Prop} {P : Pt} {U : RU} {r : Int}
set_option maxRecDepth 100000 in
set_option maxHeartbeats 1000000 in
theorem kx_so_i (hk : 8 ≤ k) {n d s : Int} {a F : Nat → Int} (hn : 0 ≤ n ∧ n < 40) (hd : 0 ≤ d ∧ d < 40)
    (q : ∀ (σ' : Mem) (p : Int), (∀ c, σ' 21 61 0 c = if c = posA (fun x => decide (x < s)) F d.toNat then n else shA a (posA (fun x => decide (x < s)) F d.toNat) d.toNat c) → (∀ c, σ' 21 62 0 c = if c = posA (fun x => decide (x < s)) F d.toNat then s else shA F (posA (fun x => decide (x < s)) F d.toNat) d.toNat c) → same S6 σ σ' → TT G w w w k (0, 0) 188 111 [some (vr 21 0 0), some (vi r), some (vi (d + 1)), some (vi n), some (vl s), none, some (vi p)] [] σ' Q) :
    ∀ (m : Nat) (p : Int) (σ' : Mem), 0 ≤ p → p ≤ d → p < m → posA (fun x => decide (x < s)) F d.toNat = posA (fun x => decide (x < s)) F p.toNat → (∀ c, c ≠ p.toNat → σ' 21 61 0 c = shA a p.toNat d.toNat c) → (∀ c, c ≠ p.toNat → σ' 21 62 0 c = shA F p.toNat d.toNat c) → same S6 σ σ' → TT G w w w k (0, 0) 188 33 [some (vr 21 0 0), some (vi r), some (vi d), some (vi n), some (vl s), none, some (vi p)] [] σ' Q
  | 0, p, σ', h0, h1, h2, _, _, _, _ => by omega
  | m + 1, p, σ', h0, h1, h2, hp, ha, hF, hs => by
    have ih := kx_so_i hk hn hd q m (p - 1)
    have fin : (posA (fun x => decide (x < s)) F p.toNat = p.toNat) → TT G w w w k (0, 0) 188 111 [some (vr 21 0 0), some (vi r), some (vi (d + 1)), some (vi n), some (vl s), none, some (vi p)] [] (up (up σ' 21 62 0 p.toNat s) 21 61 0 p.toNat n) Q := fun hst => by
      refine q _ _ (fun c => ?_) (fun c => ?_) ((hs.put rfl).put rfl)
      · rw [hp, hst, up_rd]
        by_cases hc : c = p.toNat
        · rw [if_pos ⟨rfl, rfl, rfl, hc⟩, if_pos hc]
        · rw [if_neg (fun z => hc z.2.2.2), if_neg hc, upp_nf (by decide), ha c hc]
      · rw [hp, hst, upp_nf (by decide), up_rd]
        by_cases hc : c = p.toNat
        · rw [if_pos ⟨rfl, rfl, rfl, hc⟩, if_pos hc]
        · rw [if_neg (fun z => hc z.2.2.2), if_neg hc, hF c hc]
    by_cases hz : p ≤ 0
    · refine TT_vb ok188 (sm3_ok G w) 60 [33, 111] ?_
      simp -implicitDefEqProofs only [↓b188_0, ↓b188_4, ↓b188_14, ↓b188_19, ↓b188_22, ↓b188_28, ↓b188_33, ↓b188_38, ↓b188_53, ↓b188_91, ↓b188_111, ↓b188_117, b188_0, b188_4, b188_14, b188_19, b188_22, b188_28, b188_33, b188_38, b188_53, b188_91, b188_111, b188_117, nLE3, layE8, up_rd, k3_184, r184, n3_185, I32, ↓xb, xb, ps, lpad, lat, aok2, rd2, aaok, aav, alok, alen, aok, akk, csum, isLg, cmpI, clsE, Option.elim, eq_self, List.mem_cons, List.not_mem_nil, or_false, false_or, List.append_nil, List.nil_append, List.cons_append, List.append_eq, List.replicate, List.length_cons, List.length_nil, List.map_cons, List.map_nil, ↓reduceIte, reduceCtorEq, if_true, if_false, true_and, and_true, false_and, and_false, and_self, not_true_eq_false, not_false_eq_true, forall_const, true_implies, false_implies, implies_true, Nat.reduceAdd, Nat.reduceSub, Nat.reduceLT, Nat.reduceLeDiff, Nat.reduceEqDiff, Nat.reduceMul, Nat.reducePow, Nat.add_one_ne_zero, Nat.add_one_sub_one, Nat.add_zero, Nat.zero_add, Int.reduceLT, Int.reduceLE, Int.reduceNeg, Int.reduceAdd, Int.reduceSub, Int.reduceToNat, Int.reduceEq, Int.reduceMul, Int.reducePow, Int.cast_ofNat_Int, Int.toNat_natCast, ne_eq, Bool.false_eq_true, true_or, or_true, or_self, Nat.not_lt_zero, ite_e0, ite_e1, lc_lt, lc_ge, lc_gt, lc_le, lc_eq, Classical.not_not]
      with_reducible repeat' (first | (refine And.intro ?_ ?_) | intro _)
      all_goals try omega
      exact fin (by rw [show p.toNat = 0 by omega]; rfl)
    · have v1 : σ' 21 61 0 (p - 1).toNat = a (p.toNat - 1) := by
        rw [show (p - 1).toNat = p.toNat - 1 by omega, ha _ (by omega)]
        exact if_pos (by omega)
      have v2 : σ' 21 62 0 (p - 1).toNat = F (p.toNat - 1) := by
        rw [show (p - 1).toNat = p.toNat - 1 by omega, hF _ (by omega)]
        exact if_pos (by omega)
      refine TT_vb ok188 (sm3_ok G w) 60 [33, 111] ?_
      simp -implicitDefEqProofs only [↓b188_0, ↓b188_4, ↓b188_14, ↓b188_19, ↓b188_22, ↓b188_28, ↓b188_33, ↓b188_38, ↓b188_53, ↓b188_91, ↓b188_111, ↓b188_117, b188_0, b188_4, b188_14, b188_19, b188_22, b188_28, b188_33, b188_38, b188_53, b188_91, b188_111, b188_117, nLE3, layE8, v1, v2, up_rd, k3_184, r184, n3_185, I32, ↓xb, xb, ps, lpad, lat, aok2, rd2, aaok, aav, alok, alen, aok, akk, csum, isLg, cmpI, clsE, Option.elim, eq_self, List.mem_cons, List.not_mem_nil, or_false, false_or, List.append_nil, List.nil_append, List.cons_append, List.append_eq, List.replicate, List.length_cons, List.length_nil, List.map_cons, List.map_nil, ↓reduceIte, reduceCtorEq, if_true, if_false, true_and, and_true, false_and, and_false, and_self, not_true_eq_false, not_false_eq_true, forall_const, true_implies, false_implies, implies_true, Nat.reduceAdd, Nat.reduceSub, Nat.reduceLT, Nat.reduceLeDiff, Nat.reduceEqDiff, Nat.reduceMul, Nat.reducePow, Nat.add_one_ne_zero, Nat.add_one_sub_one, Nat.add_zero, Nat.zero_add, Int.reduceLT, Int.reduceLE, Int.reduceNeg, Int.reduceAdd, Int.reduceSub, Int.reduceToNat, Int.reduceEq, Int.reduceMul, Int.reducePow, Int.cast_ofNat_Int, Int.toNat_natCast, ne_eq, Bool.false_eq_true, true_or, or_true, or_self, Nat.not_lt_zero, ite_e0, ite_e1, lc_lt, lc_ge, lc_gt, lc_le, lc_eq, Classical.not_not]
      with_reducible repeat' (first | (refine And.intro ?_ ?_) | intro _)
      all_goals try omega
      · refine fin ?_
        rw [show p.toNat = (p.toNat - 1) + 1 by omega]
        refine posA_stop ?_
        rw [decide_eq_true_iff]
        omega
      · have hgo : posA (fun x => decide (x < s)) F p.toNat = posA (fun x => decide (x < s)) F (p - 1).toNat := by
          rw [show p.toNat = (p.toNat - 1) + 1 by omega, show (p - 1).toNat = p.toNat - 1 by omega]
          refine posA_go ?_
          rw [decide_eq_true_iff]
          omega
        rw [show p + -1 = p - 1 by omega]
        refine ih _ (by omega) (by omega) (by omega) (hp.trans hgo) (fun c hc => ?_) (fun c hc => ?_) ((hs.put rfl).put rfl)
        · rw [up_rd, show (p - 1).toNat = p.toNat - 1 by omega, ← sh_step (a := a) (d := d.toNat) (c := c) (by omega) (by omega) (by omega)]
          by_cases hc2 : c = p.toNat
          · rw [if_pos ⟨rfl, rfl, rfl, hc2⟩, if_pos hc2]
          · rw [if_neg (fun z => hc2 z.2.2.2), if_neg hc2, upp_nf (by decide), ha c hc2]
        · rw [upp_nf (by decide), up_rd, show (p - 1).toNat = p.toNat - 1 by omega, ← sh_step (a := F) (d := d.toNat) (c := c) (by omega) (by omega) (by omega)]
          by_cases hc2 : c = p.toNat
          · rw [if_pos ⟨rfl, rfl, rfl, hc2⟩, if_pos hc2]
          · rw [if_neg (fun z => hc2 z.2.2.2), if_neg hc2, hF c hc2]
set_option maxRecDepth 100000 in
set_option maxHeartbeats 1000000 in
theorem kx_sorts_l (W : WF P) (hk : 14 ≤ k) (hn6 : P 2 6 ≤ 99999)
    (q : ∀ σ', MR σ' P → (∀ c : Nat, c < (lnP U P (P 2 1).toNat).2.toNat → σ' 21 61 0 c = (lnP U P (P 2 1).toNat).1 c) → same SX σ σ' → Q (some (vi (lnP U P (P 2 1).toNat).2)) σ') :
    ∀ (m : Nat) (i d : Int) (σ' : Mem) (l4 l6 : Option AV), 0 ≤ i → i ≤ P 2 1 → P 2 1 < i + m → RuX G w 6 r U σ' → MR σ' P → d = (lnP U P i.toNat).2 → (∀ c : Nat, c < (lnP U P i.toNat).2.toNat → σ' 21 61 0 c = (lnP U P i.toNat).1 c ∧ σ' 21 62 0 c = keyN U P ((lnP U P i.toNat).1 c).toNat) → same SX σ σ' → TT G w w w k (0, 0) 188 4 [some (vr 21 0 0), some (vi r), some (vi d), some (vi i), l4, none, l6] [] σ' Q
  | 0, i, d, σ', l4, l6, h0, h1, h2, _, _, _, _, _ => by omega
  | m + 1, i, d, σ', l4, l6, h0, h1, h2, hX, M, hd, hl, hs => by
    have ih := kx_sorts_l W hk hn6 q m (i + 1)
    have wn := W.sc.2.1
    have w13 := W.sc.2.2.2.2.2.2.1
    have hM : ∀ f i, 2 ≤ f → f ≤ 38 → σ' 21 f 0 i = P f i := M
    obtain ⟨v1, v2, v3⟩ := lnP_inv (U := U) (P := P) i.toNat
    have es : lnP U P (i + 1).toNat = lnS U P i.toNat (lnP U P i.toNat) := iter_toNat _ h0 _
    by_cases hi : i < P 2 1
    · refine TT_vb ok188 (sm3_ok G w) 60 [4, 33] ?_
      simp -implicitDefEqProofs only [↓b188_0, ↓b188_4, ↓b188_14, ↓b188_19, ↓b188_22, ↓b188_28, ↓b188_33, ↓b188_38, ↓b188_53, ↓b188_91, ↓b188_111, ↓b188_117, b188_0, b188_4, b188_14, b188_19, b188_22, b188_28, b188_33, b188_38, b188_53, b188_91, b188_111, b188_117, nLE3, layE8, hM, k3_184, r184, n3_185, I32, ↓xb, xb, ps, lpad, lat, aok2, rd2, aaok, aav, alok, alen, aok, akk, csum, isLg, cmpI, clsE, Option.elim, eq_self, List.mem_cons, List.not_mem_nil, or_false, false_or, List.append_nil, List.nil_append, List.cons_append, List.append_eq, List.replicate, List.length_cons, List.length_nil, List.map_cons, List.map_nil, ↓reduceIte, reduceCtorEq, if_true, if_false, true_and, and_true, false_and, and_false, and_self, not_true_eq_false, not_false_eq_true, forall_const, true_implies, false_implies, implies_true, Nat.reduceAdd, Nat.reduceSub, Nat.reduceLT, Nat.reduceLeDiff, Nat.reduceEqDiff, Nat.reduceMul, Nat.reducePow, Nat.add_one_ne_zero, Nat.add_one_sub_one, Nat.add_zero, Nat.zero_add, Int.reduceLT, Int.reduceLE, Int.reduceNeg, Int.reduceAdd, Int.reduceSub, Int.reduceToNat, Int.reduceEq, Int.reduceMul, Int.reducePow, Int.cast_ofNat_Int, Int.toNat_natCast, ne_eq, Bool.false_eq_true, true_or, or_true, or_self, Nat.not_lt_zero, ite_e0, ite_e1, lc_lt, lc_ge, lc_gt, lc_le, lc_eq, Classical.not_not]
      with_reducible repeat' (first | (refine And.intro ?_ ?_) | intro _)
      all_goals try omega
      · have e2 : lnP U P (i + 1).toNat = lnP U P i.toNat := by rw [es]; exact if_neg (by assumption)
        refine ih _ _ _ _ (by omega) (by omega) (by omega) hX M (by rw [e2]; exact hd) (by rw [e2]; exact hl) hs
      · have e2 : lnP U P (i + 1).toNat = (insA (lnB U P i.toNat) (lnP U P i.toNat).1 (lnP U P i.toNat).2.toNat i, (lnP U P i.toNat).2 + 1) := by
          rw [es]
          unfold lnS
          rw [if_pos (by assumption), show ((i.toNat : Nat) : Int) = i by omega]
        refine kx_first M W hX (by omega) hn6 ⟨h0, by omega⟩ (fun σ1 M1 hs1 => ?_)
        simp -implicitDefEqProofs only [↓b188_0, ↓b188_4, ↓b188_14, ↓b188_19, ↓b188_22, ↓b188_28, ↓b188_33, ↓b188_38, ↓b188_53, ↓b188_91, ↓b188_111, ↓b188_117, b188_0, b188_4, b188_14, b188_19, b188_22, b188_28, b188_33, b188_38, b188_53, b188_91, b188_111, b188_117, nLE3, layE8, wn, k3_184, r184, n3_185, I32, ↓xb, xb, ps, lpad, lat, aok2, rd2, aaok, aav, alok, alen, aok, akk, csum, isLg, cmpI, clsE, Option.elim, eq_self, List.mem_cons, List.not_mem_nil, or_false, false_or, List.append_nil, List.nil_append, List.cons_append, List.append_eq, List.replicate, List.length_cons, List.length_nil, List.map_cons, List.map_nil, ↓reduceIte, reduceCtorEq, if_true, if_false, true_and, and_true, false_and, and_false, and_self, not_true_eq_false, not_false_eq_true, forall_const, true_implies, false_implies, implies_true, Nat.reduceAdd, Nat.reduceSub, Nat.reduceLT, Nat.reduceLeDiff, Nat.reduceEqDiff, Nat.reduceMul, Nat.reducePow, Nat.add_one_ne_zero, Nat.add_one_sub_one, Nat.add_zero, Nat.zero_add, Int.reduceLT, Int.reduceLE, Int.reduceNeg, Int.reduceAdd, Int.reduceSub, Int.reduceToNat, Int.reduceEq, Int.reduceMul, Int.reducePow, Int.cast_ofNat_Int, Int.toNat_natCast, ne_eq, Bool.false_eq_true, true_or, or_true, or_self, Nat.not_lt_zero, ite_e0, ite_e1, lc_lt, lc_ge, lc_gt, lc_le, lc_eq, Classical.not_not]
        with_reducible repeat' (first | (refine And.intro ?_ ?_) | intro _)
        all_goals try omega
        have t6 : ∀ f c, f = 61 ∨ f = 62 → σ1 21 f 0 c = σ' 21 f 0 c := fun f c hf => hs1 21 f (by rcases hf with rfl | rfl <;> rfl) 0 c
        have hs1x : same SX σ' σ1 := hs1.mono (fun o f z => by
          have z' : (o == 21 && (f == 59 || f == 60)) = true := z
          simp only [Bool.and_eq_true, beq_iff_eq, Bool.or_eq_true] at z'
          rcases z'.2 with y | y <;> rw [z'.1, y] <;> rfl)
        have pe : posA (fun x => decide (x < keyN U P i.toNat)) (fun c => σ1 21 62 0 c) d.toNat = posA (lnB U P i.toNat) (lnP U P i.toNat).1 d.toNat := (posA_map (b := lnB U P i.toNat) (a := (lnP U P i.toNat).1) d.toNat (fun c hc => by
          rw [hd] at hc
          show decide (keyN U P ((lnP U P i.toNat).1 c).toNat < keyN U P i.toNat) = decide (σ1 21 62 0 c < keyN U P i.toNat)
          rw [t6 62 c (Or.inr rfl), (hl c hc).2])).symm
        have pl := posA_le (b := lnB U P i.toNat) (a := (lnP U P i.toNat).1) d.toNat
        refine kx_so_i (σ := σ1) (by omega) (a := fun c => σ1 21 61 0 c) (F := fun c => σ1 21 62 0 c) (n := i) (d := d) (s := keyN U P i.toNat) (by omega) (by omega) (fun σ2 p r1 rF r3 => ?_) 41 d σ1 (by omega) (by omega) (by omega) rfl (fun c hc => ?_) (fun c hc => ?_) same.refl
        · rw [pe] at r1 rF
          have hs2 : same SX σ' σ2 := hs1x.trans (r3.mono (fun o f z => by
            have z' : (o == 21 && (f == 61 || f == 62)) = true := z
            simp only [Bool.and_eq_true, beq_iff_eq, Bool.or_eq_true] at z'
            rcases z'.2 with y | y <;> rw [z'.1, y] <;> rfl))
          have M2 : MR σ2 P := M1.keep r3 (fun f a b => by
            show ((21 : Nat) == 21 && (f == 61 || f == 62)) = false
            rw [show (f == 61) = false by simp; omega, show (f == 62) = false by simp; omega]; rfl)
          refine TT_vb ok188 (sm3_ok G w) 60 [4] ?_
          simp -implicitDefEqProofs only [↓b188_0, ↓b188_4, ↓b188_14, ↓b188_19, ↓b188_22, ↓b188_28, ↓b188_33, ↓b188_38, ↓b188_53, ↓b188_91, ↓b188_111, ↓b188_117, b188_0, b188_4, b188_14, b188_19, b188_22, b188_28, b188_33, b188_38, b188_53, b188_91, b188_111, b188_117, nLE3, layE8, wn, k3_184, r184, n3_185, I32, ↓xb, xb, ps, lpad, lat, aok2, rd2, aaok, aav, alok, alen, aok, akk, csum, isLg, cmpI, clsE, Option.elim, eq_self, List.mem_cons, List.not_mem_nil, or_false, false_or, List.append_nil, List.nil_append, List.cons_append, List.append_eq, List.replicate, List.length_cons, List.length_nil, List.map_cons, List.map_nil, ↓reduceIte, reduceCtorEq, if_true, if_false, true_and, and_true, false_and, and_false, and_self, not_true_eq_false, not_false_eq_true, forall_const, true_implies, false_implies, implies_true, Nat.reduceAdd, Nat.reduceSub, Nat.reduceLT, Nat.reduceLeDiff, Nat.reduceEqDiff, Nat.reduceMul, Nat.reducePow, Nat.add_one_ne_zero, Nat.add_one_sub_one, Nat.add_zero, Nat.zero_add, Int.reduceLT, Int.reduceLE, Int.reduceNeg, Int.reduceAdd, Int.reduceSub, Int.reduceToNat, Int.reduceEq, Int.reduceMul, Int.reducePow, Int.cast_ofNat_Int, Int.toNat_natCast, ne_eq, Bool.false_eq_true, true_or, or_true, or_self, Nat.not_lt_zero, ite_e0, ite_e1, lc_lt, lc_ge, lc_gt, lc_le, lc_eq, Classical.not_not]
          with_reducible repeat' (first | (refine And.intro ?_ ?_) | intro _)
          all_goals try omega
          refine ih _ _ _ _ (by omega) (by omega) (by omega) (hX.sx hs2) M2 (by rw [e2, hd]) (fun c hc => ?_) (hs.trans hs2)
          rw [e2] at hc ⊢
          have hc' : c < ((lnP U P i.toNat).2 + 1).toNat := hc
          rw [r1 c, rF c]
          show _ = insA (lnB U P i.toNat) (lnP U P i.toNat).1 (lnP U P i.toNat).2.toNat i c ∧ _ = keyN U P (insA (lnB U P i.toNat) (lnP U P i.toNat).1 (lnP U P i.toNat).2.toNat i c).toNat
          unfold insA
          rw [← hd]
          by_cases hcp : c = posA (lnB U P i.toNat) (lnP U P i.toNat).1 d.toNat
          · rw [if_pos hcp, if_pos hcp, if_pos hcp]
            exact ⟨rfl, rfl⟩
          · rw [if_neg hcp, if_neg hcp, if_neg hcp]
            refine ⟨shA_agree pl (fun c hc => ?_) c (by omega) hcp, ?_⟩
            · rw [hd] at hc
              show σ1 21 61 0 c = _
              rw [t6 61 c (Or.inl rfl), (hl c hc).1]
            · have g : shA (fun c => σ1 21 62 0 c) (posA (lnB U P i.toNat) (lnP U P i.toNat).1 d.toNat) d.toNat c = shA (fun c => keyN U P ((lnP U P i.toNat).1 c).toNat) (posA (lnB U P i.toNat) (lnP U P i.toNat).1 d.toNat) d.toNat c := shA_agree pl (fun c hc => by
                rw [hd] at hc
                show σ1 21 62 0 c = _
                rw [t6 62 c (Or.inr rfl), (hl c hc).2]) c (by omega) hcp
              rw [g]
              unfold shA
              (repeat' split) <;> rfl
        · show σ1 21 61 0 c = shA (fun c => σ1 21 61 0 c) d.toNat d.toNat c
          unfold shA
          by_cases z : c < d.toNat
          · rw [if_pos z]
          · rw [if_neg z, if_neg (by omega)]
        · show σ1 21 62 0 c = shA (fun c => σ1 21 62 0 c) d.toNat d.toNat c
          unfold shA
          by_cases z : c < d.toNat
          · rw [if_pos z]
          · rw [if_neg z, if_neg (by omega)]
    · refine TT_vb ok188 (sm3_ok G w) 60 [4] ?_
      simp -implicitDefEqProofs only [↓b188_0, ↓b188_4, ↓b188_14, ↓b188_19, ↓b188_22, ↓b188_28, ↓b188_33, ↓b188_38, ↓b188_53, ↓b188_91, ↓b188_111, ↓b188_117, b188_0, b188_4, b188_14, b188_19, b188_22, b188_28, b188_33, b188_38, b188_53, b188_91, b188_111, b188_117, nLE3, layE8, hM, k3_184, r184, n3_185, I32, ↓xb, xb, ps, lpad, lat, aok2, rd2, aaok, aav, alok, alen, aok, akk, csum, isLg, cmpI, clsE, Option.elim, eq_self, List.mem_cons, List.not_mem_nil, or_false, false_or, List.append_nil, List.nil_append, List.cons_append, List.append_eq, List.replicate, List.length_cons, List.length_nil, List.map_cons, List.map_nil, ↓reduceIte, reduceCtorEq, if_true, if_false, true_and, and_true, false_and, and_false, and_self, not_true_eq_false, not_false_eq_true, forall_const, true_implies, false_implies, implies_true, Nat.reduceAdd, Nat.reduceSub, Nat.reduceLT, Nat.reduceLeDiff, Nat.reduceEqDiff, Nat.reduceMul, Nat.reducePow, Nat.add_one_ne_zero, Nat.add_one_sub_one, Nat.add_zero, Nat.zero_add, Int.reduceLT, Int.reduceLE, Int.reduceNeg, Int.reduceAdd, Int.reduceSub, Int.reduceToNat, Int.reduceEq, Int.reduceMul, Int.reducePow, Int.cast_ofNat_Int, Int.toNat_natCast, ne_eq, Bool.false_eq_true, true_or, or_true, or_self, Nat.not_lt_zero, ite_e0, ite_e1, lc_lt, lc_ge, lc_gt, lc_le, lc_eq, Classical.not_not]
      with_reducible repeat' (first | (refine And.intro ?_ ?_) | intro _)
      all_goals try omega
      have ei : i = P 2 1 := by omega
      rw [ei] at hl hd
      rw [hd]
      exact q σ' M (fun c hc => (hl c hc).1) hs
set_option maxRecDepth 100000 in
set_option maxHeartbeats 1000000 in
theorem kx_sorts (M : MR σ P) (W : WF P) (hX : RuX G w 6 r U σ) (hk : 14 ≤ k) (hn6 : P 2 6 ≤ 99999)
    (q : ∀ σ', MR σ' P → (∀ c : Nat, c < (lnP U P (P 2 1).toNat).2.toNat → σ' 21 61 0 c = (lnP U P (P 2 1).toNat).1 c) → same SX σ σ' → Q (some (vi (lnP U P (P 2 1).toNat).2)) σ') : CC G w w k (0, 0) 188 [vr 21 0 0, vi r] σ Q := by
  have wn := W.sc.2.1
  refine CC_vb ok188 (by decide) (sm3_ok G w) 60 [4] (Nat.le_of_ble_eq_true rfl) ?_
  simp -implicitDefEqProofs only [↓b188_0, ↓b188_4, ↓b188_14, ↓b188_19, ↓b188_22, ↓b188_28, ↓b188_33, ↓b188_38, ↓b188_53, ↓b188_91, ↓b188_111, ↓b188_117, b188_0, b188_4, b188_14, b188_19, b188_22, b188_28, b188_33, b188_38, b188_53, b188_91, b188_111, b188_117, nLE3, layE8, hk, k3_184, r184, n3_185, I32, ↓xb, xb, ps, lpad, lat, aok2, rd2, aaok, aav, alok, alen, aok, akk, csum, isLg, cmpI, clsE, Option.elim, eq_self, List.mem_cons, List.not_mem_nil, or_false, false_or, List.append_nil, List.nil_append, List.cons_append, List.append_eq, List.replicate, List.length_cons, List.length_nil, List.map_cons, List.map_nil, ↓reduceIte, reduceCtorEq, if_true, if_false, true_and, and_true, false_and, and_false, and_self, not_true_eq_false, not_false_eq_true, forall_const, true_implies, false_implies, implies_true, Nat.reduceAdd, Nat.reduceSub, Nat.reduceLT, Nat.reduceLeDiff, Nat.reduceEqDiff, Nat.reduceMul, Nat.reducePow, Nat.add_one_ne_zero, Nat.add_one_sub_one, Nat.add_zero, Nat.zero_add, Int.reduceLT, Int.reduceLE, Int.reduceNeg, Int.reduceAdd, Int.reduceSub, Int.reduceToNat, Int.reduceEq, Int.reduceMul, Int.reducePow, Int.cast_ofNat_Int, Int.toNat_natCast, ne_eq, Bool.false_eq_true, true_or, or_true, or_self, Nat.not_lt_zero, ite_e0, ite_e1, lc_lt, lc_ge, lc_gt, lc_le, lc_eq, Classical.not_not]
  with_reducible repeat' (first | (refine And.intro ?_ ?_) | intro _)
  all_goals try omega
  refine kx_sorts_l W hk hn6 q 41 0 0 σ none none (by omega) (by omega) (by omega) hX M rfl (fun c hc => ?_) same.refl
  exact absurd hc (show ¬ c < (0 : Int).toNat by simp)
end SRT

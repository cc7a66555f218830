/-! 59.turns: rows of turners (pure, class) -/
def lvF (P : Pt) (w : Nat) (L : Nat → Int) : Nat → Int := fun t => if t = w then P 34 t else max 0 (L t - 1)
def hiS (P : Pt) (w : Nat) (L : Nat → Int) (t : Nat) (c : Int) : Int := if 0 < P 34 t ∧ t ≠ w ∧ lvF P w L t = 0 then c + P 36 t else c
def ndF (P : Pt) (w : Nat) (s : (Nat → Int) × Int) : (Nat → Int) × Int := (lvF P w s.1, iter (hiS P w s.1) 5 s.2)
def lpF (f : Nat → (Nat → Int) × Int → (Nat → Int) × Int) : Nat → Nat → (Nat → Int) × Int → (Nat → Int) × Int
  | 0, _, a => a
  | q + 1, w, a => lpF f q (w + 1) (f w a)
def srF (P : Pt) : Nat → Nat → (Nat → Int) → (Nat → Int) × Int → (Nat → Int) × Int → (Nat → Int) × Int
  | 0, _, r, s, a => if s.2 < a.2 then (r, s.2) else a
  | d + 1, t, r, s, a => lpF (fun w a => if 0 < P 34 w then srF P d (t + 1) (upd1 r t w) (ndF P w s) a else a) 5 0 a
theorem hi_r {P : Pt} (W : WF P) {w : Nat} {L : Nat → Int} {c : Int} (n : Nat) (hn : n ≤ 5) : c ≤ iter (hiS P w L) n c ∧ iter (hiS P w L) n c ≤ c + 999 * n := by
  refine iter_inv (st := hiS P w L) (I := fun n x => c ≤ x ∧ x ≤ c + 999 * (n : Nat)) ⟨by omega, by omega⟩ (fun i b hi hb => ?_)
  have tu := (W.tu (n := i) (by omega)).2.2
  unfold hiS
  split <;> omega
theorem lp_same {f : Nat → (Nat → Int) × Int → (Nat → Int) × Int} {a : (Nat → Int) × Int} : ∀ (q w : Nat), (∀ x, w ≤ x → x < w + q → f x a = a) → lpF f q w a = a
  | 0, w, _ => rfl
  | q + 1, w, h => by
    show lpF f q (w + 1) (f w a) = a
    rw [h w (by omega) (by omega)]
    exact lp_same q (w + 1) (fun x hx hy => h x (by omega) (by omega))
theorem sr_ge {P : Pt} (W : WF P) : ∀ (d t : Nat) (r : Nat → Int) (s a : (Nat → Int) × Int), a.2 ≤ s.2 → srF P d t r s a = a
  | 0, t, r, s, a, h => if_neg (by omega)
  | d + 1, t, r, s, a, h => by
    refine lp_same 5 0 (fun x _ _ => ?_)
    split
    · refine sr_ge W d (t + 1) _ _ a ?_
      have := (hi_r W (w := x) (L := s.1) (c := s.2) 5 (by omega)).1
      show a.2 ≤ iter (hiS P x s.1) 5 s.2
      omega
    · rfl
def cst : Nat → Nat → Nat
  | 0, q => q + 1
  | d + 1, q => q * (cst d 5 + 1) + 1
abbrev SXX : Nat → Nat → Bool := fun o _ => o == 10
section TRN
variable {G : Gl} {w : Wd} {k : Nat} {σ : Mem} {Q : Option AV → Mem → Prop} {P : Pt}
set_option maxRecDepth 100000 in
set_option maxHeartbeats 1000000 in
theorem kc_ha_l (R0 : RT True σ 1 P) (W : WF P) (hk : 8 ≤ k) {t wh : Int} (ht : 0 ≤ t ∧ t < 7) (hw : 0 ≤ wh ∧ wh < 5) {s : (Nat → Int) × Int} (hs2 : 0 ≤ s.2 ∧ s.2 ≤ 40000) (hL : ∀ x, x < 5 → 0 ≤ s.1 x ∧ s.1 x ≤ 20)
    (q : ∀ σ', (∀ x, x < 5 → σ' 10 1 (t.toNat + 2) x = (ndF P wh.toNat s).1 x) → σ' 10 2 0 (t.toNat + 1) = (ndF P wh.toNat s).2 → same (fun o f => o == 10 && (f == 1 || f == 2)) σ σ' → (∀ r x, r ≠ t.toNat + 2 → σ' 10 1 r x = σ 10 1 r x) → (∀ c, c ≠ t.toNat + 1 → σ' 10 2 0 c = σ 10 2 0 c) → Q (some (vi (ndF P wh.toNat s).2)) σ') (hm : ∀ x, x < 5 → σ 10 1 (t.toNat + 1) x = s.1 x) :
    ∀ (m : Nat) (i : Int) (σ' : Mem) (l6 : Option AV), 0 ≤ i → i ≤ 5 → 5 < i + m → (∀ x : Nat, (x : Int) < i → σ' 10 1 (t.toNat + 2) x = lvF P wh.toNat s.1 x) → (∀ r x, r ≠ t.toNat + 2 → σ' 10 1 r x = σ 10 1 r x) → same (fun o f => o == 10 && f == 1) σ σ' → TT G w w w k (0, 0) 66 11 [some (vr 10 0 0), some (vr 1 0 0), some (vi t), some (vi wh), some (vi (iter (hiS P wh.toNat s.1) i.toNat s.2)), some (vi i), l6] [] σ' Q
  | 0, i, σ', l6, h0, h1, h2, _, _, _ => by omega
  | m + 1, i, σ', l6, h0, h1, h2, hc, ho, hs => by
    have ih := kc_ha_l R0 W hk ht hw hs2 hL q hm m (i + 1)
    rw [iter_toNat _ h0] at ih
    have R : RT True σ' 1 P := fun f j a b => (hs 1 _ rfl _ _).trans (R0 f j a b)
    by_cases hi : i < 5
    · have tu := W.tu (n := i.toNat) (by omega)
      have g0 := R.turner0 (n := i.toNat) (by omega)
      have g2 := R.turner2 (n := i.toNat) (by omega)
      have hmi : σ' 10 1 (t.toNat + 1) i.toNat = s.1 i.toNat := (ho _ _ (by omega)).trans (hm _ (by omega))
      have hLi := hL i.toNat (by omega)
      have hr := hi_r W (w := wh.toNat) (L := s.1) (c := s.2) i.toNat (by omega)
      have row : (t + 1).toNat + 1 = t.toNat + 2 := by omega
      have lv : lvF P wh.toNat s.1 i.toNat = if i = wh then P 34 i.toNat else max 0 (s.1 i.toNat - 1) := by
        unfold lvF
        by_cases e : i = wh
        · rw [if_pos (by omega), if_pos e]
        · rw [if_neg (by omega), if_neg e]
      have stp : ∀ v, v = lvF P wh.toNat s.1 i.toNat → ∀ (c : Int), c = hiS P wh.toNat s.1 i.toNat (iter (hiS P wh.toNat s.1) i.toNat s.2) → ∀ l6, TT G w w w k (0, 0) 66 11 [some (vr 10 0 0), some (vr 1 0 0), some (vi t), some (vi wh), some (vi c), some (vi (i + 1)), l6] [] (up σ' 10 1 (t.toNat + 2) i.toNat v) Q := fun v hv c hc' l6 => by
        rw [hc']
        refine ih _ l6 (by omega) (by omega) (by omega) (fun x hx => ?_) (fun r x hr => ?_) (hs.put rfl)
        · by_cases e : x = i.toNat
          · subst e; rw [upp_eq]; exact hv
          · rw [upp_nc e]; exact hc x (by omega)
        · rw [upp_nr hr]; exact ho r x hr
      have hh : hiS P wh.toNat s.1 i.toNat (iter (hiS P wh.toNat s.1) i.toNat s.2) = if 0 < P 34 i.toNat ∧ i ≠ wh ∧ lvF P wh.toNat s.1 i.toNat = 0 then iter (hiS P wh.toNat s.1) i.toNat s.2 + P 36 i.toNat else iter (hiS P wh.toNat s.1) i.toNat s.2 := by
        unfold hiS
        by_cases c : 0 < P 34 i.toNat ∧ i ≠ wh ∧ lvF P wh.toNat s.1 i.toNat = 0
        · rw [if_pos c, if_pos ⟨c.1, by omega, c.2.2⟩]
        · rw [if_neg c, if_neg (fun z => c ⟨z.1, by omega, z.2.2⟩)]
      rw [hh] at stp
      revert stp hr
      generalize iter (hiS P wh.toNat s.1) i.toNat s.2 = c0
      intro hr stp
      by_cases e : i = wh
      · rw [if_pos e] at lv
        rw [lv] at stp
        have e' := eq_true e
        refine TT_vb ok66 (sm3_ok G w) 60 [11] ?_
        simp -implicitDefEqProofs only [↓b66_0, ↓b66_11, ↓b66_17, ↓b66_24, ↓b66_34, ↓b66_42, ↓b66_49, ↓b66_56, ↓b66_64, ↓b66_72, ↓b66_78, ↓b66_86, ↓b66_92, ↓b66_101, ↓b66_107, b66_0, b66_11, b66_17, b66_24, b66_34, b66_42, b66_49, b66_56, b66_64, b66_72, b66_78, b66_86, b66_92, b66_101, b66_107, nLE1, layE5, layE4, g0, g2, hmi, row, e', up_rd, I32, ↓xb, xb, ps, lpad, lat, aok2, rd2, aaok, aav, alok, alen, aok, akk, csum, isLg, cmpI, clsE, Option.elim, eq_self, List.mem_cons, List.not_mem_nil, or_false, false_or, List.append_nil, List.nil_append, List.cons_append, List.append_eq, List.replicate, List.length_cons, List.length_nil, List.map_cons, List.map_nil, ↓reduceIte, reduceCtorEq, if_true, if_false, true_and, and_true, false_and, and_false, and_self, not_true_eq_false, not_false_eq_true, forall_const, true_implies, false_implies, implies_true, Nat.reduceAdd, Nat.reduceSub, Nat.reduceLT, Nat.reduceLeDiff, Nat.reduceEqDiff, Nat.reduceMul, Nat.reducePow, Nat.add_one_ne_zero, Nat.add_one_sub_one, Nat.add_zero, Nat.zero_add, Int.reduceLT, Int.reduceLE, Int.reduceNeg, Int.reduceAdd, Int.reduceSub, Int.reduceToNat, Int.reduceEq, Int.reduceMul, Int.reducePow, Int.cast_ofNat_Int, Int.toNat_natCast, ne_eq, Bool.false_eq_true, true_or, or_true, or_self, Nat.not_lt_zero, ite_e0, ite_e1, lc_lt, lc_ge, lc_gt, lc_le, lc_eq, Classical.not_not]
        with_reducible repeat' (first | (refine And.intro ?_ ?_) | intro _)
        all_goals try omega
        all_goals first | omega | exact stp _ rfl _ (by rw [if_neg (fun z => z.2.1 e)]) _
      · rw [if_neg e] at lv
        rw [lv] at stp
        refine TT_vb ok66 (sm3_ok G w) 60 [11] ?_
        simp -implicitDefEqProofs only [↓b66_0, ↓b66_11, ↓b66_17, ↓b66_24, ↓b66_34, ↓b66_42, ↓b66_49, ↓b66_56, ↓b66_64, ↓b66_72, ↓b66_78, ↓b66_86, ↓b66_92, ↓b66_101, ↓b66_107, b66_0, b66_11, b66_17, b66_24, b66_34, b66_42, b66_49, b66_56, b66_64, b66_72, b66_78, b66_86, b66_92, b66_101, b66_107, nLE1, layE5, layE4, g0, g2, hmi, row, e, up_rd, I32, ↓xb, xb, ps, lpad, lat, aok2, rd2, aaok, aav, alok, alen, aok, akk, csum, isLg, cmpI, clsE, Option.elim, eq_self, List.mem_cons, List.not_mem_nil, or_false, false_or, List.append_nil, List.nil_append, List.cons_append, List.append_eq, List.replicate, List.length_cons, List.length_nil, List.map_cons, List.map_nil, ↓reduceIte, reduceCtorEq, if_true, if_false, true_and, and_true, false_and, and_false, and_self, not_true_eq_false, not_false_eq_true, forall_const, true_implies, false_implies, implies_true, Nat.reduceAdd, Nat.reduceSub, Nat.reduceLT, Nat.reduceLeDiff, Nat.reduceEqDiff, Nat.reduceMul, Nat.reducePow, Nat.add_one_ne_zero, Nat.add_one_sub_one, Nat.add_zero, Nat.zero_add, Int.reduceLT, Int.reduceLE, Int.reduceNeg, Int.reduceAdd, Int.reduceSub, Int.reduceToNat, Int.reduceEq, Int.reduceMul, Int.reducePow, Int.cast_ofNat_Int, Int.toNat_natCast, ne_eq, Bool.false_eq_true, true_or, or_true, or_self, Nat.not_lt_zero, ite_e0, ite_e1, lc_lt, lc_ge, lc_gt, lc_le, lc_eq, Classical.not_not]
        with_reducible repeat' (first | (refine And.intro ?_ ?_) | intro _)
        all_goals try omega
        all_goals first | omega | exact stp _ rfl _ (by rw [if_neg (fun z => by omega)]) _ | exact stp _ rfl _ (by rw [if_pos ⟨by omega, e, by omega⟩]) _
    · have ei : i = 5 := by omega
      subst ei
      have hr := hi_r W (w := wh.toNat) (L := s.1) (c := s.2) 5 (by omega)
      have n5 : (5 : Int).toNat = 5 := rfl
      have row : (t + 1).toNat = t.toNat + 1 := by omega
      refine TT_vb ok66 (sm3_ok G w) 60 [11] ?_
      simp -implicitDefEqProofs only [↓b66_0, ↓b66_11, ↓b66_17, ↓b66_24, ↓b66_34, ↓b66_42, ↓b66_49, ↓b66_56, ↓b66_64, ↓b66_72, ↓b66_78, ↓b66_86, ↓b66_92, ↓b66_101, ↓b66_107, b66_0, b66_11, b66_17, b66_24, b66_34, b66_42, b66_49, b66_56, b66_64, b66_72, b66_78, b66_86, b66_92, b66_101, b66_107, nLE1, layE5, layE4, row, n5, I32, ↓xb, xb, ps, lpad, lat, aok2, rd2, aaok, aav, alok, alen, aok, akk, csum, isLg, cmpI, clsE, Option.elim, eq_self, List.mem_cons, List.not_mem_nil, or_false, false_or, List.append_nil, List.nil_append, List.cons_append, List.append_eq, List.replicate, List.length_cons, List.length_nil, List.map_cons, List.map_nil, ↓reduceIte, reduceCtorEq, if_true, if_false, true_and, and_true, false_and, and_false, and_self, not_true_eq_false, not_false_eq_true, forall_const, true_implies, false_implies, implies_true, Nat.reduceAdd, Nat.reduceSub, Nat.reduceLT, Nat.reduceLeDiff, Nat.reduceEqDiff, Nat.reduceMul, Nat.reducePow, Nat.add_one_ne_zero, Nat.add_one_sub_one, Nat.add_zero, Nat.zero_add, Int.reduceLT, Int.reduceLE, Int.reduceNeg, Int.reduceAdd, Int.reduceSub, Int.reduceToNat, Int.reduceEq, Int.reduceMul, Int.reducePow, Int.cast_ofNat_Int, Int.toNat_natCast, ne_eq, Bool.false_eq_true, true_or, or_true, or_self, Nat.not_lt_zero, ite_e0, ite_e1, lc_lt, lc_ge, lc_gt, lc_le, lc_eq, Classical.not_not]
      with_reducible repeat' (first | (refine And.intro ?_ ?_) | intro _)
      all_goals try omega
      all_goals first | omega | skip
      refine q _ (fun x hx => ?_) ?_ ((hs.mono (fun o f z => ?_)).put rfl) (fun r x hr => ?_) (fun c hc => ?_)
      · rw [upp_nf (by decide)]; exact hc x (by omega)
      · rw [upp_eq]; rfl
      · have z' : (o == 10 && f == 1) = true := z
        show (o == 10 && (f == 1 || f == 2)) = true
        simp only [Bool.and_eq_true, Bool.or_eq_true] at z' ⊢
        exact ⟨z'.1, Or.inl z'.2⟩
      · rw [upp_nf (by decide)]; exact ho r x hr
      · rw [upp_nc hc]; exact hs 10 2 rfl 0 c
set_option maxRecDepth 100000 in
set_option maxHeartbeats 1000000 in
theorem kc_ha (R : RT True σ 1 P) (W : WF P) (hk : 10 ≤ k) {t wh : Int} (ht : 0 ≤ t ∧ t < 7) (hw : 0 ≤ wh ∧ wh < 5) {s : (Nat → Int) × Int} (hs2 : 0 ≤ s.2 ∧ s.2 ≤ 40000) (hL : ∀ x, x < 5 → 0 ≤ s.1 x ∧ s.1 x ≤ 20) (hm : ∀ x, x < 5 → σ 10 1 (t.toNat + 1) x = s.1 x) (hh : σ 10 2 0 t.toNat = s.2)
    (q : ∀ σ', (∀ x, x < 5 → σ' 10 1 (t.toNat + 2) x = (ndF P wh.toNat s).1 x) → σ' 10 2 0 (t.toNat + 1) = (ndF P wh.toNat s).2 → same (fun o f => o == 10 && (f == 1 || f == 2)) σ σ' → (∀ r x, r ≠ t.toNat + 2 → σ' 10 1 r x = σ 10 1 r x) → (∀ c, c ≠ t.toNat + 1 → σ' 10 2 0 c = σ 10 2 0 c) → Q (some (vi (ndF P wh.toNat s).2)) σ') : CC G w w k (0, 0) 66 [vr 10 0 0, vr 1 0 0, vi t, vi wh] σ Q := by
  refine CC_vb ok66 (by decide) (sm3_ok G w) 60 [11] (Nat.le_of_ble_eq_true rfl) ?_
  simp -implicitDefEqProofs only [↓b66_0, ↓b66_11, ↓b66_17, ↓b66_24, ↓b66_34, ↓b66_42, ↓b66_49, ↓b66_56, ↓b66_64, ↓b66_72, ↓b66_78, ↓b66_86, ↓b66_92, ↓b66_101, ↓b66_107, b66_0, b66_11, b66_17, b66_24, b66_34, b66_42, b66_49, b66_56, b66_64, b66_72, b66_78, b66_86, b66_92, b66_101, b66_107, nLE1, layE5, layE4, hh, I32, ↓xb, xb, ps, lpad, lat, aok2, rd2, aaok, aav, alok, alen, aok, akk, csum, isLg, cmpI, clsE, Option.elim, eq_self, List.mem_cons, List.not_mem_nil, or_false, false_or, List.append_nil, List.nil_append, List.cons_append, List.append_eq, List.replicate, List.length_cons, List.length_nil, List.map_cons, List.map_nil, ↓reduceIte, reduceCtorEq, if_true, if_false, true_and, and_true, false_and, and_false, and_self, not_true_eq_false, not_false_eq_true, forall_const, true_implies, false_implies, implies_true, Nat.reduceAdd, Nat.reduceSub, Nat.reduceLT, Nat.reduceLeDiff, Nat.reduceEqDiff, Nat.reduceMul, Nat.reducePow, Nat.add_one_ne_zero, Nat.add_one_sub_one, Nat.add_zero, Nat.zero_add, Int.reduceLT, Int.reduceLE, Int.reduceNeg, Int.reduceAdd, Int.reduceSub, Int.reduceToNat, Int.reduceEq, Int.reduceMul, Int.reducePow, Int.cast_ofNat_Int, Int.toNat_natCast, ne_eq, Bool.false_eq_true, true_or, or_true, or_self, Nat.not_lt_zero, ite_e0, ite_e1, lc_lt, lc_ge, lc_gt, lc_le, lc_eq, Classical.not_not]
  with_reducible repeat' (first | (refine And.intro ?_ ?_) | intro _)
  all_goals try omega
  all_goals first | omega | exact kc_ha_l R W (by omega) ht hw hs2 hL q hm 6 0 σ _ (by omega) (by omega) (by omega) (fun x hx => by omega) (fun _ _ _ => rfl) same.refl
end TRN

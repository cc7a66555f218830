/-! 23.words: what the words say, by the class; a rule's sums as a contract; spoil, firstOf; current and makers of a quarter -/
theorem t_facts {t : Nat} (ht : t = 1 ∨ t = 2) : cls t = 4 ∧ t < 22 ∧ ¬ t = 8 ∧ ¬ 8 = t ∧ ¬ t = 21 ∧ ¬ 21 = t := by
  rcases ht with rfl | rfl <;> exact ⟨rfl, by decide, by decide, by decide, by decide, by decide⟩
def wd (σ : Mem) (i : Nat) : Int := if i < 15 then σ 8 1 0 i else 0
def wH (P : Pt) (h : Int) (i : Nat) : Int := if i = 0 then P 2 6 else if i = 1 then P 2 6 % 96 / 4 else if i = 2 then tillP (P 2 7) (P 2 6) else if i = 3 then P 5 h.toNat else if i = 4 then h else if i = 5 then P 8 (6 * h + 1).toNat else 0
def wN (P : Pt) (n : Nat) (lack : Int) (i : Nat) : Int := if i = 6 then P 10 n else if i = 7 then P 12 n else if i = 8 then lack else if i = 9 then P 8 (6 * P 9 n + P 10 n).toNat else wH P (P 9 n) i
def wG (P : Pt) (o h good : Int) (w : Nat → Int) (i : Nat) : Int := if i = 10 then P 8 (6 * o + good).toNat else if i = 11 then P 27 (12 * o + h).toNat else if i = 12 then P 38 (12 * o + h).toNat else if i = 13 then P 38 (12 * h + o).toNat else if i = 14 then farP P o h else w i
abbrev S81 : Nat → Nat → Bool := fun o f => o == 8 && f == 1
/-- what a rule's three sums are, and what it holds back -/
abbrev RU : Type := (Nat → (Nat → Int) → Int) × Int
def RuC (G : Gl) (w : Wd) (k : Nat) (o : Nat) (U : RU) (σ : Mem) : Prop :=
  (σ o 1 0 0 = U.2 ∧ 0 ≤ U.2 ∧ U.2 ≤ 9999) ∧ ∀ (σ' : Mem) (Q : Option AV → Mem → Prop) (k' : Nat) (s : Int), k ≤ k' → (∀ f, f ≤ 8 → ∀ r c, σ' o f r c = σ o f r c) → (s = 15 ∨ s = 16 ∨ s = 17) → (∀ σ'', same (fun o' f => o' == o && f == 9) σ' σ'' → Q (some (vl (U.1 s.toNat (wd σ')))) σ'') → CC G w w k' (0, 0) 39 [vr o 0 0, vi s, vr 8 1 0] σ' Q
section WDS
variable {G : Gl} {w : Wd} {k : Nat} {σ : Mem} {Q : Option AV → Mem → Prop} {P : Pt} {g : Prop} {t : Nat}
set_option maxRecDepth 100000 in
set_option maxHeartbeats 1000000 in
theorem kc_tellH (R : RT g σ t P) (W : WF P) (ht : t = 1 ∨ t = 2) (hk : 6 ≤ k) (hn : P 2 6 ≤ 99999) {h : Int} (hh : 0 ≤ h ∧ h < 12) (q : ∀ σ', wd σ' = wH P h → same S81 σ σ' → Q none σ') : CC G w w k (0, 0) 15 [vr 8 0 0, vr t 0 0, vi h] σ Q := by
  obtain ⟨hc, h22, n8, n8', n21, n21'⟩ := t_facts ht
  have w13 := W.sc.2.2.2.2.2.2
  have e7 := R.now; have e8 := R.said
  have s6 := R.people (h := h.toNat) (by omega)
  have s1 := R.storeI (h := h) (c := 1) hh (by omega)
  rw [show (1 : Int).toNat = 1 from rfl] at s1
  have tc : tillC (P 2 7) (P 2 6) := by unfold tillC; omega
  refine CC_vb ok15 (by decide) (sm3_ok G w) 60 [] (Nat.le_of_ble_eq_true rfl) ?_
  simp -implicitDefEqProofs only [↓b15_0, ↓b15_20, ↓b15_31, ↓b15_44, ↓b15_68, ↓b15_75, ↓b15_81, ↓b15_94, b15_0, b15_20, b15_31, b15_44, b15_68, b15_75, b15_81, b15_94, nLE0, layE1, layE4, layE3, hc, h22, n8, n8', e7, e8, s6, s1, tc, up_rd, k3_52, r52, k3_53, r53, I32, ↓xb, xb, ps, lpad, lat, aok2, rd2, aaok, aav, alok, alen, aok, akk, csum, isLg, cmpI, clsE, Option.elim, eq_self, List.mem_cons, List.not_mem_nil, or_false, false_or, List.append_nil, List.nil_append, List.cons_append, List.append_eq, List.replicate, List.length_cons, List.length_nil, List.map_cons, List.map_nil, ↓reduceIte, reduceCtorEq, if_true, if_false, true_and, and_true, false_and, and_false, and_self, not_true_eq_false, not_false_eq_true, forall_const, true_implies, false_implies, implies_true, Nat.reduceAdd, Nat.reduceSub, Nat.reduceLT, Nat.reduceLeDiff, Nat.reduceEqDiff, Nat.reduceMul, Nat.reducePow, Nat.add_one_ne_zero, Nat.add_one_sub_one, Nat.add_zero, Nat.zero_add, Int.reduceLT, Int.reduceLE, Int.reduceNeg, Int.reduceAdd, Int.reduceSub, Int.reduceToNat, Int.reduceEq, Int.reduceMul, Int.reducePow, Int.cast_ofNat_Int, Int.toNat_natCast, ne_eq, Bool.false_eq_true, true_or, or_true, or_self, Nat.not_lt_zero, ite_e0, ite_e1, lc_lt, lc_ge, lc_gt, lc_le, lc_eq, Classical.not_not]
  with_reducible repeat' (first | (refine And.intro ?_ ?_) | intro _)
  all_goals try omega
  refine q _ ?_ ((((((((((((((((same.refl.put rfl).put rfl).put rfl).put rfl).put rfl).put rfl).put rfl).put rfl).put rfl).put rfl).put rfl).put rfl).put rfl).put rfl).put rfl))
  funext i
  unfold wd wH
  simp only [up_rd, true_and]
  by_cases c : i < 15
  · rw [if_pos c]
    have : i = 0 ∨ i = 1 ∨ i = 2 ∨ i = 3 ∨ i = 4 ∨ i = 5 ∨ i = 6 ∨ i = 7 ∨ i = 8 ∨ i = 9 ∨ i = 10 ∨ i = 11 ∨ i = 12 ∨ i = 13 ∨ i = 14 := by omega
    rcases this with e | e | e | e | e | e | e | e | e | e | e | e | e | e | e <;> subst e <;> rfl
  · rw [if_neg c]
    repeat' (first | rw [if_neg (by omega)])
set_option maxRecDepth 100000 in
set_option maxHeartbeats 1000000 in
theorem kc_tellN (R : RT g σ t P) (W : WF P) (ht : t = 1 ∨ t = 2) (hk : 7 ≤ k) (hn : P 2 6 ≤ 99999) {n : Nat} (hh : (n : Int) < P 2 1) (q : ∀ σ', wd σ' = wN P n (P 11 n) → same S81 σ σ' → Q none σ') : CC G w w k (0, 0) 16 [vr 8 0 0, vr t 0 0, vr t 11 (n + 1)] σ Q := by
  obtain ⟨hc, h22, n8, n8', n21, n21'⟩ := t_facts ht
  have w1 := W.sc.1; have w2 := W.sc.2.1
  obtain ⟨d1, d2, d3, d4, d5, d6, d7⟩ := W.nd (n := n) hh
  have s0 := R.need0 (n := n) (by omega); have s1 := R.need1 (n := n) (by omega); have s2 := R.need2 (n := n) (by omega); have s3 := R.need3 (n := n) (by omega)
  have st := R.storeI (h := P 9 n) (c := P 10 n) (by omega) (by omega)
  refine CC_vb ok16 (by decide) (sm3_ok G w) 60 [] (Nat.le_of_ble_eq_true rfl) ?_
  simp -implicitDefEqProofs only [↓b16_0, ↓b16_8, ↓b16_55, b16_0, b16_8, b16_55, nLE0, layE1, layE4, layE3, hc, h22, n8, n8', s0, n3_15, I32, ↓xb, xb, ps, lpad, lat, aok2, rd2, aaok, aav, alok, alen, aok, akk, csum, isLg, cmpI, clsE, Option.elim, eq_self, List.mem_cons, List.not_mem_nil, or_false, false_or, List.append_nil, List.nil_append, List.cons_append, List.append_eq, List.replicate, List.length_cons, List.length_nil, List.map_cons, List.map_nil, ↓reduceIte, reduceCtorEq, if_true, if_false, true_and, and_true, false_and, and_false, and_self, not_true_eq_false, not_false_eq_true, forall_const, true_implies, false_implies, implies_true, Nat.reduceAdd, Nat.reduceSub, Nat.reduceLT, Nat.reduceLeDiff, Nat.reduceEqDiff, Nat.reduceMul, Nat.reducePow, Nat.add_one_ne_zero, Nat.add_one_sub_one, Nat.add_zero, Nat.zero_add, Int.reduceLT, Int.reduceLE, Int.reduceNeg, Int.reduceAdd, Int.reduceSub, Int.reduceToNat, Int.reduceEq, Int.reduceMul, Int.reducePow, Int.cast_ofNat_Int, Int.toNat_natCast, ne_eq, Bool.false_eq_true, true_or, or_true, or_self, Nat.not_lt_zero, ite_e0, ite_e1, lc_lt, lc_ge, lc_gt, lc_le, lc_eq, Classical.not_not]
  with_reducible repeat' (first | (refine And.intro ?_ ?_) | intro _)
  all_goals try omega
  refine kc_tellH R W ht (by omega) hn (by omega) (fun σ1 hw hs => ?_)
  have sm : ∀ f r c, σ1 t f r c = σ t f r c := fun f r c => hs t f (by simp [n8]) r c
  simp -implicitDefEqProofs only [↓b16_0, ↓b16_8, ↓b16_55, b16_0, b16_8, b16_55, nLE0, layE1, layE4, layE3, hc, h22, n8, n8', up_rd, sm, s0, s1, s2, s3, st, n3_15, I32, ↓xb, xb, ps, lpad, lat, aok2, rd2, aaok, aav, alok, alen, aok, akk, csum, isLg, cmpI, clsE, Option.elim, eq_self, List.mem_cons, List.not_mem_nil, or_false, false_or, List.append_nil, List.nil_append, List.cons_append, List.append_eq, List.replicate, List.length_cons, List.length_nil, List.map_cons, List.map_nil, ↓reduceIte, reduceCtorEq, if_true, if_false, true_and, and_true, false_and, and_false, and_self, not_true_eq_false, not_false_eq_true, forall_const, true_implies, false_implies, implies_true, Nat.reduceAdd, Nat.reduceSub, Nat.reduceLT, Nat.reduceLeDiff, Nat.reduceEqDiff, Nat.reduceMul, Nat.reducePow, Nat.add_one_ne_zero, Nat.add_one_sub_one, Nat.add_zero, Nat.zero_add, Int.reduceLT, Int.reduceLE, Int.reduceNeg, Int.reduceAdd, Int.reduceSub, Int.reduceToNat, Int.reduceEq, Int.reduceMul, Int.reducePow, Int.cast_ofNat_Int, Int.toNat_natCast, ne_eq, Bool.false_eq_true, true_or, or_true, or_self, Nat.not_lt_zero, ite_e0, ite_e1, lc_lt, lc_ge, lc_gt, lc_le, lc_eq, Classical.not_not]
  with_reducible repeat' (first | (refine And.intro ?_ ?_) | intro _)
  all_goals try omega
  refine q _ ?_ (((((hs.put rfl).put rfl).put rfl).put rfl))
  funext i
  have hi := congrFun hw i
  unfold wd at hi
  unfold wd wN
  simp only [up_rd, true_and]
  by_cases c : i < 15
  · rw [if_pos c] at hi ⊢
    by_cases c9 : i = 9
    · subst c9; rfl
    · by_cases c8 : i = 8
      · subst c8; rfl
      · by_cases c7 : i = 7
        · subst c7; rfl
        · by_cases c6 : i = 6
          · subst c6; rfl
          · rw [if_neg c9, if_neg c8, if_neg c7, if_neg c6, if_neg c6, if_neg c7, if_neg c8, if_neg c9]; exact hi
  · rw [if_neg c] at hi ⊢
    rw [if_neg (by omega), if_neg (by omega), if_neg (by omega), if_neg (by omega)]; exact hi
set_option maxRecDepth 100000 in
set_option maxHeartbeats 1000000 in
theorem kc_tellG (R : RT g σ t P) (hg : g) (W : WF P) (ht : t = 1 ∨ t = 2) (hk : 7 ≤ k) {o h good : Int} (ho : 0 ≤ o ∧ o < 12) (hh : 0 ≤ h ∧ h < 12) (hgo : 0 ≤ good ∧ good < 6) (q : ∀ σ', wd σ' = wG P o h good (wd σ) → same S81 σ σ' → Q none σ') : CC G w w k (0, 0) 17 [vr 8 0 0, vr t 0 0, vi o, vi h, vi good] σ Q := by
  obtain ⟨hc, h22, n8, n8', n21, n21'⟩ := t_facts ht
  have s1 := R.storeI (h := o) (c := good) ho hgo
  have s2 := R.tieI (a := o) (b := h) ho hh
  have s3 := R.gaveI hg (a := o) (b := h) ho hh
  have s4 := R.gaveI hg (a := h) (b := o) hh ho
  have R2 : ∀ v1 v2 v3 v4, RT g (up (up (up (up σ 8 1 0 10 v1) 8 1 0 11 v2) 8 1 0 12 v3) 8 1 0 13 v4) t P := fun v1 v2 v3 v4 => (((R.put2 n8).put2 n8).put2 n8).put2 n8
  have x1 := fun v1 v2 v3 v4 => (R2 v1 v2 v3 v4).xy W ho
  have x2 := fun v1 v2 v3 v4 => (R2 v1 v2 v3 v4).xy W hh
  have x3 := fun v1 v2 v3 v4 => (R2 v1 v2 v3 v4).far_t ho hh
  refine CC_vb ok17 (by decide) (sm3_ok G w) 60 [] (Nat.le_of_ble_eq_true rfl) ?_
  simp -implicitDefEqProofs only [↓b17_0, ↓b17_12, ↓b17_29, ↓b17_45, ↓b17_60, ↓b17_75, b17_0, b17_12, b17_29, b17_45, b17_60, b17_75, nLE0, layE1, layE4, layE3, hc, h22, n8, n8', s1, s2, s3, s4, x1, x2, x3, up_rd, k3_51, r51, I32, ↓xb, xb, ps, lpad, lat, aok2, rd2, aaok, aav, alok, alen, aok, akk, csum, isLg, cmpI, clsE, Option.elim, eq_self, List.mem_cons, List.not_mem_nil, or_false, false_or, List.append_nil, List.nil_append, List.cons_append, List.append_eq, List.replicate, List.length_cons, List.length_nil, List.map_cons, List.map_nil, ↓reduceIte, reduceCtorEq, if_true, if_false, true_and, and_true, false_and, and_false, and_self, not_true_eq_false, not_false_eq_true, forall_const, true_implies, false_implies, implies_true, Nat.reduceAdd, Nat.reduceSub, Nat.reduceLT, Nat.reduceLeDiff, Nat.reduceEqDiff, Nat.reduceMul, Nat.reducePow, Nat.add_one_ne_zero, Nat.add_one_sub_one, Nat.add_zero, Nat.zero_add, Int.reduceLT, Int.reduceLE, Int.reduceNeg, Int.reduceAdd, Int.reduceSub, Int.reduceToNat, Int.reduceEq, Int.reduceMul, Int.reducePow, Int.cast_ofNat_Int, Int.toNat_natCast, ne_eq, Bool.false_eq_true, true_or, or_true, or_self, Nat.not_lt_zero, ite_e0, ite_e1, lc_lt, lc_ge, lc_gt, lc_le, lc_eq, Classical.not_not]
  with_reducible repeat' (first | (refine And.intro ?_ ?_) | intro _)
  all_goals try omega
  refine q _ ?_ ((((((same.refl.put rfl).put rfl).put rfl).put rfl).put rfl))
  funext i
  unfold wG wd
  simp only [up_rd, true_and]
  by_cases c : i < 15
  · rw [if_pos c]
    by_cases c14 : i = 14
    · subst c14; rfl
    · by_cases c13 : i = 13
      · subst c13; rfl
      · by_cases c12 : i = 12
        · subst c12; rfl
        · by_cases c11 : i = 11
          · subst c11; rfl
          · by_cases c10 : i = 10
            · subst c10; rfl
            · rw [if_neg c14, if_neg c13, if_neg c12, if_neg c11, if_neg c10, if_neg c10, if_neg c11, if_neg c12, if_neg c13, if_neg c14, if_pos c]
  · rw [if_neg c, if_neg (by omega), if_neg (by omega), if_neg (by omega), if_neg (by omega), if_neg (by omega), if_neg c]
end WDS

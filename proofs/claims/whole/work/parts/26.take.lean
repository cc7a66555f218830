/-! 26.take: one who gives (class) -/
def N38 (P : Pt) : Prop := ∀ i, w64 (P 38 i) = P 38 i
def WRs (σ : Mem) (t : Nat) (P : Pt) : Prop := ∀ a b : Int, 0 ≤ a ∧ a < 12 → 0 ≤ b ∧ b < 12 → σ t 14 (a.toNat + 1) b.toNat = cobP P a b (P 2 3).toNat + 1
theorem cob_r {P : Pt} {a b : Int} : ∀ n : Nat, cobP P a b n = -1 ∨ (0 ≤ cobP P a b n ∧ cobP P a b n < n)
  | 0 => Or.inl rfl
  | n + 1 => by
    have ih := cob_r (P := P) (a := a) (b := b) n
    show (if cobP P a b n ≠ -1 then cobP P a b n else if (P 23 n = a ∧ P 24 n = b) ∨ (P 23 n = b ∧ P 24 n = a) then (n : Int) else -1) = -1 ∨ _ ≤ (if cobP P a b n ≠ -1 then cobP P a b n else if (P 23 n = a ∧ P 24 n = b) ∨ (P 23 n = b ∧ P 24 n = a) then (n : Int) else -1) ∧ (if cobP P a b n ≠ -1 then cobP P a b n else if (P 23 n = a ∧ P 24 n = b) ∨ (P 23 n = b ∧ P 24 n = a) then (n : Int) else -1) < _
    (repeat' split) <;> omega
/-- the cable between one who gives and the house of a need -/
noncomputable def ccP (P : Pt) (n : Nat) (o : Int) : Int := cobP P o (P 9 n) (P 2 3).toNat
noncomputable def moP (U : RU) (P : Pt) (n : Nat) (o lack : Int) : Int := if P 10 n = 0 then min (min lack (P 8 (6 * o + P 10 n).toNat - U.2)) (P 25 (ccP P n o).toNat - P 26 (ccP P n o).toNat) else min lack (P 8 (6 * o + P 10 n).toNat - U.2)
noncomputable def giP (U : RU) (P : Pt) (n : Nat) (o lack : Int) : Int := if (P 10 n = 0 ∧ ccP P n o = -1) ∨ (¬ P 10 n = 0 ∧ P 27 (12 * o + P 9 n).toNat = 0) ∨ moP U P n o lack ≤ 0 then 0 else min (moP U P n o lack) (max 0 (U.1 17 (wG P o (P 9 n) (P 10 n) (wN P n lack))))
noncomputable def gvP (P : Pt) (n : Nat) (o v : Int) : Pt := if P 10 n = 0 then pu (pu (pu P 8 (6 * o + P 10 n).toNat (P 8 (6 * o + P 10 n).toNat - v)) 38 (12 * o + P 9 n).toNat (w64 (P 38 (12 * o + P 9 n).toNat + v))) 26 (ccP P n o).toNat (P 26 (ccP P n o).toNat + v) else pu (pu P 8 (6 * o + P 10 n).toNat (P 8 (6 * o + P 10 n).toNat - v)) 38 (12 * o + P 9 n).toNat (w64 (P 38 (12 * o + P 9 n).toNat + v))
theorem gvP_0 {P : Pt} (N : N38 P) {n : Nat} {o : Int} : gvP P n o 0 = P := by
  unfold gvP
  rw [Int.sub_zero, Int.add_zero, Int.add_zero, N, pu_id, pu_id, pu_id]
  split <;> rfl
section TKE
variable {G : Gl} {w : Wd} {k : Nat} {σ : Mem} {Q : Option AV → Mem → Prop} {P : Pt} {g : Prop} {t ro : Nat} {U : RU}
set_option maxRecDepth 100000 in
set_option maxHeartbeats 1000000 in
theorem kc_takeAll (R : RT g σ t P) (W : WF P) (ht : t = 1 ∨ t = 2) (hk : 6 ≤ k) {n : Nat} (hh : (n : Int) < P 2 1) {o lack : Int} (ho : 0 ≤ o ∧ o < P 2 0) (hl : 0 ≤ lack ∧ lack ≤ 999)
    (q : Q (some (vi (min lack (P 8 (6 * o + P 10 n).toNat)))) (up σ t 9 (o.toNat + 1) (P 10 n).toNat (P 8 (6 * o + P 10 n).toNat - min lack (P 8 (6 * o + P 10 n).toNat)))) : CC G w w k (0, 0) 13 [vr 8 0 0, vr t 0 0, vr t 11 (n + 1), vi o, vi lack] σ Q := by
  obtain ⟨hc, h22, n8, n8', n21, n21'⟩ := t_facts ht
  have w1 := W.sc.1; have w2 := W.sc.2.1
  obtain ⟨d1, d2, d3, d4, d5, d6, d7⟩ := W.nd (n := n) hh
  have s1 := R.need1 (n := n) (by omega)
  have st := R.storeI (h := o) (c := P 10 n) (by omega) (by omega)
  have sb := W.st (n := (6 * o + P 10 n).toNat) (by omega)
  refine CC_vb ok13 (by decide) (sm3_ok G w) 60 [] (Nat.le_of_ble_eq_true rfl) ?_
  simp -implicitDefEqProofs only [↓b13_0, ↓b13_6, ↓b13_19, b13_0, b13_6, b13_19, nLE0, layE1, layE4, layE3, hc, h22, s1, st, I32, ↓xb, xb, ps, lpad, lat, aok2, rd2, aaok, aav, alok, alen, aok, akk, csum, isLg, cmpI, clsE, Option.elim, eq_self, List.mem_cons, List.not_mem_nil, or_false, false_or, List.append_nil, List.nil_append, List.cons_append, List.append_eq, List.replicate, List.length_cons, List.length_nil, List.map_cons, List.map_nil, ↓reduceIte, reduceCtorEq, if_true, if_false, true_and, and_true, false_and, and_false, and_self, not_true_eq_false, not_false_eq_true, forall_const, true_implies, false_implies, implies_true, Nat.reduceAdd, Nat.reduceSub, Nat.reduceLT, Nat.reduceLeDiff, Nat.reduceEqDiff, Nat.reduceMul, Nat.reducePow, Nat.add_one_ne_zero, Nat.add_one_sub_one, Nat.add_zero, Nat.zero_add, Int.reduceLT, Int.reduceLE, Int.reduceNeg, Int.reduceAdd, Int.reduceSub, Int.reduceToNat, Int.reduceEq, Int.reduceMul, Int.reducePow, Int.cast_ofNat_Int, Int.toNat_natCast, ne_eq, Bool.false_eq_true, true_or, or_true, or_self, Nat.not_lt_zero, ite_e0, ite_e1, lc_lt, lc_ge, lc_gt, lc_le, lc_eq, Classical.not_not]
  with_reducible repeat' (first | (refine And.intro ?_ ?_) | intro _)
  all_goals try omega
set_option maxRecDepth 100000 in
set_option maxHeartbeats 1000000 in
theorem kc_take (R : RT True σ t P) (W : WF P) (N : N38 P) (Wr : WRs σ t P) (ht : t = 1 ∨ t = 2) (hr : 13 ≤ ro ∧ ro ≤ 20) (hU : RuC G w 6 ro U σ) (hk : 14 ≤ k) {n : Nat} (hh : (n : Int) < P 2 1) {o lack : Int} (ho : 0 ≤ o ∧ o < P 2 0) (hne : o ≠ P 9 n) (hl : 1 ≤ lack ∧ lack ≤ 999) (hw : ∀ i, i < 10 → i ≠ 8 → wd σ i = wN P n 0 i)
    (q : ∀ σ', RT True σ' t (gvP P n o (giP U P n o lack)) → same (SQ t ro) σ σ' → (∀ i, i < 10 → i ≠ 8 → wd σ' i = wd σ i) → Q (some (vi (giP U P n o lack))) σ') : CC G w w k (0, 0) 14 [vr 8 0 0, vr t 0 0, vr ro 0 0, vr t 11 (n + 1), vi o, vi lack] σ Q := by
  obtain ⟨hc, h22, n8, n8', n21, n21'⟩ := t_facts ht
  obtain ⟨rc, r22, m8, m8', m1, m2⟩ := r_facts hr
  have w1 := W.sc.1; have w2 := W.sc.2.1; have w3 := W.sc.2.2.2.1
  obtain ⟨d1, d2, d3, d4, d5, d6, d7⟩ := W.nd (n := n) hh
  have s0 := R.need0 (n := n) (by omega); have s1 := R.need1 (n := n) (by omega)
  have st := R.storeI (h := o) (c := P 10 n) (by omega) (by omega)
  have sb := W.st (n := (6 * o + P 10 n).toNat) (by omega)
  have ti := R.tieI (a := o) (b := P 9 n) (by omega) (by omega)
  have wr : σ t 14 (o.toNat + 1) (P 9 n).toNat = ccP P n o + 1 := Wr o (P 9 n) (by omega) (by omega)
  have cr : ccP P n o = -1 ∨ (0 ≤ ccP P n o ∧ ccP P n o < (P 2 3).toNat) := cob_r _
  have hd : σ ro 1 0 0 = U.2 := hU.1.1
  have hb := hU.1.2
  have h00 : giP U P n o lack = 0 → Q (some (vi 0)) σ := fun e => by
    have := q σ (by rw [e, gvP_0 N]; exact R) same.refl (fun _ _ _ => rfl)
    rw [e] at this
    exact this
  have wfin : ∀ σ1, wd σ1 = wG P o (P 9 n) (P 10 n) (wd (up σ 8 1 0 8 lack)) → wd σ1 = wG P o (P 9 n) (P 10 n) (wN P n lack) ∧ ∀ i, i < 10 → i ≠ 8 → wd σ1 i = wd σ i := fun σ1 e => by
    have e8 : ∀ i, i < 10 → wd (up σ 8 1 0 8 lack) i = wN P n lack i := fun i hi => by
      have hwi := hw i hi
      unfold wd at hwi ⊢
      rw [if_pos (by omega), up_rd]
      by_cases c : i = 8
      · rw [if_pos ⟨rfl, rfl, rfl, c⟩, c]; rfl
      · rw [if_neg (fun z => c z.2.2.2)]
        have := hwi c
        rw [if_pos (by omega)] at this
        rw [this]
        unfold wN
        rw [if_neg c, if_neg c]
    refine ⟨?_, fun i hi h8 => ?_⟩
    · rw [e]
      funext i
      unfold wG
      by_cases c : i < 10
      · rw [e8 i c]
      · by_cases c2 : i < 15
        · have : i = 10 ∨ i = 11 ∨ i = 12 ∨ i = 13 ∨ i = 14 := by omega
          rcases this with z | z | z | z | z <;> subst z <;> rfl
        · have z : wd (up σ 8 1 0 8 lack) i = wN P n lack i := by
            unfold wd wN wH
            rw [if_neg c2]
            repeat' (first | rw [if_neg (by omega)])
          rw [z]
    · rw [e]
      unfold wG
      rw [if_neg (by omega), if_neg (by omega), if_neg (by omega), if_neg (by omega), if_neg (by omega)]
      unfold wd
      rw [if_pos (by omega), if_pos (by omega), up_rd, if_neg (fun z => h8 z.2.2.2)]
  have Ra : RT True (up σ 8 1 0 8 lack) t P := R.put2 n8
  by_cases hg : P 10 n = 0
  · have hg' := eq_true hg
    have mo : moP U P n o lack = min (min lack (P 8 (6 * o + P 10 n).toNat - U.2)) (P 25 (ccP P n o).toNat - P 26 (ccP P n o).toNat) := if_pos hg
    by_cases hcc : ccP P n o = -1
    · refine CC_vb ok14 (by decide) (sm3_ok G w) 60 [179] (Nat.le_of_ble_eq_true rfl) ?_
      simp -implicitDefEqProofs only [↓b14_0, ↓b14_17, ↓b14_29, ↓b14_33, ↓b14_34, ↓b14_41, ↓b14_46, ↓b14_49, ↓b14_56, ↓b14_62, ↓b14_64, ↓b14_73, ↓b14_84, ↓b14_91, ↓b14_100, ↓b14_109, ↓b14_115, ↓b14_117, ↓b14_122, ↓b14_124, ↓b14_145, ↓b14_156, ↓b14_159, ↓b14_169, ↓b14_208, ↓b14_222, ↓b14_179, ↓b14_194, ↓b14_215, b14_0, b14_17, b14_29, b14_33, b14_34, b14_41, b14_46, b14_49, b14_56, b14_62, b14_64, b14_73, b14_84, b14_91, b14_100, b14_109, b14_115, b14_117, b14_122, b14_124, b14_145, b14_156, b14_159, b14_169, b14_208, b14_222, b14_179, b14_194, b14_215, nLE0, layE1, layE4, layE3, hc, h22, s0, s1, wr, hg', n3_17, n3_39, I32, ↓xb, xb, ps, lpad, lat, aok2, rd2, aaok, aav, alok, alen, aok, akk, csum, isLg, cmpI, clsE, Option.elim, eq_self, List.mem_cons, List.not_mem_nil, or_false, false_or, List.append_nil, List.nil_append, List.cons_append, List.append_eq, List.replicate, List.length_cons, List.length_nil, List.map_cons, List.map_nil, ↓reduceIte, reduceCtorEq, if_true, if_false, true_and, and_true, false_and, and_false, and_self, not_true_eq_false, not_false_eq_true, forall_const, true_implies, false_implies, implies_true, Nat.reduceAdd, Nat.reduceSub, Nat.reduceLT, Nat.reduceLeDiff, Nat.reduceEqDiff, Nat.reduceMul, Nat.reducePow, Nat.add_one_ne_zero, Nat.add_one_sub_one, Nat.add_zero, Nat.zero_add, Int.reduceLT, Int.reduceLE, Int.reduceNeg, Int.reduceAdd, Int.reduceSub, Int.reduceToNat, Int.reduceEq, Int.reduceMul, Int.reducePow, Int.cast_ofNat_Int, Int.toNat_natCast, ne_eq, Bool.false_eq_true, true_or, or_true, or_self, Nat.not_lt_zero, ite_e0, ite_e1, lc_lt, lc_ge, lc_gt, lc_le, lc_eq, Classical.not_not]
      with_reducible repeat' (first | (refine And.intro ?_ ?_) | intro _)
      all_goals try omega
      exact h00 (if_pos (Or.inl ⟨hg, hcc⟩))
    · have hcr := cr.resolve_left hcc
      obtain ⟨b1, b2, b3, b4, b5⟩ := W.cb (n := (ccP P n o).toNat) (by omega)
      have c0 := R.cable0 (n := (ccP P n o).toNat) (by omega)
      have c1 := R.cable1 (n := (ccP P n o).toNat) (by omega)
      have ce : ccP P n o + 1 - 1 = ccP P n o := by omega
      refine CC_vb ok14 (by decide) (sm3_ok G w) 60 [179] (Nat.le_of_ble_eq_true rfl) ?_
      simp -implicitDefEqProofs only [↓b14_0, ↓b14_17, ↓b14_29, ↓b14_33, ↓b14_34, ↓b14_41, ↓b14_46, ↓b14_49, ↓b14_56, ↓b14_62, ↓b14_64, ↓b14_73, ↓b14_84, ↓b14_91, ↓b14_100, ↓b14_109, ↓b14_115, ↓b14_117, ↓b14_122, ↓b14_124, ↓b14_145, ↓b14_156, ↓b14_159, ↓b14_169, ↓b14_208, ↓b14_222, ↓b14_179, ↓b14_194, ↓b14_215, b14_0, b14_17, b14_29, b14_33, b14_34, b14_41, b14_46, b14_49, b14_56, b14_62, b14_64, b14_73, b14_84, b14_91, b14_100, b14_109, b14_115, b14_117, b14_122, b14_124, b14_145, b14_156, b14_159, b14_169, b14_208, b14_222, b14_179, b14_194, b14_215, nLE0, layE1, layE4, layE3, hc, h22, rc, r22, s0, s1, wr, hg', ce, st, hd, c0, c1, n3_17, n3_39, I32, ↓xb, xb, ps, lpad, lat, aok2, rd2, aaok, aav, alok, alen, aok, akk, csum, isLg, cmpI, clsE, Option.elim, eq_self, List.mem_cons, List.not_mem_nil, or_false, false_or, List.append_nil, List.nil_append, List.cons_append, List.append_eq, List.replicate, List.length_cons, List.length_nil, List.map_cons, List.map_nil, ↓reduceIte, reduceCtorEq, if_true, if_false, true_and, and_true, false_and, and_false, and_self, not_true_eq_false, not_false_eq_true, forall_const, true_implies, false_implies, implies_true, Nat.reduceAdd, Nat.reduceSub, Nat.reduceLT, Nat.reduceLeDiff, Nat.reduceEqDiff, Nat.reduceMul, Nat.reducePow, Nat.add_one_ne_zero, Nat.add_one_sub_one, Nat.add_zero, Nat.zero_add, Int.reduceLT, Int.reduceLE, Int.reduceNeg, Int.reduceAdd, Int.reduceSub, Int.reduceToNat, Int.reduceEq, Int.reduceMul, Int.reducePow, Int.cast_ofNat_Int, Int.toNat_natCast, ne_eq, Bool.false_eq_true, true_or, or_true, or_self, Nat.not_lt_zero, ite_e0, ite_e1, lc_lt, lc_ge, lc_gt, lc_le, lc_eq, Classical.not_not]
      with_reducible repeat' (first | (refine And.intro ?_ ?_) | intro _)
      all_goals try omega
      · refine kc_tellG Ra trivial W ht (by omega) (by omega) (by omega) (by omega) (fun σ1 hw1 hs1 => ?_)
        obtain ⟨wf1, wf2⟩ := wfin σ1 hw1
        have s1' : same (SQ t ro) σ σ1 := (same.refl.put SQ_8).trans (same_81 hs1)
        simp -implicitDefEqProofs only [↓b14_0, ↓b14_17, ↓b14_29, ↓b14_33, ↓b14_34, ↓b14_41, ↓b14_46, ↓b14_49, ↓b14_56, ↓b14_62, ↓b14_64, ↓b14_73, ↓b14_84, ↓b14_91, ↓b14_100, ↓b14_109, ↓b14_115, ↓b14_117, ↓b14_122, ↓b14_124, ↓b14_145, ↓b14_156, ↓b14_159, ↓b14_169, ↓b14_208, ↓b14_222, ↓b14_179, ↓b14_194, ↓b14_215, b14_0, b14_17, b14_29, b14_33, b14_34, b14_41, b14_46, b14_49, b14_56, b14_62, b14_64, b14_73, b14_84, b14_91, b14_100, b14_109, b14_115, b14_117, b14_122, b14_124, b14_145, b14_156, b14_159, b14_169, b14_208, b14_222, b14_179, b14_194, b14_215, nLE0, layE1, layE4, layE3, hc, h22, rc, r22, n3_17, n3_39, I32, ↓xb, xb, ps, lpad, lat, aok2, rd2, aaok, aav, alok, alen, aok, akk, csum, isLg, cmpI, clsE, Option.elim, eq_self, List.mem_cons, List.not_mem_nil, or_false, false_or, List.append_nil, List.nil_append, List.cons_append, List.append_eq, List.replicate, List.length_cons, List.length_nil, List.map_cons, List.map_nil, ↓reduceIte, reduceCtorEq, if_true, if_false, true_and, and_true, false_and, and_false, and_self, not_true_eq_false, not_false_eq_true, forall_const, true_implies, false_implies, implies_true, Nat.reduceAdd, Nat.reduceSub, Nat.reduceLT, Nat.reduceLeDiff, Nat.reduceEqDiff, Nat.reduceMul, Nat.reducePow, Nat.add_one_ne_zero, Nat.add_one_sub_one, Nat.add_zero, Nat.zero_add, Int.reduceLT, Int.reduceLE, Int.reduceNeg, Int.reduceAdd, Int.reduceSub, Int.reduceToNat, Int.reduceEq, Int.reduceMul, Int.reducePow, Int.cast_ofNat_Int, Int.toNat_natCast, ne_eq, Bool.false_eq_true, true_or, or_true, or_self, Nat.not_lt_zero, ite_e0, ite_e1, lc_lt, lc_ge, lc_gt, lc_le, lc_eq, Classical.not_not]
        with_reducible repeat' (first | (refine And.intro ?_ ?_) | intro _)
        all_goals try omega
        refine (hU.sq ht hr s1').2 σ1 _ (k - 1) 17 (by omega) (fun _ _ _ _ => rfl) (Or.inr (Or.inr rfl)) (fun σ2 hs2 => ?_)
        rw [wf1]
        have tr : (t == ro) = false := by simp; omega
        have R2 : RT True σ2 t P := (Ra.keep hs1 (fun f _ => by simp [n8])).keep hs2 (fun f _ => by simp [tr])
        have st2 := R2.storeI (h := o) (c := P 10 n) (by omega) (by omega)
        have gv2 := R2.gaveI trivial (a := o) (b := P 9 n) (by omega) (by omega)
        have c12 := R2.cable1 (n := (ccP P n o).toNat) (by omega)
        have n17 : (17 : Int).toNat = 17 := rfl
        have gi : giP U P n o lack = min (moP U P n o lack) (max 0 (U.1 17 (wG P o (P 9 n) (P 10 n) (wN P n lack)))) := if_neg (by omega)
        have gw : w32 (min (min (min lack (P 8 (6 * o + P 10 n).toNat - U.2)) (P 25 (ccP P n o).toNat - P 26 (ccP P n o).toNat)) (max 0 (U.1 17 (wG P o (P 9 n) (P 10 n) (wN P n lack))))) = giP U P n o lack := by
          rw [gi, mo]; unfold w32; omega
        have gr : 0 ≤ giP U P n o lack ∧ giP U P n o lack ≤ 999 ∧ giP U P n o lack ≤ P 8 (6 * o + P 10 n).toNat := by
          rw [gi, mo]; omega
        simp -implicitDefEqProofs only [↓b14_0, ↓b14_17, ↓b14_29, ↓b14_33, ↓b14_34, ↓b14_41, ↓b14_46, ↓b14_49, ↓b14_56, ↓b14_62, ↓b14_64, ↓b14_73, ↓b14_84, ↓b14_91, ↓b14_100, ↓b14_109, ↓b14_115, ↓b14_117, ↓b14_122, ↓b14_124, ↓b14_145, ↓b14_156, ↓b14_159, ↓b14_169, ↓b14_208, ↓b14_222, ↓b14_179, ↓b14_194, ↓b14_215, b14_0, b14_17, b14_29, b14_33, b14_34, b14_41, b14_46, b14_49, b14_56, b14_62, b14_64, b14_73, b14_84, b14_91, b14_100, b14_109, b14_115, b14_117, b14_122, b14_124, b14_145, b14_156, b14_159, b14_169, b14_208, b14_222, b14_179, b14_194, b14_215, nLE0, layE1, layE4, layE3, hc, h22, rc, r22, hg', n17, gw, st2, gv2, c12, up_rd, n3_17, n3_39, I32, ↓xb, xb, ps, lpad, lat, aok2, rd2, aaok, aav, alok, alen, aok, akk, csum, isLg, cmpI, clsE, Option.elim, eq_self, List.mem_cons, List.not_mem_nil, or_false, false_or, List.append_nil, List.nil_append, List.cons_append, List.append_eq, List.replicate, List.length_cons, List.length_nil, List.map_cons, List.map_nil, ↓reduceIte, reduceCtorEq, if_true, if_false, true_and, and_true, false_and, and_false, and_self, not_true_eq_false, not_false_eq_true, forall_const, true_implies, false_implies, implies_true, Nat.reduceAdd, Nat.reduceSub, Nat.reduceLT, Nat.reduceLeDiff, Nat.reduceEqDiff, Nat.reduceMul, Nat.reducePow, Nat.add_one_ne_zero, Nat.add_one_sub_one, Nat.add_zero, Nat.zero_add, Int.reduceLT, Int.reduceLE, Int.reduceNeg, Int.reduceAdd, Int.reduceSub, Int.reduceToNat, Int.reduceEq, Int.reduceMul, Int.reducePow, Int.cast_ofNat_Int, Int.toNat_natCast, ne_eq, Bool.false_eq_true, true_or, or_true, or_self, Nat.not_lt_zero, ite_e0, ite_e1, lc_lt, lc_ge, lc_gt, lc_le, lc_eq, Classical.not_not]
        with_reducible repeat' (first | (refine And.intro ?_ ?_) | intro _)
        all_goals try omega
        refine TT_vn ok14 (sm3_ok G w) 20 10 [194] ?_
        simp -implicitDefEqProofs only [↓b14_0, ↓b14_17, ↓b14_29, ↓b14_33, ↓b14_34, ↓b14_41, ↓b14_46, ↓b14_49, ↓b14_56, ↓b14_62, ↓b14_64, ↓b14_73, ↓b14_84, ↓b14_91, ↓b14_100, ↓b14_109, ↓b14_115, ↓b14_117, ↓b14_122, ↓b14_124, ↓b14_145, ↓b14_156, ↓b14_159, ↓b14_169, ↓b14_208, ↓b14_222, ↓b14_179, ↓b14_194, ↓b14_215, b14_0, b14_17, b14_29, b14_33, b14_34, b14_41, b14_46, b14_49, b14_56, b14_62, b14_64, b14_73, b14_84, b14_91, b14_100, b14_109, b14_115, b14_117, b14_122, b14_124, b14_145, b14_156, b14_159, b14_169, b14_208, b14_222, b14_179, b14_194, b14_215, nLE0, layE1, layE4, layE3, hc, h22, rc, r22, hg', n17, gw, st2, gv2, c12, up_rd, n3_17, n3_39, I32, ↓xb, xb, ps, lpad, lat, aok2, rd2, aaok, aav, alok, alen, aok, akk, csum, isLg, cmpI, clsE, Option.elim, eq_self, List.mem_cons, List.not_mem_nil, or_false, false_or, List.append_nil, List.nil_append, List.cons_append, List.append_eq, List.replicate, List.length_cons, List.length_nil, List.map_cons, List.map_nil, ↓reduceIte, reduceCtorEq, if_true, if_false, true_and, and_true, false_and, and_false, and_self, not_true_eq_false, not_false_eq_true, forall_const, true_implies, false_implies, implies_true, Nat.reduceAdd, Nat.reduceSub, Nat.reduceLT, Nat.reduceLeDiff, Nat.reduceEqDiff, Nat.reduceMul, Nat.reducePow, Nat.add_one_ne_zero, Nat.add_one_sub_one, Nat.add_zero, Nat.zero_add, Int.reduceLT, Int.reduceLE, Int.reduceNeg, Int.reduceAdd, Int.reduceSub, Int.reduceToNat, Int.reduceEq, Int.reduceMul, Int.reducePow, Int.cast_ofNat_Int, Int.toNat_natCast, ne_eq, Bool.false_eq_true, true_or, or_true, or_self, Nat.not_lt_zero, ite_e0, ite_e1, lc_lt, lc_ge, lc_gt, lc_le, lc_eq, Classical.not_not]
        with_reducible repeat' (first | (refine And.intro ?_ ?_) | intro _)
        all_goals try omega
        refine TT_vn ok14 (sm3_ok G w) 20 9 [215] ?_
        simp -implicitDefEqProofs only [↓b14_0, ↓b14_17, ↓b14_29, ↓b14_33, ↓b14_34, ↓b14_41, ↓b14_46, ↓b14_49, ↓b14_56, ↓b14_62, ↓b14_64, ↓b14_73, ↓b14_84, ↓b14_91, ↓b14_100, ↓b14_109, ↓b14_115, ↓b14_117, ↓b14_122, ↓b14_124, ↓b14_145, ↓b14_156, ↓b14_159, ↓b14_169, ↓b14_208, ↓b14_222, ↓b14_179, ↓b14_194, ↓b14_215, b14_0, b14_17, b14_29, b14_33, b14_34, b14_41, b14_46, b14_49, b14_56, b14_62, b14_64, b14_73, b14_84, b14_91, b14_100, b14_109, b14_115, b14_117, b14_122, b14_124, b14_145, b14_156, b14_159, b14_169, b14_208, b14_222, b14_179, b14_194, b14_215, nLE0, layE1, layE4, layE3, hc, h22, rc, r22, hg', n17, gw, st2, gv2, c12, up_rd, n3_17, n3_39, I32, ↓xb, xb, ps, lpad, lat, aok2, rd2, aaok, aav, alok, alen, aok, akk, csum, isLg, cmpI, clsE, Option.elim, eq_self, List.mem_cons, List.not_mem_nil, or_false, false_or, List.append_nil, List.nil_append, List.cons_append, List.append_eq, List.replicate, List.length_cons, List.length_nil, List.map_cons, List.map_nil, ↓reduceIte, reduceCtorEq, if_true, if_false, true_and, and_true, false_and, and_false, and_self, not_true_eq_false, not_false_eq_true, forall_const, true_implies, false_implies, implies_true, Nat.reduceAdd, Nat.reduceSub, Nat.reduceLT, Nat.reduceLeDiff, Nat.reduceEqDiff, Nat.reduceMul, Nat.reducePow, Nat.add_one_ne_zero, Nat.add_one_sub_one, Nat.add_zero, Nat.zero_add, Int.reduceLT, Int.reduceLE, Int.reduceNeg, Int.reduceAdd, Int.reduceSub, Int.reduceToNat, Int.reduceEq, Int.reduceMul, Int.reducePow, Int.cast_ofNat_Int, Int.toNat_natCast, ne_eq, Bool.false_eq_true, true_or, or_true, or_self, Nat.not_lt_zero, ite_e0, ite_e1, lc_lt, lc_ge, lc_gt, lc_le, lc_eq, Classical.not_not]
        with_reducible repeat' (first | (refine And.intro ?_ ?_) | intro _)
        all_goals try omega
        refine TT_vn ok14 (sm3_ok G w) 20 6 [] ?_
        simp -implicitDefEqProofs only [↓b14_0, ↓b14_17, ↓b14_29, ↓b14_33, ↓b14_34, ↓b14_41, ↓b14_46, ↓b14_49, ↓b14_56, ↓b14_62, ↓b14_64, ↓b14_73, ↓b14_84, ↓b14_91, ↓b14_100, ↓b14_109, ↓b14_115, ↓b14_117, ↓b14_122, ↓b14_124, ↓b14_145, ↓b14_156, ↓b14_159, ↓b14_169, ↓b14_208, ↓b14_222, ↓b14_179, ↓b14_194, ↓b14_215, b14_0, b14_17, b14_29, b14_33, b14_34, b14_41, b14_46, b14_49, b14_56, b14_62, b14_64, b14_73, b14_84, b14_91, b14_100, b14_109, b14_115, b14_117, b14_122, b14_124, b14_145, b14_156, b14_159, b14_169, b14_208, b14_222, b14_179, b14_194, b14_215, nLE0, layE1, layE4, layE3, hc, h22, rc, r22, hg', n17, gw, st2, gv2, c12, up_rd, n3_17, n3_39, I32, ↓xb, xb, ps, lpad, lat, aok2, rd2, aaok, aav, alok, alen, aok, akk, csum, isLg, cmpI, clsE, Option.elim, eq_self, List.mem_cons, List.not_mem_nil, or_false, false_or, List.append_nil, List.nil_append, List.cons_append, List.append_eq, List.replicate, List.length_cons, List.length_nil, List.map_cons, List.map_nil, ↓reduceIte, reduceCtorEq, if_true, if_false, true_and, and_true, false_and, and_false, and_self, not_true_eq_false, not_false_eq_true, forall_const, true_implies, false_implies, implies_true, Nat.reduceAdd, Nat.reduceSub, Nat.reduceLT, Nat.reduceLeDiff, Nat.reduceEqDiff, Nat.reduceMul, Nat.reducePow, Nat.add_one_ne_zero, Nat.add_one_sub_one, Nat.add_zero, Nat.zero_add, Int.reduceLT, Int.reduceLE, Int.reduceNeg, Int.reduceAdd, Int.reduceSub, Int.reduceToNat, Int.reduceEq, Int.reduceMul, Int.reducePow, Int.cast_ofNat_Int, Int.toNat_natCast, ne_eq, Bool.false_eq_true, true_or, or_true, or_self, Nat.not_lt_zero, ite_e0, ite_e1, lc_lt, lc_ge, lc_gt, lc_le, lc_eq, Classical.not_not]
        with_reducible repeat' (first | (refine And.intro ?_ ?_) | intro _)
        all_goals try omega
        refine q _ ?_ ?_ (fun i hi h8 => ?_)
        rotate_left
        · exact ((((s1'.trans (same_r9 hs2)).put (SQ_t (by omega))).put (SQ_t (by omega))).put (SQ_t (by omega)))
        rotate_left
        · unfold gvP
          rw [if_pos hg]
          exact ((R2.u_storeI (by omega) (by omega)).u_gaveI (by omega) (by omega)).u_cable1 (by omega)
        · rw [← wf2 i hi h8]
          unfold wd
          simp only [up_rd, n8', false_and, if_false]
          rw [if_pos (by omega), if_pos (by omega)]
          exact hs2 8 1 (by simp [m8']) 0 i
      · refine h00 (if_pos (Or.inr (Or.inr ?_)))
        rw [mo]; omega
  · have hg' := eq_false hg
    have mo : moP U P n o lack = min lack (P 8 (6 * o + P 10 n).toNat - U.2) := if_neg hg
    have tb := W.ti (n := (12 * o + P 9 n).toNat) (by omega)
    refine CC_vb ok14 (by decide) (sm3_ok G w) 60 [179] (Nat.le_of_ble_eq_true rfl) ?_
    simp -implicitDefEqProofs only [↓b14_0, ↓b14_17, ↓b14_29, ↓b14_33, ↓b14_34, ↓b14_41, ↓b14_46, ↓b14_49, ↓b14_56, ↓b14_62, ↓b14_64, ↓b14_73, ↓b14_84, ↓b14_91, ↓b14_100, ↓b14_109, ↓b14_115, ↓b14_117, ↓b14_122, ↓b14_124, ↓b14_145, ↓b14_156, ↓b14_159, ↓b14_169, ↓b14_208, ↓b14_222, ↓b14_179, ↓b14_194, ↓b14_215, b14_0, b14_17, b14_29, b14_33, b14_34, b14_41, b14_46, b14_49, b14_56, b14_62, b14_64, b14_73, b14_84, b14_91, b14_100, b14_109, b14_115, b14_117, b14_122, b14_124, b14_145, b14_156, b14_159, b14_169, b14_208, b14_222, b14_179, b14_194, b14_215, nLE0, layE1, layE4, layE3, hc, h22, rc, r22, s0, s1, wr, hg', st, hd, ti, n3_17, n3_39, I32, ↓xb, xb, ps, lpad, lat, aok2, rd2, aaok, aav, alok, alen, aok, akk, csum, isLg, cmpI, clsE, Option.elim, eq_self, List.mem_cons, List.not_mem_nil, or_false, false_or, List.append_nil, List.nil_append, List.cons_append, List.append_eq, List.replicate, List.length_cons, List.length_nil, List.map_cons, List.map_nil, ↓reduceIte, reduceCtorEq, if_true, if_false, true_and, and_true, false_and, and_false, and_self, not_true_eq_false, not_false_eq_true, forall_const, true_implies, false_implies, implies_true, Nat.reduceAdd, Nat.reduceSub, Nat.reduceLT, Nat.reduceLeDiff, Nat.reduceEqDiff, Nat.reduceMul, Nat.reducePow, Nat.add_one_ne_zero, Nat.add_one_sub_one, Nat.add_zero, Nat.zero_add, Int.reduceLT, Int.reduceLE, Int.reduceNeg, Int.reduceAdd, Int.reduceSub, Int.reduceToNat, Int.reduceEq, Int.reduceMul, Int.reducePow, Int.cast_ofNat_Int, Int.toNat_natCast, ne_eq, Bool.false_eq_true, true_or, or_true, or_self, Nat.not_lt_zero, ite_e0, ite_e1, lc_lt, lc_ge, lc_gt, lc_le, lc_eq, Classical.not_not]
    with_reducible repeat' (first | (refine And.intro ?_ ?_) | intro _)
    all_goals try omega
    · refine kc_tellG Ra trivial W ht (by omega) (by omega) (by omega) (by omega) (fun σ1 hw1 hs1 => ?_)
      obtain ⟨wf1, wf2⟩ := wfin σ1 hw1
      have s1' : same (SQ t ro) σ σ1 := (same.refl.put SQ_8).trans (same_81 hs1)
      simp -implicitDefEqProofs only [↓b14_0, ↓b14_17, ↓b14_29, ↓b14_33, ↓b14_34, ↓b14_41, ↓b14_46, ↓b14_49, ↓b14_56, ↓b14_62, ↓b14_64, ↓b14_73, ↓b14_84, ↓b14_91, ↓b14_100, ↓b14_109, ↓b14_115, ↓b14_117, ↓b14_122, ↓b14_124, ↓b14_145, ↓b14_156, ↓b14_159, ↓b14_169, ↓b14_208, ↓b14_222, ↓b14_179, ↓b14_194, ↓b14_215, b14_0, b14_17, b14_29, b14_33, b14_34, b14_41, b14_46, b14_49, b14_56, b14_62, b14_64, b14_73, b14_84, b14_91, b14_100, b14_109, b14_115, b14_117, b14_122, b14_124, b14_145, b14_156, b14_159, b14_169, b14_208, b14_222, b14_179, b14_194, b14_215, nLE0, layE1, layE4, layE3, hc, h22, rc, r22, n3_17, n3_39, I32, ↓xb, xb, ps, lpad, lat, aok2, rd2, aaok, aav, alok, alen, aok, akk, csum, isLg, cmpI, clsE, Option.elim, eq_self, List.mem_cons, List.not_mem_nil, or_false, false_or, List.append_nil, List.nil_append, List.cons_append, List.append_eq, List.replicate, List.length_cons, List.length_nil, List.map_cons, List.map_nil, ↓reduceIte, reduceCtorEq, if_true, if_false, true_and, and_true, false_and, and_false, and_self, not_true_eq_false, not_false_eq_true, forall_const, true_implies, false_implies, implies_true, Nat.reduceAdd, Nat.reduceSub, Nat.reduceLT, Nat.reduceLeDiff, Nat.reduceEqDiff, Nat.reduceMul, Nat.reducePow, Nat.add_one_ne_zero, Nat.add_one_sub_one, Nat.add_zero, Nat.zero_add, Int.reduceLT, Int.reduceLE, Int.reduceNeg, Int.reduceAdd, Int.reduceSub, Int.reduceToNat, Int.reduceEq, Int.reduceMul, Int.reducePow, Int.cast_ofNat_Int, Int.toNat_natCast, ne_eq, Bool.false_eq_true, true_or, or_true, or_self, Nat.not_lt_zero, ite_e0, ite_e1, lc_lt, lc_ge, lc_gt, lc_le, lc_eq, Classical.not_not]
      with_reducible repeat' (first | (refine And.intro ?_ ?_) | intro _)
      all_goals try omega
      refine (hU.sq ht hr s1').2 σ1 _ (k - 1) 17 (by omega) (fun _ _ _ _ => rfl) (Or.inr (Or.inr rfl)) (fun σ2 hs2 => ?_)
      rw [wf1]
      have tr : (t == ro) = false := by simp; omega
      have R2 : RT True σ2 t P := (Ra.keep hs1 (fun f _ => by simp [n8])).keep hs2 (fun f _ => by simp [tr])
      have st2 := R2.storeI (h := o) (c := P 10 n) (by omega) (by omega)
      have gv2 := R2.gaveI trivial (a := o) (b := P 9 n) (by omega) (by omega)
      have n17 : (17 : Int).toNat = 17 := rfl
      have gi : giP U P n o lack = min (moP U P n o lack) (max 0 (U.1 17 (wG P o (P 9 n) (P 10 n) (wN P n lack)))) := if_neg (by omega)
      have gw : w32 (min (min lack (P 8 (6 * o + P 10 n).toNat - U.2)) (max 0 (U.1 17 (wG P o (P 9 n) (P 10 n) (wN P n lack))))) = giP U P n o lack := by
        rw [gi, mo]; unfold w32; omega
      have gr : 0 ≤ giP U P n o lack ∧ giP U P n o lack ≤ 999 ∧ giP U P n o lack ≤ P 8 (6 * o + P 10 n).toNat := by
        rw [gi, mo]; omega
      simp -implicitDefEqProofs only [↓b14_0, ↓b14_17, ↓b14_29, ↓b14_33, ↓b14_34, ↓b14_41, ↓b14_46, ↓b14_49, ↓b14_56, ↓b14_62, ↓b14_64, ↓b14_73, ↓b14_84, ↓b14_91, ↓b14_100, ↓b14_109, ↓b14_115, ↓b14_117, ↓b14_122, ↓b14_124, ↓b14_145, ↓b14_156, ↓b14_159, ↓b14_169, ↓b14_208, ↓b14_222, ↓b14_179, ↓b14_194, ↓b14_215, b14_0, b14_17, b14_29, b14_33, b14_34, b14_41, b14_46, b14_49, b14_56, b14_62, b14_64, b14_73, b14_84, b14_91, b14_100, b14_109, b14_115, b14_117, b14_122, b14_124, b14_145, b14_156, b14_159, b14_169, b14_208, b14_222, b14_179, b14_194, b14_215, nLE0, layE1, layE4, layE3, hc, h22, rc, r22, hg', n17, gw, st2, gv2, up_rd, n3_17, n3_39, I32, ↓xb, xb, ps, lpad, lat, aok2, rd2, aaok, aav, alok, alen, aok, akk, csum, isLg, cmpI, clsE, Option.elim, eq_self, List.mem_cons, List.not_mem_nil, or_false, false_or, List.append_nil, List.nil_append, List.cons_append, List.append_eq, List.replicate, List.length_cons, List.length_nil, List.map_cons, List.map_nil, ↓reduceIte, reduceCtorEq, if_true, if_false, true_and, and_true, false_and, and_false, and_self, not_true_eq_false, not_false_eq_true, forall_const, true_implies, false_implies, implies_true, Nat.reduceAdd, Nat.reduceSub, Nat.reduceLT, Nat.reduceLeDiff, Nat.reduceEqDiff, Nat.reduceMul, Nat.reducePow, Nat.add_one_ne_zero, Nat.add_one_sub_one, Nat.add_zero, Nat.zero_add, Int.reduceLT, Int.reduceLE, Int.reduceNeg, Int.reduceAdd, Int.reduceSub, Int.reduceToNat, Int.reduceEq, Int.reduceMul, Int.reducePow, Int.cast_ofNat_Int, Int.toNat_natCast, ne_eq, Bool.false_eq_true, true_or, or_true, or_self, Nat.not_lt_zero, ite_e0, ite_e1, lc_lt, lc_ge, lc_gt, lc_le, lc_eq, Classical.not_not]
      with_reducible repeat' (first | (refine And.intro ?_ ?_) | intro _)
      all_goals try omega
      refine TT_vn ok14 (sm3_ok G w) 20 10 [194] ?_
      simp -implicitDefEqProofs only [↓b14_0, ↓b14_17, ↓b14_29, ↓b14_33, ↓b14_34, ↓b14_41, ↓b14_46, ↓b14_49, ↓b14_56, ↓b14_62, ↓b14_64, ↓b14_73, ↓b14_84, ↓b14_91, ↓b14_100, ↓b14_109, ↓b14_115, ↓b14_117, ↓b14_122, ↓b14_124, ↓b14_145, ↓b14_156, ↓b14_159, ↓b14_169, ↓b14_208, ↓b14_222, ↓b14_179, ↓b14_194, ↓b14_215, b14_0, b14_17, b14_29, b14_33, b14_34, b14_41, b14_46, b14_49, b14_56, b14_62, b14_64, b14_73, b14_84, b14_91, b14_100, b14_109, b14_115, b14_117, b14_122, b14_124, b14_145, b14_156, b14_159, b14_169, b14_208, b14_222, b14_179, b14_194, b14_215, nLE0, layE1, layE4, layE3, hc, h22, rc, r22, hg', n17, gw, st2, gv2, up_rd, n3_17, n3_39, I32, ↓xb, xb, ps, lpad, lat, aok2, rd2, aaok, aav, alok, alen, aok, akk, csum, isLg, cmpI, clsE, Option.elim, eq_self, List.mem_cons, List.not_mem_nil, or_false, false_or, List.append_nil, List.nil_append, List.cons_append, List.append_eq, List.replicate, List.length_cons, List.length_nil, List.map_cons, List.map_nil, ↓reduceIte, reduceCtorEq, if_true, if_false, true_and, and_true, false_and, and_false, and_self, not_true_eq_false, not_false_eq_true, forall_const, true_implies, false_implies, implies_true, Nat.reduceAdd, Nat.reduceSub, Nat.reduceLT, Nat.reduceLeDiff, Nat.reduceEqDiff, Nat.reduceMul, Nat.reducePow, Nat.add_one_ne_zero, Nat.add_one_sub_one, Nat.add_zero, Nat.zero_add, Int.reduceLT, Int.reduceLE, Int.reduceNeg, Int.reduceAdd, Int.reduceSub, Int.reduceToNat, Int.reduceEq, Int.reduceMul, Int.reducePow, Int.cast_ofNat_Int, Int.toNat_natCast, ne_eq, Bool.false_eq_true, true_or, or_true, or_self, Nat.not_lt_zero, ite_e0, ite_e1, lc_lt, lc_ge, lc_gt, lc_le, lc_eq, Classical.not_not]
      with_reducible repeat' (first | (refine And.intro ?_ ?_) | intro _)
      all_goals try omega
      refine TT_vn ok14 (sm3_ok G w) 20 9 [215] ?_
      simp -implicitDefEqProofs only [↓b14_0, ↓b14_17, ↓b14_29, ↓b14_33, ↓b14_34, ↓b14_41, ↓b14_46, ↓b14_49, ↓b14_56, ↓b14_62, ↓b14_64, ↓b14_73, ↓b14_84, ↓b14_91, ↓b14_100, ↓b14_109, ↓b14_115, ↓b14_117, ↓b14_122, ↓b14_124, ↓b14_145, ↓b14_156, ↓b14_159, ↓b14_169, ↓b14_208, ↓b14_222, ↓b14_179, ↓b14_194, ↓b14_215, b14_0, b14_17, b14_29, b14_33, b14_34, b14_41, b14_46, b14_49, b14_56, b14_62, b14_64, b14_73, b14_84, b14_91, b14_100, b14_109, b14_115, b14_117, b14_122, b14_124, b14_145, b14_156, b14_159, b14_169, b14_208, b14_222, b14_179, b14_194, b14_215, nLE0, layE1, layE4, layE3, hc, h22, rc, r22, hg', n17, gw, st2, gv2, up_rd, n3_17, n3_39, I32, ↓xb, xb, ps, lpad, lat, aok2, rd2, aaok, aav, alok, alen, aok, akk, csum, isLg, cmpI, clsE, Option.elim, eq_self, List.mem_cons, List.not_mem_nil, or_false, false_or, List.append_nil, List.nil_append, List.cons_append, List.append_eq, List.replicate, List.length_cons, List.length_nil, List.map_cons, List.map_nil, ↓reduceIte, reduceCtorEq, if_true, if_false, true_and, and_true, false_and, and_false, and_self, not_true_eq_false, not_false_eq_true, forall_const, true_implies, false_implies, implies_true, Nat.reduceAdd, Nat.reduceSub, Nat.reduceLT, Nat.reduceLeDiff, Nat.reduceEqDiff, Nat.reduceMul, Nat.reducePow, Nat.add_one_ne_zero, Nat.add_one_sub_one, Nat.add_zero, Nat.zero_add, Int.reduceLT, Int.reduceLE, Int.reduceNeg, Int.reduceAdd, Int.reduceSub, Int.reduceToNat, Int.reduceEq, Int.reduceMul, Int.reducePow, Int.cast_ofNat_Int, Int.toNat_natCast, ne_eq, Bool.false_eq_true, true_or, or_true, or_self, Nat.not_lt_zero, ite_e0, ite_e1, lc_lt, lc_ge, lc_gt, lc_le, lc_eq, Classical.not_not]
      with_reducible repeat' (first | (refine And.intro ?_ ?_) | intro _)
      all_goals try omega
      refine q _ ?_ ?_ (fun i hi h8 => ?_)
      rotate_left
      · exact (((s1'.trans (same_r9 hs2)).put (SQ_t (by omega))).put (SQ_t (by omega)))
      rotate_left
      · unfold gvP
        rw [if_neg hg]
        exact (R2.u_storeI (by omega) (by omega)).u_gaveI (by omega) (by omega)
      · rw [← wf2 i hi h8]
        unfold wd
        simp only [up_rd, n8', false_and, if_false]
        rw [if_pos (by omega), if_pos (by omega)]
        exact hs2 8 1 (by simp [m8']) 0 i
    · refine h00 (if_pos (Or.inr (Or.inr ?_)))
      rw [mo]; omega
    · exact h00 (if_pos (Or.inr (Or.inl ⟨hg, by assumption⟩)))
end TKE

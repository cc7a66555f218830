/-! 50.hear2: knows, parts (both) -/
theorem bO_mono {P : Pt} (W : WF P) {X : Nat} : ∀ (m i : Nat) (B : BHT), BI P B → B.1 X = 1 → (bO P m i B).1 X = 1
  | 0, i, B, _, h => h
  | m + 1, i, B, I, h => by
    have w1 := W.sc.1
    show (if i < B.2.2.2 then bO P m (i + 1) (iter (bS P i) (P 2 0).toNat B) else B).1 X = 1
    split
    · rename_i hi
      refine bO_mono W m (i + 1) _ (bR_inv W I hi (P 2 0).toNat (by omega)).1 ?_
      refine iter_inv (st := bS P i) (I := fun _ (B' : BHT) => B'.1 X = 1) h (fun j b _ hb => ?_)
      unfold bS
      split
      · show upd1 b.1 j 1 X = 1
        unfold upd1; split
        · rfl
        · exact hb
      · exact hb
    · exact h
/-- groups without one -/
def grS (P : Pt) (h : Nat) (a : (Nat → Int) × Int) : (Nat → Int) × Int := if a.1 h = 0 then ((bF P a.1 h).1, a.2 + 1) else a
def gr0 (wo : Int) : Nat → Int := fun h => if (h : Int) = wo then 1 else 0
def grP (P : Pt) (wo : Int) (n : Nat) : (Nat → Int) × Int := iter (grS P) n (gr0 wo, 0)
theorem gr_inv {P : Pt} (W : WF P) {wo : Int} (n : Nat) (hn : (n : Int) ≤ P 2 0) : (∀ h, (grP P wo n).1 h = 0 ∨ (grP P wo n).1 h = 1) ∧ (∀ h : Nat, (h : Int) = wo → (grP P wo n).1 h = 1) ∧ 0 ≤ (grP P wo n).2 ∧ (grP P wo n).2 ≤ n := by
  refine iter_inv (st := grS P) (I := fun n a => (∀ h, a.1 h = 0 ∨ a.1 h = 1) ∧ (∀ h : Nat, (h : Int) = wo → a.1 h = 1) ∧ 0 ≤ a.2 ∧ a.2 ≤ (n : Nat)) ⟨fun h => ?_, fun h e => if_pos e, by simp, by simp⟩ (fun j b hj hb => ?_)
  · show gr0 wo h = 0 ∨ gr0 wo h = 1
    unfold gr0; split
    · exact Or.inr rfl
    · exact Or.inl rfl
  · obtain ⟨b1, b2, b3, b4⟩ := hb
    unfold grS
    split
    · rename_i h0
      have I0 := b0_inv W b1 h0 (show (j : Int) < P 2 0 by omega)
      have I := bO_inv W 12 0 _ I0
      refine ⟨I.2.2.2, fun h e => ?_, by show 0 ≤ b.2 + 1; omega, by show b.2 + 1 ≤ _; omega⟩
      refine bO_mono W 12 0 _ I0 ?_
      show upd1 b.1 j 1 h = 1
      unfold upd1; split
      · rfl
      · exact b2 h e
    · exact ⟨b1, b2, b3, by omega⟩
def gnP (P : Pt) (wo : Int) : Int := (grP P wo (P 2 0).toNat).2
section HR2
variable {G : Gl} {w : Wd} {k : Nat} {σ : Mem} {Q : Option AV → Mem → Prop} {P : Pt}
set_option maxRecDepth 100000 in
set_option maxHeartbeats 1000000 in
theorem kx_hr_o (M : MR σ P) (W : WF P) (hk : 8 ≤ k) {v1 wo : Int} {Bf : BHT}
    (q : ∀ (σ' : Mem), RBx σ' wo Bf → same Shx σ σ' → Q (some (vi (Bf.2.2.2 : Int))) σ') :
    ∀ (m : Nat) (i : Nat) (B : BHT) (σ' : Mem) (l5 l6 : Option AV), i + m = 12 → BI P B → Bf = bO P m i B → RBx σ' wo B → (∀ h' : Nat, h' < 12 → (h' : Int) = wo → B.1 h' = 1) → same Shx σ σ' → TT G w w w k (0, 0) 237 19 [some (vr 21 0 0), some (vi v1), some (vi wo), some (vi (B.2.2.2 : Int)), some (vi (i : Int)), l5, l6] [] σ' Q
  | 0, i, B, σ', l5, l6, h0, I, e, rb, hw, hs => by
    obtain ⟨i1, i2, i3, i4⟩ := I
    have eB : Bf = B := e
    subst eB
    refine TT_vb ok237 (sm3_ok G w) 60 [19, 28] ?_
    simp -implicitDefEqProofs only [↓b237_0, ↓b237_19, ↓b237_25, ↓b237_28, ↓b237_39, ↓b237_60, ↓b237_81, ↓b237_85, ↓b237_86, ↓b237_93, ↓b237_99, ↓b237_110, ↓b237_142, ↓b237_148, ↓b237_154, b237_0, b237_19, b237_25, b237_28, b237_39, b237_60, b237_81, b237_85, b237_86, b237_93, b237_99, b237_110, b237_142, b237_148, b237_154, nLE4, layE8, h0, I32, ↓xb, xb, ps, lpad, lat, aok2, rd2, aaok, aav, alok, alen, aok, akk, csum, isLg, cmpI, clsE, Option.elim, eq_self, List.mem_cons, List.not_mem_nil, or_false, false_or, List.append_nil, List.nil_append, List.cons_append, List.append_eq, List.replicate, List.length_cons, List.length_nil, List.map_cons, List.map_nil, ↓reduceIte, reduceCtorEq, if_true, if_false, true_and, and_true, false_and, and_false, and_self, not_true_eq_false, not_false_eq_true, forall_const, true_implies, false_implies, implies_true, Nat.reduceAdd, Nat.reduceSub, Nat.reduceLT, Nat.reduceLeDiff, Nat.reduceEqDiff, Nat.reduceMul, Nat.reducePow, Nat.add_one_ne_zero, Nat.add_one_sub_one, Nat.add_zero, Nat.zero_add, Int.reduceLT, Int.reduceLE, Int.reduceNeg, Int.reduceAdd, Int.reduceSub, Int.reduceToNat, Int.reduceEq, Int.reduceMul, Int.reducePow, Int.cast_ofNat_Int, Int.toNat_natCast, ne_eq, Bool.false_eq_true, true_or, or_true, or_self, Nat.not_lt_zero, ite_e0, ite_e1, lc_lt, lc_ge, lc_gt, lc_le, lc_eq, Classical.not_not]
    with_reducible repeat' (first | (refine And.intro ?_ ?_) | intro _)
    all_goals try omega
    all_goals first | omega | exact q σ' rb hs
  | m + 1, i, B, σ', l5, l6, h0, I, e, rb, hw, hs => by
    have ih := kx_hr_o M W hk (v1 := v1) q m (i + 1)
    have w1 := W.sc.1
    have I2 := I
    obtain ⟨i1, i2, i3, i4⟩ := I2
    by_cases hi : i < B.2.2.2
    · have e' : Bf = bO P m (i + 1) (iter (bS P i) (P 2 0).toNat B) := by
        rw [e]; exact if_pos hi
      refine TT_vb ok237 (sm3_ok G w) 60 [19, 28] ?_
      simp -implicitDefEqProofs only [↓b237_0, ↓b237_19, ↓b237_25, ↓b237_28, ↓b237_39, ↓b237_60, ↓b237_81, ↓b237_85, ↓b237_86, ↓b237_93, ↓b237_99, ↓b237_110, ↓b237_142, ↓b237_148, ↓b237_154, b237_0, b237_19, b237_25, b237_28, b237_39, b237_60, b237_81, b237_85, b237_86, b237_93, b237_99, b237_110, b237_142, b237_148, b237_154, nLE4, layE8, h0, I32, ↓xb, xb, ps, lpad, lat, aok2, rd2, aaok, aav, alok, alen, aok, akk, csum, isLg, cmpI, clsE, Option.elim, eq_self, List.mem_cons, List.not_mem_nil, or_false, false_or, List.append_nil, List.nil_append, List.cons_append, List.append_eq, List.replicate, List.length_cons, List.length_nil, List.map_cons, List.map_nil, ↓reduceIte, reduceCtorEq, if_true, if_false, true_and, and_true, false_and, and_false, and_self, not_true_eq_false, not_false_eq_true, forall_const, true_implies, false_implies, implies_true, Nat.reduceAdd, Nat.reduceSub, Nat.reduceLT, Nat.reduceLeDiff, Nat.reduceEqDiff, Nat.reduceMul, Nat.reducePow, Nat.add_one_ne_zero, Nat.add_one_sub_one, Nat.add_zero, Nat.zero_add, Int.reduceLT, Int.reduceLE, Int.reduceNeg, Int.reduceAdd, Int.reduceSub, Int.reduceToNat, Int.reduceEq, Int.reduceMul, Int.reducePow, Int.cast_ofNat_Int, Int.toNat_natCast, ne_eq, Bool.false_eq_true, true_or, or_true, or_self, Nat.not_lt_zero, ite_e0, ite_e1, lc_lt, lc_ge, lc_gt, lc_le, lc_eq, Classical.not_not]
      with_reducible repeat' (first | (refine And.intro ?_ ?_) | intro _)
      all_goals try omega
      all_goals first | omega | skip
      have M' : MR σ' P := M.keep hs (fun f a b => by
        show ((21 : Nat) == 21 && (f == 71 || f == 74)) = false
        simp; omega)
      refine kx_hr_i M' W hk (v1 := v1) I hi hw (fun σ2 l5 l6 rb2 hs2 => ?_) 13 0 σ' _ (by omega) (by omega) (by omega) rb hw same.refl
      refine TT_vb ok237 (sm3_ok G w) 60 [19] ?_
      simp -implicitDefEqProofs only [↓b237_0, ↓b237_19, ↓b237_25, ↓b237_28, ↓b237_39, ↓b237_60, ↓b237_81, ↓b237_85, ↓b237_86, ↓b237_93, ↓b237_99, ↓b237_110, ↓b237_142, ↓b237_148, ↓b237_154, b237_0, b237_19, b237_25, b237_28, b237_39, b237_60, b237_81, b237_85, b237_86, b237_93, b237_99, b237_110, b237_142, b237_148, b237_154, nLE4, layE8, h0, I32, ↓xb, xb, ps, lpad, lat, aok2, rd2, aaok, aav, alok, alen, aok, akk, csum, isLg, cmpI, clsE, Option.elim, eq_self, List.mem_cons, List.not_mem_nil, or_false, false_or, List.append_nil, List.nil_append, List.cons_append, List.append_eq, List.replicate, List.length_cons, List.length_nil, List.map_cons, List.map_nil, ↓reduceIte, reduceCtorEq, if_true, if_false, true_and, and_true, false_and, and_false, and_self, not_true_eq_false, not_false_eq_true, forall_const, true_implies, false_implies, implies_true, Nat.reduceAdd, Nat.reduceSub, Nat.reduceLT, Nat.reduceLeDiff, Nat.reduceEqDiff, Nat.reduceMul, Nat.reducePow, Nat.add_one_ne_zero, Nat.add_one_sub_one, Nat.add_zero, Nat.zero_add, Int.reduceLT, Int.reduceLE, Int.reduceNeg, Int.reduceAdd, Int.reduceSub, Int.reduceToNat, Int.reduceEq, Int.reduceMul, Int.reducePow, Int.cast_ofNat_Int, Int.toNat_natCast, ne_eq, Bool.false_eq_true, true_or, or_true, or_self, Nat.not_lt_zero, ite_e0, ite_e1, lc_lt, lc_ge, lc_gt, lc_le, lc_eq, Classical.not_not]
      with_reducible repeat' (first | (refine And.intro ?_ ?_) | intro _)
      all_goals try omega
      rw [show ((i : Nat) : Int) + 1 = ((i + 1 : Nat) : Int) by omega]
      refine ih _ σ2 _ _ (by omega) (bR_inv W I hi (P 2 0).toNat (by omega)).1 e' rb2 (fun h' a b => ?_) (hs.trans hs2)
      refine iter_inv (st := bS P i) (I := fun _ (B' : BHT) => B'.1 h' = 1) (hw h' a b) (fun j b _ hb => ?_)
      unfold bS
      split
      · show upd1 b.1 j 1 h' = 1
        unfold upd1; split
        · rfl
        · exact hb
      · exact hb
    · have eB : Bf = B := by rw [e]; exact if_neg hi
      subst eB
      refine TT_vb ok237 (sm3_ok G w) 60 [19, 28] ?_
      simp -implicitDefEqProofs only [↓b237_0, ↓b237_19, ↓b237_25, ↓b237_28, ↓b237_39, ↓b237_60, ↓b237_81, ↓b237_85, ↓b237_86, ↓b237_93, ↓b237_99, ↓b237_110, ↓b237_142, ↓b237_148, ↓b237_154, b237_0, b237_19, b237_25, b237_28, b237_39, b237_60, b237_81, b237_85, b237_86, b237_93, b237_99, b237_110, b237_142, b237_148, b237_154, nLE4, layE8, h0, I32, ↓xb, xb, ps, lpad, lat, aok2, rd2, aaok, aav, alok, alen, aok, akk, csum, isLg, cmpI, clsE, Option.elim, eq_self, List.mem_cons, List.not_mem_nil, or_false, false_or, List.append_nil, List.nil_append, List.cons_append, List.append_eq, List.replicate, List.length_cons, List.length_nil, List.map_cons, List.map_nil, ↓reduceIte, reduceCtorEq, if_true, if_false, true_and, and_true, false_and, and_false, and_self, not_true_eq_false, not_false_eq_true, forall_const, true_implies, false_implies, implies_true, Nat.reduceAdd, Nat.reduceSub, Nat.reduceLT, Nat.reduceLeDiff, Nat.reduceEqDiff, Nat.reduceMul, Nat.reducePow, Nat.add_one_ne_zero, Nat.add_one_sub_one, Nat.add_zero, Nat.zero_add, Int.reduceLT, Int.reduceLE, Int.reduceNeg, Int.reduceAdd, Int.reduceSub, Int.reduceToNat, Int.reduceEq, Int.reduceMul, Int.reducePow, Int.cast_ofNat_Int, Int.toNat_natCast, ne_eq, Bool.false_eq_true, true_or, or_true, or_self, Nat.not_lt_zero, ite_e0, ite_e1, lc_lt, lc_ge, lc_gt, lc_le, lc_eq, Classical.not_not]
      with_reducible repeat' (first | (refine And.intro ?_ ?_) | intro _)
      all_goals try omega
      all_goals first | omega | exact q σ' rb hs
set_option maxRecDepth 100000 in
set_option maxHeartbeats 1000000 in
theorem kx_hear (M : MR σ P) (W : WF P) (hk : 10 ≤ k) {wo : Int} {T : Nat → Int} (hT : ∀ h, T h = 0 ∨ T h = 1) (hm : ∀ h : Nat, h < 12 → (σ 21 74 0 h = -1 ↔ (T h = 0 ∨ (h : Int) = wo))) (hw : ∀ h : Nat, h < 12 → (h : Int) = wo → T h = 1) {h : Int} (hh : 0 ≤ h ∧ h < P 2 0) (h0 : T h.toNat = 0)
    (q : ∀ (σ' : Mem), RBx σ' wo (bF P T h.toNat) → same Shx σ σ' → Q (some (vi ((bF P T h.toNat).2.2.2 : Int))) σ') : CC G w w k (0, 0) 237 [vr 21 0 0, vi h, vi wo] σ Q := by
  have w1 := W.sc.1
  have hne : ¬ h = wo := fun e => by have := hw h.toNat (by omega) (by omega); omega
  refine CC_vb ok237 (by decide) (sm3_ok G w) 60 [19] (Nat.le_of_ble_eq_true rfl) ?_
  simp -implicitDefEqProofs only [↓b237_0, ↓b237_19, ↓b237_25, ↓b237_28, ↓b237_39, ↓b237_60, ↓b237_81, ↓b237_85, ↓b237_86, ↓b237_93, ↓b237_99, ↓b237_110, ↓b237_142, ↓b237_148, ↓b237_154, b237_0, b237_19, b237_25, b237_28, b237_39, b237_60, b237_81, b237_85, b237_86, b237_93, b237_99, b237_110, b237_142, b237_148, b237_154, nLE4, layE8, hk, I32, ↓xb, xb, ps, lpad, lat, aok2, rd2, aaok, aav, alok, alen, aok, akk, csum, isLg, cmpI, clsE, Option.elim, eq_self, List.mem_cons, List.not_mem_nil, or_false, false_or, List.append_nil, List.nil_append, List.cons_append, List.append_eq, List.replicate, List.length_cons, List.length_nil, List.map_cons, List.map_nil, ↓reduceIte, reduceCtorEq, if_true, if_false, true_and, and_true, false_and, and_false, and_self, not_true_eq_false, not_false_eq_true, forall_const, true_implies, false_implies, implies_true, Nat.reduceAdd, Nat.reduceSub, Nat.reduceLT, Nat.reduceLeDiff, Nat.reduceEqDiff, Nat.reduceMul, Nat.reducePow, Nat.add_one_ne_zero, Nat.add_one_sub_one, Nat.add_zero, Nat.zero_add, Int.reduceLT, Int.reduceLE, Int.reduceNeg, Int.reduceAdd, Int.reduceSub, Int.reduceToNat, Int.reduceEq, Int.reduceMul, Int.reducePow, Int.cast_ofNat_Int, Int.toNat_natCast, ne_eq, Bool.false_eq_true, true_or, or_true, or_self, Nat.not_lt_zero, ite_e0, ite_e1, lc_lt, lc_ge, lc_gt, lc_le, lc_eq, Classical.not_not]
  with_reducible repeat' (first | (refine And.intro ?_ ?_) | intro _)
  all_goals try omega
  refine kx_hr_o (σ := σ) M W (by omega) (v1 := h) q 12 0 (b0 T h.toNat) _ _ _ (by omega) (b0_inv W hT h0 (by omega)) rfl ⟨fun h' hh' => ?_, fun c hc => ?_⟩ (fun h' a b => ?_) ((same.refl.put rfl).put rfl)
  · rw [upp_nf (by decide)]
    show _ ↔ (upd1 T h.toNat 1 h' = 0 ∨ _)
    by_cases e : h' = h.toNat
    · subst e
      rw [upp_eq, upd1_eq]
      constructor <;> intro z <;> omega
    · rw [upp_nc e, upd1_ne e]; exact hm h' hh'
  · have hc' : c < 1 := hc
    have : c = 0 := by omega
    subst this
    have e : ((h.toNat : Nat) : Int) = h := by omega
    show _ = ((h.toNat : Nat) : Int) ∧ up (up σ 21 74 0 h.toNat 0) 21 71 0 0 h 21 74 0 (((h.toNat : Nat) : Int)).toNat = (0 : Int)
    rw [e]
    exact ⟨upp_eq, (upp_nf (by decide)).trans upp_eq⟩
  · show upd1 T h.toNat 1 h' = 1
    unfold upd1; split
    · rfl
    · exact hw h' a b
set_option maxRecDepth 100000 in
set_option maxHeartbeats 1000000 in
theorem kx_forgets_l (hk : 6 ≤ k) (q : ∀ σ', (∀ h : Nat, h < 12 → σ' 21 74 0 h = -1) → same (Sf 74) σ σ' → Q none σ') :
    ∀ (m : Nat) (i : Int) (σ' : Mem), 0 ≤ i → i ≤ 12 → 12 < i + m → (∀ h : Nat, (h : Int) < i → σ' 21 74 0 h = -1) → same (Sf 74) σ σ' → TT G w w w k (0, 0) 238 2 [some (vr 21 0 0), some (vi i)] [] σ' Q
  | 0, i, σ', h0, h1, h2, _, _ => by omega
  | m + 1, i, σ', h0, h1, h2, hc, hs => by
    have ih := kx_forgets_l hk q m (i + 1)
    refine TT_vb ok238 (sm3_ok G w) 60 [2] ?_
    simp -implicitDefEqProofs only [↓b238_0, ↓b238_2, ↓b238_8, ↓b238_21, b238_0, b238_2, b238_8, b238_21, nLE4, layE8, h0, I32, ↓xb, xb, ps, lpad, lat, aok2, rd2, aaok, aav, alok, alen, aok, akk, csum, isLg, cmpI, clsE, Option.elim, eq_self, List.mem_cons, List.not_mem_nil, or_false, false_or, List.append_nil, List.nil_append, List.cons_append, List.append_eq, List.replicate, List.length_cons, List.length_nil, List.map_cons, List.map_nil, ↓reduceIte, reduceCtorEq, if_true, if_false, true_and, and_true, false_and, and_false, and_self, not_true_eq_false, not_false_eq_true, forall_const, true_implies, false_implies, implies_true, Nat.reduceAdd, Nat.reduceSub, Nat.reduceLT, Nat.reduceLeDiff, Nat.reduceEqDiff, Nat.reduceMul, Nat.reducePow, Nat.add_one_ne_zero, Nat.add_one_sub_one, Nat.add_zero, Nat.zero_add, Int.reduceLT, Int.reduceLE, Int.reduceNeg, Int.reduceAdd, Int.reduceSub, Int.reduceToNat, Int.reduceEq, Int.reduceMul, Int.reducePow, Int.cast_ofNat_Int, Int.toNat_natCast, ne_eq, Bool.false_eq_true, true_or, or_true, or_self, Nat.not_lt_zero, ite_e0, ite_e1, lc_lt, lc_ge, lc_gt, lc_le, lc_eq, Classical.not_not]
    with_reducible repeat' (first | (refine And.intro ?_ ?_) | intro _)
    all_goals try omega
    · exact q σ' (fun h hh => hc h (by omega)) hs
    · refine ih _ (by omega) (by omega) (by omega) (fun h hh => ?_) (hs.put rfl)
      by_cases e : h = i.toNat
      · subst e; rw [upp_eq]
      · rw [upp_nc e]; exact hc h (by omega)
set_option maxRecDepth 100000 in
set_option maxHeartbeats 1000000 in
theorem kx_forgets (hk : 6 ≤ k) (q : ∀ σ', (∀ h : Nat, h < 12 → σ' 21 74 0 h = -1) → same (Sf 74) σ σ' → Q none σ') : CC G w w k (0, 0) 238 [vr 21 0 0] σ Q := by
  refine CC_vb ok238 (by decide) (sm3_ok G w) 60 [2] (Nat.le_of_ble_eq_true rfl) ?_
  simp -implicitDefEqProofs only [↓b238_0, ↓b238_2, ↓b238_8, ↓b238_21, b238_0, b238_2, b238_8, b238_21, nLE4, layE8, hk, I32, ↓xb, xb, ps, lpad, lat, aok2, rd2, aaok, aav, alok, alen, aok, akk, csum, isLg, cmpI, clsE, Option.elim, eq_self, List.mem_cons, List.not_mem_nil, or_false, false_or, List.append_nil, List.nil_append, List.cons_append, List.append_eq, List.replicate, List.length_cons, List.length_nil, List.map_cons, List.map_nil, ↓reduceIte, reduceCtorEq, if_true, if_false, true_and, and_true, false_and, and_false, and_self, not_true_eq_false, not_false_eq_true, forall_const, true_implies, false_implies, implies_true, Nat.reduceAdd, Nat.reduceSub, Nat.reduceLT, Nat.reduceLeDiff, Nat.reduceEqDiff, Nat.reduceMul, Nat.reducePow, Nat.add_one_ne_zero, Nat.add_one_sub_one, Nat.add_zero, Nat.zero_add, Int.reduceLT, Int.reduceLE, Int.reduceNeg, Int.reduceAdd, Int.reduceSub, Int.reduceToNat, Int.reduceEq, Int.reduceMul, Int.reducePow, Int.cast_ofNat_Int, Int.toNat_natCast, ne_eq, Bool.false_eq_true, true_or, or_true, or_self, Nat.not_lt_zero, ite_e0, ite_e1, lc_lt, lc_ge, lc_gt, lc_le, lc_eq, Classical.not_not]
  with_reducible repeat' (first | (refine And.intro ?_ ?_) | intro _)
  all_goals try omega
  exact kx_forgets_l hk q 13 0 σ (by omega) (by omega) (by omega) (fun h hh => by omega) same.refl
theorem Shx_74 {σ σ' : Mem} (h : same (Sf 74) σ σ') : same Shx σ σ' := Sf_k h rfl
theorem MR.shx {σ' : Mem} (M : MR σ P) (hs : same Shx σ σ') : MR σ' P := M.keep hs (fun f a b => by
  show ((21 : Nat) == 21 && (f == 71 || f == 74)) = false
  simp; omega)
def knP (P : Pt) (h : Int) : BHT := bF P (gr0 (-1)) h.toNat
def knA (B : BHT) (wh : Int) : Int := if wh = 0 then B.2.2.1 (B.2.2.2 - 1) else (B.2.2.2 : Int) - 1
theorem gr0_r {wo : Int} : ∀ h, gr0 wo h = 0 ∨ gr0 wo h = 1 := fun h => by unfold gr0; split <;> simp
theorem gr0_n (h : Nat) : gr0 (-1) h = 0 := if_neg (by omega)
set_option maxRecDepth 100000 in
set_option maxHeartbeats 1000000 in
theorem kx_knows (M : MR σ P) (W : WF P) (hk : 14 ≤ k) {h wh : Int} (q0 : ¬ ((0 ≤ h ∧ h < P 2 0) ∧ (0 ≤ wh ∧ wh ≤ 1)) → Q (some (vi (-1))) σ)
    (q1 : (0 ≤ h ∧ h < P 2 0) ∧ (0 ≤ wh ∧ wh ≤ 1) → ∀ σ', MR σ' P → same Shx σ σ' → Q (some (vi (knA (knP P h) wh))) σ') : CC G w w k (0, 0) 239 [vr 21 0 0, vi h, vi wh] σ Q := by
  have w1 := W.sc.1
  have hM : ∀ f i, 2 ≤ f → f ≤ 38 → σ 21 f 0 i = P f i := M
  by_cases c : (0 ≤ h ∧ h < P 2 0) ∧ (0 ≤ wh ∧ wh ≤ 1)
  · refine CC_vb ok239 (by decide) (sm3_ok G w) 60 [] (Nat.le_of_ble_eq_true rfl) ?_
    simp -implicitDefEqProofs only [↓b239_0, ↓b239_5, ↓b239_8, ↓b239_15, ↓b239_18, ↓b239_20, ↓b239_24, ↓b239_30, ↓b239_35, ↓b239_51, ↓b239_54, b239_0, b239_5, b239_8, b239_15, b239_18, b239_20, b239_24, b239_30, b239_35, b239_51, b239_54, nLE4, layE8, hM, k3_130, r130, k3_128, r128, n3_238, n3_237, I32, ↓xb, xb, ps, lpad, lat, aok2, rd2, aaok, aav, alok, alen, aok, akk, csum, isLg, cmpI, clsE, Option.elim, eq_self, List.mem_cons, List.not_mem_nil, or_false, false_or, List.append_nil, List.nil_append, List.cons_append, List.append_eq, List.replicate, List.length_cons, List.length_nil, List.map_cons, List.map_nil, ↓reduceIte, reduceCtorEq, if_true, if_false, true_and, and_true, false_and, and_false, and_self, not_true_eq_false, not_false_eq_true, forall_const, true_implies, false_implies, implies_true, Nat.reduceAdd, Nat.reduceSub, Nat.reduceLT, Nat.reduceLeDiff, Nat.reduceEqDiff, Nat.reduceMul, Nat.reducePow, Nat.add_one_ne_zero, Nat.add_one_sub_one, Nat.add_zero, Nat.zero_add, Int.reduceLT, Int.reduceLE, Int.reduceNeg, Int.reduceAdd, Int.reduceSub, Int.reduceToNat, Int.reduceEq, Int.reduceMul, Int.reducePow, Int.cast_ofNat_Int, Int.toNat_natCast, ne_eq, Bool.false_eq_true, true_or, or_true, or_self, Nat.not_lt_zero, ite_e0, ite_e1, lc_lt, lc_ge, lc_gt, lc_le, lc_eq, Classical.not_not]
    with_reducible repeat' (first | (refine And.intro ?_ ?_) | intro _)
    all_goals try omega
    refine kx_forgets (by omega) (fun σ1 f1 s1 => ?_)
    simp -implicitDefEqProofs only [↓b239_0, ↓b239_5, ↓b239_8, ↓b239_15, ↓b239_18, ↓b239_20, ↓b239_24, ↓b239_30, ↓b239_35, ↓b239_51, ↓b239_54, b239_0, b239_5, b239_8, b239_15, b239_18, b239_20, b239_24, b239_30, b239_35, b239_51, b239_54, nLE4, layE8, hk, k3_130, r130, k3_128, r128, n3_238, n3_237, I32, ↓xb, xb, ps, lpad, lat, aok2, rd2, aaok, aav, alok, alen, aok, akk, csum, isLg, cmpI, clsE, Option.elim, eq_self, List.mem_cons, List.not_mem_nil, or_false, false_or, List.append_nil, List.nil_append, List.cons_append, List.append_eq, List.replicate, List.length_cons, List.length_nil, List.map_cons, List.map_nil, ↓reduceIte, reduceCtorEq, if_true, if_false, true_and, and_true, false_and, and_false, and_self, not_true_eq_false, not_false_eq_true, forall_const, true_implies, false_implies, implies_true, Nat.reduceAdd, Nat.reduceSub, Nat.reduceLT, Nat.reduceLeDiff, Nat.reduceEqDiff, Nat.reduceMul, Nat.reducePow, Nat.add_one_ne_zero, Nat.add_one_sub_one, Nat.add_zero, Nat.zero_add, Int.reduceLT, Int.reduceLE, Int.reduceNeg, Int.reduceAdd, Int.reduceSub, Int.reduceToNat, Int.reduceEq, Int.reduceMul, Int.reducePow, Int.cast_ofNat_Int, Int.toNat_natCast, ne_eq, Bool.false_eq_true, true_or, or_true, or_self, Nat.not_lt_zero, ite_e0, ite_e1, lc_lt, lc_ge, lc_gt, lc_le, lc_eq, Classical.not_not]
    with_reducible repeat' (first | (refine And.intro ?_ ?_) | intro _)
    all_goals try omega
    have M1 := M.shx (Shx_74 s1)
    refine kx_hear M1 W (by omega) (wo := -1) (T := gr0 (-1)) gr0_r (fun h' hh => ⟨fun _ => Or.inl (gr0_n h'), fun _ => f1 h' hh⟩) (fun h' _ e => by omega) c.1 (gr0_n _) (fun σ2 rb s2 => ?_)
    have s12 := (Shx_74 s1).trans s2
    have M2 := M.shx s12
    have I := bO_inv W 12 0 _ (b0_inv W (T := gr0 (-1)) (h := h.toNat) gr0_r (gr0_n _) (by omega))
    have q2 := q1 c σ2 M2 s12
    have eb : knP P h = bF P (gr0 (-1)) h.toNat := rfl
    have eb2 : bO P 12 0 (b0 (gr0 (-1)) h.toNat) = bF P (gr0 (-1)) h.toNat := rfl
    rw [eb] at q2
    rw [eb2] at I
    revert rb I q2
    generalize bF P (gr0 (-1)) h.toNat = B
    intro rb I q2
    obtain ⟨i1, i2, i3, i4⟩ := I
    have rl := rb.2 (B.2.2.2 - 1) (by omega)
    have e9 : (((B.2.2.2 : Nat) : Int) - 1).toNat = B.2.2.2 - 1 := by omega
    have lr := i3 (B.2.2.2 - 1) (by omega)
    by_cases cw : wh = 0
    · subst cw
      rw [show knA B 0 = B.2.2.1 (B.2.2.2 - 1) from if_pos rfl] at q2
      simp -implicitDefEqProofs only [↓b239_0, ↓b239_5, ↓b239_8, ↓b239_15, ↓b239_18, ↓b239_20, ↓b239_24, ↓b239_30, ↓b239_35, ↓b239_51, ↓b239_54, b239_0, b239_5, b239_8, b239_15, b239_18, b239_20, b239_24, b239_30, b239_35, b239_51, b239_54, nLE4, layE8, e9, rl, k3_130, r130, k3_128, r128, n3_238, n3_237, I32, ↓xb, xb, ps, lpad, lat, aok2, rd2, aaok, aav, alok, alen, aok, akk, csum, isLg, cmpI, clsE, Option.elim, eq_self, List.mem_cons, List.not_mem_nil, or_false, false_or, List.append_nil, List.nil_append, List.cons_append, List.append_eq, List.replicate, List.length_cons, List.length_nil, List.map_cons, List.map_nil, ↓reduceIte, reduceCtorEq, if_true, if_false, true_and, and_true, false_and, and_false, and_self, not_true_eq_false, not_false_eq_true, forall_const, true_implies, false_implies, implies_true, Nat.reduceAdd, Nat.reduceSub, Nat.reduceLT, Nat.reduceLeDiff, Nat.reduceEqDiff, Nat.reduceMul, Nat.reducePow, Nat.add_one_ne_zero, Nat.add_one_sub_one, Nat.add_zero, Nat.zero_add, Int.reduceLT, Int.reduceLE, Int.reduceNeg, Int.reduceAdd, Int.reduceSub, Int.reduceToNat, Int.reduceEq, Int.reduceMul, Int.reducePow, Int.cast_ofNat_Int, Int.toNat_natCast, ne_eq, Bool.false_eq_true, true_or, or_true, or_self, Nat.not_lt_zero, ite_e0, ite_e1, lc_lt, lc_ge, lc_gt, lc_le, lc_eq, Classical.not_not]
      with_reducible repeat' (first | (refine And.intro ?_ ?_) | intro _)
      all_goals try omega
      all_goals first | omega | exact q2
    · rw [show knA B wh = (B.2.2.2 : Int) - 1 from if_neg cw] at q2
      simp -implicitDefEqProofs only [↓b239_0, ↓b239_5, ↓b239_8, ↓b239_15, ↓b239_18, ↓b239_20, ↓b239_24, ↓b239_30, ↓b239_35, ↓b239_51, ↓b239_54, b239_0, b239_5, b239_8, b239_15, b239_18, b239_20, b239_24, b239_30, b239_35, b239_51, b239_54, nLE4, layE8, cw, k3_130, r130, k3_128, r128, n3_238, n3_237, I32, ↓xb, xb, ps, lpad, lat, aok2, rd2, aaok, aav, alok, alen, aok, akk, csum, isLg, cmpI, clsE, Option.elim, eq_self, List.mem_cons, List.not_mem_nil, or_false, false_or, List.append_nil, List.nil_append, List.cons_append, List.append_eq, List.replicate, List.length_cons, List.length_nil, List.map_cons, List.map_nil, ↓reduceIte, reduceCtorEq, if_true, if_false, true_and, and_true, false_and, and_false, and_self, not_true_eq_false, not_false_eq_true, forall_const, true_implies, false_implies, implies_true, Nat.reduceAdd, Nat.reduceSub, Nat.reduceLT, Nat.reduceLeDiff, Nat.reduceEqDiff, Nat.reduceMul, Nat.reducePow, Nat.add_one_ne_zero, Nat.add_one_sub_one, Nat.add_zero, Nat.zero_add, Int.reduceLT, Int.reduceLE, Int.reduceNeg, Int.reduceAdd, Int.reduceSub, Int.reduceToNat, Int.reduceEq, Int.reduceMul, Int.reducePow, Int.cast_ofNat_Int, Int.toNat_natCast, ne_eq, Bool.false_eq_true, true_or, or_true, or_self, Nat.not_lt_zero, ite_e0, ite_e1, lc_lt, lc_ge, lc_gt, lc_le, lc_eq, Classical.not_not]
      with_reducible repeat' (first | (refine And.intro ?_ ?_) | intro _)
      all_goals try omega
      all_goals first | omega | exact q2
  · refine CC_vb ok239 (by decide) (sm3_ok G w) 60 [20] (Nat.le_of_ble_eq_true rfl) ?_
    simp -implicitDefEqProofs only [↓b239_0, ↓b239_5, ↓b239_8, ↓b239_15, ↓b239_18, ↓b239_20, ↓b239_24, ↓b239_30, ↓b239_35, ↓b239_51, ↓b239_54, b239_0, b239_5, b239_8, b239_15, b239_18, b239_20, b239_24, b239_30, b239_35, b239_51, b239_54, nLE4, layE8, hM, k3_130, r130, k3_128, r128, n3_238, n3_237, I32, ↓xb, xb, ps, lpad, lat, aok2, rd2, aaok, aav, alok, alen, aok, akk, csum, isLg, cmpI, clsE, Option.elim, eq_self, List.mem_cons, List.not_mem_nil, or_false, false_or, List.append_nil, List.nil_append, List.cons_append, List.append_eq, List.replicate, List.length_cons, List.length_nil, List.map_cons, List.map_nil, ↓reduceIte, reduceCtorEq, if_true, if_false, true_and, and_true, false_and, and_false, and_self, not_true_eq_false, not_false_eq_true, forall_const, true_implies, false_implies, implies_true, Nat.reduceAdd, Nat.reduceSub, Nat.reduceLT, Nat.reduceLeDiff, Nat.reduceEqDiff, Nat.reduceMul, Nat.reducePow, Nat.add_one_ne_zero, Nat.add_one_sub_one, Nat.add_zero, Nat.zero_add, Int.reduceLT, Int.reduceLE, Int.reduceNeg, Int.reduceAdd, Int.reduceSub, Int.reduceToNat, Int.reduceEq, Int.reduceMul, Int.reducePow, Int.cast_ofNat_Int, Int.toNat_natCast, ne_eq, Bool.false_eq_true, true_or, or_true, or_self, Nat.not_lt_zero, ite_e0, ite_e1, lc_lt, lc_ge, lc_gt, lc_le, lc_eq, Classical.not_not]
    with_reducible repeat' (first | (refine And.intro ?_ ?_) | intro _)
    all_goals try omega
    all_goals first | omega | exact q0 c
set_option maxRecDepth 100000 in
set_option maxHeartbeats 1000000 in
theorem kx_groups_l (M0 : MR σ P) (W : WF P) (hk : 12 ≤ k) {wo : Int} (q : ∀ σ', MR σ' P → same Shx σ σ' → Q (some (vi (gnP P wo))) σ') :
    ∀ (m : Nat) (h : Int) (σ' : Mem), 0 ≤ h → h ≤ P 2 0 → P 2 0 < h + m → (∀ h' : Nat, h' < 12 → (σ' 21 74 0 h' = -1 ↔ ((grP P wo h.toNat).1 h' = 0 ∨ (h' : Int) = wo))) → same Shx σ σ' → TT G w w w k (0, 0) 240 8 [some (vr 21 0 0), some (vi wo), some (vi (grP P wo h.toNat).2), some (vi h)] [] σ' Q
  | 0, h, σ', h0, h1, h2, _, _ => by omega
  | m + 1, h, σ', h0, h1, h2, hm, hs => by
    have ih := kx_groups_l M0 W hk q m (h + 1)
    have st : grP P wo (h + 1).toNat = grS P h.toNat (grP P wo h.toNat) := by unfold grP; exact iter_toNat _ h0 _
    rw [st] at ih
    have w1 := W.sc.1
    have gi := gr_inv W (wo := wo) h.toNat (by omega)
    have M := M0.shx hs
    have hM : ∀ f i, 2 ≤ f → f ≤ 38 → σ' 21 f 0 i = P f i := M
    by_cases hH : h < P 2 0
    · revert ih hm gi
      generalize grP P wo h.toNat = a
      intro hm ih gi
      obtain ⟨g1, g2, g3, g4⟩ := gi
      have hmh := hm h.toNat (by omega)
      have go : ¬ a.1 h.toNat = 0 → TT G w w w k (0, 0) 240 8 [some (vr 21 0 0), some (vi wo), some (vi a.2), some (vi (h + 1))] [] σ' Q := fun z => by
        rw [show grS P h.toNat a = a from if_neg z] at ih
        exact ih σ' (by omega) (by omega) (by omega) hm hs
      by_cases hwo : h = wo
      · have z : ¬ a.1 h.toNat = 0 := by have := g2 h.toNat (by omega); omega
        have go' := go z
        rw [hwo] at go' hmh
        refine TT_vb ok240 (sm3_ok G w) 60 [8] ?_
        simp -implicitDefEqProofs only [↓b240_0, ↓b240_4, ↓b240_8, ↓b240_18, ↓b240_23, ↓b240_33, ↓b240_43, ↓b240_49, ↓b240_39, b240_0, b240_4, b240_8, b240_18, b240_23, b240_33, b240_43, b240_49, b240_39, nLE4, layE8, hM, hwo, n3_238, n3_237, I32, ↓xb, xb, ps, lpad, lat, aok2, rd2, aaok, aav, alok, alen, aok, akk, csum, isLg, cmpI, clsE, Option.elim, eq_self, List.mem_cons, List.not_mem_nil, or_false, false_or, List.append_nil, List.nil_append, List.cons_append, List.append_eq, List.replicate, List.length_cons, List.length_nil, List.map_cons, List.map_nil, ↓reduceIte, reduceCtorEq, if_true, if_false, true_and, and_true, false_and, and_false, and_self, not_true_eq_false, not_false_eq_true, forall_const, true_implies, false_implies, implies_true, Nat.reduceAdd, Nat.reduceSub, Nat.reduceLT, Nat.reduceLeDiff, Nat.reduceEqDiff, Nat.reduceMul, Nat.reducePow, Nat.add_one_ne_zero, Nat.add_one_sub_one, Nat.add_zero, Nat.zero_add, Int.reduceLT, Int.reduceLE, Int.reduceNeg, Int.reduceAdd, Int.reduceSub, Int.reduceToNat, Int.reduceEq, Int.reduceMul, Int.reducePow, Int.cast_ofNat_Int, Int.toNat_natCast, ne_eq, Bool.false_eq_true, true_or, or_true, or_self, Nat.not_lt_zero, ite_e0, ite_e1, lc_lt, lc_ge, lc_gt, lc_le, lc_eq, Classical.not_not]
        with_reducible repeat' (first | (refine And.intro ?_ ?_) | intro _)
        all_goals try omega
        all_goals first | omega | exact go'
      · by_cases hz : a.1 h.toNat = 0
        · have s1 : σ' 21 74 0 h.toNat = -1 := hmh.mpr (Or.inl hz)
          rw [show grS P h.toNat a = ((bF P a.1 h.toNat).1, a.2 + 1) from if_pos hz] at ih
          refine TT_vb ok240 (sm3_ok G w) 60 [8, 39] ?_
          simp -implicitDefEqProofs only [↓b240_0, ↓b240_4, ↓b240_8, ↓b240_18, ↓b240_23, ↓b240_33, ↓b240_43, ↓b240_49, ↓b240_39, b240_0, b240_4, b240_8, b240_18, b240_23, b240_33, b240_43, b240_49, b240_39, nLE4, layE8, hM, hwo, s1, n3_238, n3_237, I32, ↓xb, xb, ps, lpad, lat, aok2, rd2, aaok, aav, alok, alen, aok, akk, csum, isLg, cmpI, clsE, Option.elim, eq_self, List.mem_cons, List.not_mem_nil, or_false, false_or, List.append_nil, List.nil_append, List.cons_append, List.append_eq, List.replicate, List.length_cons, List.length_nil, List.map_cons, List.map_nil, ↓reduceIte, reduceCtorEq, if_true, if_false, true_and, and_true, false_and, and_false, and_self, not_true_eq_false, not_false_eq_true, forall_const, true_implies, false_implies, implies_true, Nat.reduceAdd, Nat.reduceSub, Nat.reduceLT, Nat.reduceLeDiff, Nat.reduceEqDiff, Nat.reduceMul, Nat.reducePow, Nat.add_one_ne_zero, Nat.add_one_sub_one, Nat.add_zero, Nat.zero_add, Int.reduceLT, Int.reduceLE, Int.reduceNeg, Int.reduceAdd, Int.reduceSub, Int.reduceToNat, Int.reduceEq, Int.reduceMul, Int.reducePow, Int.cast_ofNat_Int, Int.toNat_natCast, ne_eq, Bool.false_eq_true, true_or, or_true, or_self, Nat.not_lt_zero, ite_e0, ite_e1, lc_lt, lc_ge, lc_gt, lc_le, lc_eq, Classical.not_not]
          with_reducible repeat' (first | (refine And.intro ?_ ?_) | intro _)
          all_goals try omega
          all_goals first | omega | skip
          refine kx_hear M W (by omega) g1 hm (fun h' _ e => g2 h' e) ⟨h0, hH⟩ hz (fun σ2 rb s2 => ?_)
          simp -implicitDefEqProofs only [↓b240_0, ↓b240_4, ↓b240_8, ↓b240_18, ↓b240_23, ↓b240_33, ↓b240_43, ↓b240_49, ↓b240_39, b240_0, b240_4, b240_8, b240_18, b240_23, b240_33, b240_43, b240_49, b240_39, nLE4, layE8, hwo, n3_238, n3_237, I32, ↓xb, xb, ps, lpad, lat, aok2, rd2, aaok, aav, alok, alen, aok, akk, csum, isLg, cmpI, clsE, Option.elim, eq_self, List.mem_cons, List.not_mem_nil, or_false, false_or, List.append_nil, List.nil_append, List.cons_append, List.append_eq, List.replicate, List.length_cons, List.length_nil, List.map_cons, List.map_nil, ↓reduceIte, reduceCtorEq, if_true, if_false, true_and, and_true, false_and, and_false, and_self, not_true_eq_false, not_false_eq_true, forall_const, true_implies, false_implies, implies_true, Nat.reduceAdd, Nat.reduceSub, Nat.reduceLT, Nat.reduceLeDiff, Nat.reduceEqDiff, Nat.reduceMul, Nat.reducePow, Nat.add_one_ne_zero, Nat.add_one_sub_one, Nat.add_zero, Nat.zero_add, Int.reduceLT, Int.reduceLE, Int.reduceNeg, Int.reduceAdd, Int.reduceSub, Int.reduceToNat, Int.reduceEq, Int.reduceMul, Int.reducePow, Int.cast_ofNat_Int, Int.toNat_natCast, ne_eq, Bool.false_eq_true, true_or, or_true, or_self, Nat.not_lt_zero, ite_e0, ite_e1, lc_lt, lc_ge, lc_gt, lc_le, lc_eq, Classical.not_not]
          with_reducible repeat' (first | (refine And.intro ?_ ?_) | intro _)
          all_goals try omega
          refine TT_vn ok240 (sm3_ok G w) 60 2 [8] ?_
          simp -implicitDefEqProofs only [↓b240_0, ↓b240_4, ↓b240_8, ↓b240_18, ↓b240_23, ↓b240_33, ↓b240_43, ↓b240_49, ↓b240_39, b240_0, b240_4, b240_8, b240_18, b240_23, b240_33, b240_43, b240_49, b240_39, nLE4, layE8, hwo, n3_238, n3_237, I32, ↓xb, xb, ps, lpad, lat, aok2, rd2, aaok, aav, alok, alen, aok, akk, csum, isLg, cmpI, clsE, Option.elim, eq_self, List.mem_cons, List.not_mem_nil, or_false, false_or, List.append_nil, List.nil_append, List.cons_append, List.append_eq, List.replicate, List.length_cons, List.length_nil, List.map_cons, List.map_nil, ↓reduceIte, reduceCtorEq, if_true, if_false, true_and, and_true, false_and, and_false, and_self, not_true_eq_false, not_false_eq_true, forall_const, true_implies, false_implies, implies_true, Nat.reduceAdd, Nat.reduceSub, Nat.reduceLT, Nat.reduceLeDiff, Nat.reduceEqDiff, Nat.reduceMul, Nat.reducePow, Nat.add_one_ne_zero, Nat.add_one_sub_one, Nat.add_zero, Nat.zero_add, Int.reduceLT, Int.reduceLE, Int.reduceNeg, Int.reduceAdd, Int.reduceSub, Int.reduceToNat, Int.reduceEq, Int.reduceMul, Int.reducePow, Int.cast_ofNat_Int, Int.toNat_natCast, ne_eq, Bool.false_eq_true, true_or, or_true, or_self, Nat.not_lt_zero, ite_e0, ite_e1, lc_lt, lc_ge, lc_gt, lc_le, lc_eq, Classical.not_not]
          with_reducible repeat' (first | (refine And.intro ?_ ?_) | intro _)
          all_goals try omega
          all_goals first | omega | exact ih σ2 (by omega) (by omega) (by omega) rb.1 (hs.trans s2)
        · have s1 : ¬ σ' 21 74 0 h.toNat = -1 := fun z => by
            rcases hmh.mp z with y | y
            · exact hz y
            · omega
          refine TT_vb ok240 (sm3_ok G w) 60 [8, 39] ?_
          simp -implicitDefEqProofs only [↓b240_0, ↓b240_4, ↓b240_8, ↓b240_18, ↓b240_23, ↓b240_33, ↓b240_43, ↓b240_49, ↓b240_39, b240_0, b240_4, b240_8, b240_18, b240_23, b240_33, b240_43, b240_49, b240_39, nLE4, layE8, hM, hwo, s1, n3_238, n3_237, I32, ↓xb, xb, ps, lpad, lat, aok2, rd2, aaok, aav, alok, alen, aok, akk, csum, isLg, cmpI, clsE, Option.elim, eq_self, List.mem_cons, List.not_mem_nil, or_false, false_or, List.append_nil, List.nil_append, List.cons_append, List.append_eq, List.replicate, List.length_cons, List.length_nil, List.map_cons, List.map_nil, ↓reduceIte, reduceCtorEq, if_true, if_false, true_and, and_true, false_and, and_false, and_self, not_true_eq_false, not_false_eq_true, forall_const, true_implies, false_implies, implies_true, Nat.reduceAdd, Nat.reduceSub, Nat.reduceLT, Nat.reduceLeDiff, Nat.reduceEqDiff, Nat.reduceMul, Nat.reducePow, Nat.add_one_ne_zero, Nat.add_one_sub_one, Nat.add_zero, Nat.zero_add, Int.reduceLT, Int.reduceLE, Int.reduceNeg, Int.reduceAdd, Int.reduceSub, Int.reduceToNat, Int.reduceEq, Int.reduceMul, Int.reducePow, Int.cast_ofNat_Int, Int.toNat_natCast, ne_eq, Bool.false_eq_true, true_or, or_true, or_self, Nat.not_lt_zero, ite_e0, ite_e1, lc_lt, lc_ge, lc_gt, lc_le, lc_eq, Classical.not_not]
          with_reducible repeat' (first | (refine And.intro ?_ ?_) | intro _)
          all_goals try omega
          all_goals first | omega | exact go hz
    · have ei : h = P 2 0 := by omega
      have z := q σ' M hs
      rw [ei]
      refine TT_vb ok240 (sm3_ok G w) 60 [8, 39] ?_
      simp -implicitDefEqProofs only [↓b240_0, ↓b240_4, ↓b240_8, ↓b240_18, ↓b240_23, ↓b240_33, ↓b240_43, ↓b240_49, ↓b240_39, b240_0, b240_4, b240_8, b240_18, b240_23, b240_33, b240_43, b240_49, b240_39, nLE4, layE8, hM, n3_238, n3_237, I32, ↓xb, xb, ps, lpad, lat, aok2, rd2, aaok, aav, alok, alen, aok, akk, csum, isLg, cmpI, clsE, Option.elim, eq_self, List.mem_cons, List.not_mem_nil, or_false, false_or, List.append_nil, List.nil_append, List.cons_append, List.append_eq, List.replicate, List.length_cons, List.length_nil, List.map_cons, List.map_nil, ↓reduceIte, reduceCtorEq, if_true, if_false, true_and, and_true, false_and, and_false, and_self, not_true_eq_false, not_false_eq_true, forall_const, true_implies, false_implies, implies_true, Nat.reduceAdd, Nat.reduceSub, Nat.reduceLT, Nat.reduceLeDiff, Nat.reduceEqDiff, Nat.reduceMul, Nat.reducePow, Nat.add_one_ne_zero, Nat.add_one_sub_one, Nat.add_zero, Nat.zero_add, Int.reduceLT, Int.reduceLE, Int.reduceNeg, Int.reduceAdd, Int.reduceSub, Int.reduceToNat, Int.reduceEq, Int.reduceMul, Int.reducePow, Int.cast_ofNat_Int, Int.toNat_natCast, ne_eq, Bool.false_eq_true, true_or, or_true, or_self, Nat.not_lt_zero, ite_e0, ite_e1, lc_lt, lc_ge, lc_gt, lc_le, lc_eq, Classical.not_not]
      with_reducible repeat' (first | (refine And.intro ?_ ?_) | intro _)
      all_goals try omega
      all_goals exact z
set_option maxRecDepth 100000 in
set_option maxHeartbeats 1000000 in
theorem kx_groups (M : MR σ P) (W : WF P) (hk : 14 ≤ k) {wo : Int} (q : ∀ σ', MR σ' P → same Shx σ σ' → Q (some (vi (gnP P wo))) σ') : CC G w w k (0, 0) 240 [vr 21 0 0, vi wo] σ Q := by
  have w1 := W.sc.1
  refine CC_vb ok240 (by decide) (sm3_ok G w) 60 [8] (Nat.le_of_ble_eq_true rfl) ?_
  simp -implicitDefEqProofs only [↓b240_0, ↓b240_4, ↓b240_8, ↓b240_18, ↓b240_23, ↓b240_33, ↓b240_43, ↓b240_49, ↓b240_39, b240_0, b240_4, b240_8, b240_18, b240_23, b240_33, b240_43, b240_49, b240_39, nLE4, layE8, hk, n3_238, n3_237, I32, ↓xb, xb, ps, lpad, lat, aok2, rd2, aaok, aav, alok, alen, aok, akk, csum, isLg, cmpI, clsE, Option.elim, eq_self, List.mem_cons, List.not_mem_nil, or_false, false_or, List.append_nil, List.nil_append, List.cons_append, List.append_eq, List.replicate, List.length_cons, List.length_nil, List.map_cons, List.map_nil, ↓reduceIte, reduceCtorEq, if_true, if_false, true_and, and_true, false_and, and_false, and_self, not_true_eq_false, not_false_eq_true, forall_const, true_implies, false_implies, implies_true, Nat.reduceAdd, Nat.reduceSub, Nat.reduceLT, Nat.reduceLeDiff, Nat.reduceEqDiff, Nat.reduceMul, Nat.reducePow, Nat.add_one_ne_zero, Nat.add_one_sub_one, Nat.add_zero, Nat.zero_add, Int.reduceLT, Int.reduceLE, Int.reduceNeg, Int.reduceAdd, Int.reduceSub, Int.reduceToNat, Int.reduceEq, Int.reduceMul, Int.reducePow, Int.cast_ofNat_Int, Int.toNat_natCast, ne_eq, Bool.false_eq_true, true_or, or_true, or_self, Nat.not_lt_zero, ite_e0, ite_e1, lc_lt, lc_ge, lc_gt, lc_le, lc_eq, Classical.not_not]
  with_reducible repeat' (first | (refine And.intro ?_ ?_) | intro _)
  all_goals try omega
  refine kx_forgets (by omega) (fun σ1 f1 s1 => ?_)
  simp -implicitDefEqProofs only [↓b240_0, ↓b240_4, ↓b240_8, ↓b240_18, ↓b240_23, ↓b240_33, ↓b240_43, ↓b240_49, ↓b240_39, b240_0, b240_4, b240_8, b240_18, b240_23, b240_33, b240_43, b240_49, b240_39, nLE4, layE8, hk, n3_238, n3_237, I32, ↓xb, xb, ps, lpad, lat, aok2, rd2, aaok, aav, alok, alen, aok, akk, csum, isLg, cmpI, clsE, Option.elim, eq_self, List.mem_cons, List.not_mem_nil, or_false, false_or, List.append_nil, List.nil_append, List.cons_append, List.append_eq, List.replicate, List.length_cons, List.length_nil, List.map_cons, List.map_nil, ↓reduceIte, reduceCtorEq, if_true, if_false, true_and, and_true, false_and, and_false, and_self, not_true_eq_false, not_false_eq_true, forall_const, true_implies, false_implies, implies_true, Nat.reduceAdd, Nat.reduceSub, Nat.reduceLT, Nat.reduceLeDiff, Nat.reduceEqDiff, Nat.reduceMul, Nat.reducePow, Nat.add_one_ne_zero, Nat.add_one_sub_one, Nat.add_zero, Nat.zero_add, Int.reduceLT, Int.reduceLE, Int.reduceNeg, Int.reduceAdd, Int.reduceSub, Int.reduceToNat, Int.reduceEq, Int.reduceMul, Int.reducePow, Int.cast_ofNat_Int, Int.toNat_natCast, ne_eq, Bool.false_eq_true, true_or, or_true, or_self, Nat.not_lt_zero, ite_e0, ite_e1, lc_lt, lc_ge, lc_gt, lc_le, lc_eq, Classical.not_not]
  with_reducible repeat' (first | (refine And.intro ?_ ?_) | intro _)
  all_goals try omega
  refine kx_groups_l M W (by omega) q 13 0 σ1 (by omega) (by omega) (by omega) (fun h' hh => ⟨fun _ => ?_, fun _ => f1 h' hh⟩) (Shx_74 s1)
  show gr0 wo h' = 0 ∨ _
  unfold gr0
  by_cases e : (h' : Int) = wo
  · exact Or.inr e
  · left; rw [if_neg e]
def ptR (P : Pt) (n : Nat) : Int × Int := iter (pick (fun h => gnP P h)) n (-2, 0)
def ptA (P : Pt) (wh : Int) : Int := if wh = 0 then gnP P (-1) else (ptR P (P 2 0).toNat).1
set_option maxRecDepth 100000 in
set_option maxHeartbeats 1000000 in
theorem kx_parts_l (W : WF P) (hk : 18 ≤ k) {wh : Int} (q : ∀ σ', MR σ' P → same Shx σ σ' → Q (some (vi (ptR P (P 2 0).toNat).1)) σ') :
    ∀ (m : Nat) (i b v : Int) (σ' : Mem) (l5 : Option AV), 0 ≤ i → i ≤ P 2 0 → P 2 0 < i + m → (b, v) = ptR P i.toNat → MR σ' P → same Shx σ σ' → TT G w w w k (0, 0) 241 30 [some (vr 21 0 0), some (vi wh), some (vi b), some (vi v), some (vi i), l5] [] σ' Q
  | 0, i, b, v, σ', l5, h0, h1, h2, _, _, _ => by omega
  | m + 1, i, b, v, σ', l5, h0, h1, h2, hc, M, hs => by
    have ih := kx_parts_l W hk (wh := wh) q m (i + 1)
    have st : ptR P (i + 1).toNat = pick (fun h => gnP P h) i.toNat (b, v) := by rw [hc]; unfold ptR; exact iter_toNat _ h0 _
    rw [st] at ih
    have w1 := W.sc.1
    have ei : ((i.toNat : Nat) : Int) = i := by omega
    have pk : pick (fun h => gnP P h) i.toNat (b, v) = if b = -2 ∨ v < gnP P i then (i, gnP P i) else (b, v) := by
      show (if b = -2 ∨ v < gnP P ((i.toNat : Nat) : Int) then (((i.toNat : Nat) : Int), gnP P ((i.toNat : Nat) : Int)) else (b, v)) = _
      rw [ei]
    rw [pk] at ih
    have hM : ∀ f i, 2 ≤ f → f ≤ 38 → σ' 21 f 0 i = P f i := M
    have br := pick_b (f := fun h => gnP P h) i.toNat
    have hc' : (b, v) = iter (pick (fun h => gnP P h)) i.toNat (-2, 0) := hc
    rw [← hc'] at br
    have br' : b = -2 ∨ (0 ≤ b ∧ b < i) := by
      have : b = -2 ∨ (0 ≤ b ∧ b < (i.toNat : Nat)) := br
      omega
    by_cases hi : i < P 2 0
    · refine TT_vb ok241 (sm3_ok G w) 60 [30] ?_
      simp -implicitDefEqProofs only [↓b241_0, ↓b241_7, ↓b241_10, ↓b241_12, ↓b241_16, ↓b241_21, ↓b241_22, ↓b241_30, ↓b241_41, ↓b241_47, ↓b241_55, ↓b241_61, ↓b241_67, ↓b241_73, b241_0, b241_7, b241_10, b241_12, b241_16, b241_21, b241_22, b241_30, b241_41, b241_47, b241_55, b241_61, b241_67, b241_73, nLE4, layE8, hM, k3_128, r128, n3_240, I32, ↓xb, xb, ps, lpad, lat, aok2, rd2, aaok, aav, alok, alen, aok, akk, csum, isLg, cmpI, clsE, Option.elim, eq_self, List.mem_cons, List.not_mem_nil, or_false, false_or, List.append_nil, List.nil_append, List.cons_append, List.append_eq, List.replicate, List.length_cons, List.length_nil, List.map_cons, List.map_nil, ↓reduceIte, reduceCtorEq, if_true, if_false, true_and, and_true, false_and, and_false, and_self, not_true_eq_false, not_false_eq_true, forall_const, true_implies, false_implies, implies_true, Nat.reduceAdd, Nat.reduceSub, Nat.reduceLT, Nat.reduceLeDiff, Nat.reduceEqDiff, Nat.reduceMul, Nat.reducePow, Nat.add_one_ne_zero, Nat.add_one_sub_one, Nat.add_zero, Nat.zero_add, Int.reduceLT, Int.reduceLE, Int.reduceNeg, Int.reduceAdd, Int.reduceSub, Int.reduceToNat, Int.reduceEq, Int.reduceMul, Int.reducePow, Int.cast_ofNat_Int, Int.toNat_natCast, ne_eq, Bool.false_eq_true, true_or, or_true, or_self, Nat.not_lt_zero, ite_e0, ite_e1, lc_lt, lc_ge, lc_gt, lc_le, lc_eq, Classical.not_not]
      with_reducible repeat' (first | (refine And.intro ?_ ?_) | intro _)
      all_goals try omega
      refine kx_groups M W (by omega) (fun σ2 M2 s2 => ?_)
      rcases br' with hb | hb
      · have hb' := eq_true hb
        rw [if_pos (Or.inl hb)] at ih
        simp -implicitDefEqProofs only [↓b241_0, ↓b241_7, ↓b241_10, ↓b241_12, ↓b241_16, ↓b241_21, ↓b241_22, ↓b241_30, ↓b241_41, ↓b241_47, ↓b241_55, ↓b241_61, ↓b241_67, ↓b241_73, b241_0, b241_7, b241_10, b241_12, b241_16, b241_21, b241_22, b241_30, b241_41, b241_47, b241_55, b241_61, b241_67, b241_73, nLE4, layE8, hb', k3_128, r128, n3_240, I32, ↓xb, xb, ps, lpad, lat, aok2, rd2, aaok, aav, alok, alen, aok, akk, csum, isLg, cmpI, clsE, Option.elim, eq_self, List.mem_cons, List.not_mem_nil, or_false, false_or, List.append_nil, List.nil_append, List.cons_append, List.append_eq, List.replicate, List.length_cons, List.length_nil, List.map_cons, List.map_nil, ↓reduceIte, reduceCtorEq, if_true, if_false, true_and, and_true, false_and, and_false, and_self, not_true_eq_false, not_false_eq_true, forall_const, true_implies, false_implies, implies_true, Nat.reduceAdd, Nat.reduceSub, Nat.reduceLT, Nat.reduceLeDiff, Nat.reduceEqDiff, Nat.reduceMul, Nat.reducePow, Nat.add_one_ne_zero, Nat.add_one_sub_one, Nat.add_zero, Nat.zero_add, Int.reduceLT, Int.reduceLE, Int.reduceNeg, Int.reduceAdd, Int.reduceSub, Int.reduceToNat, Int.reduceEq, Int.reduceMul, Int.reducePow, Int.cast_ofNat_Int, Int.toNat_natCast, ne_eq, Bool.false_eq_true, true_or, or_true, or_self, Nat.not_lt_zero, ite_e0, ite_e1, lc_lt, lc_ge, lc_gt, lc_le, lc_eq, Classical.not_not]
        with_reducible repeat' (first | (refine And.intro ?_ ?_) | intro _)
        all_goals try omega
        all_goals first | omega | exact ih _ _ σ2 _ (by omega) (by omega) (by omega) rfl M2 (hs.trans s2)
      · have hb' : ¬ b = -2 := by omega
        by_cases hv : v < gnP P i
        · rw [if_pos (Or.inr hv)] at ih
          simp -implicitDefEqProofs only [↓b241_0, ↓b241_7, ↓b241_10, ↓b241_12, ↓b241_16, ↓b241_21, ↓b241_22, ↓b241_30, ↓b241_41, ↓b241_47, ↓b241_55, ↓b241_61, ↓b241_67, ↓b241_73, b241_0, b241_7, b241_10, b241_12, b241_16, b241_21, b241_22, b241_30, b241_41, b241_47, b241_55, b241_61, b241_67, b241_73, nLE4, layE8, hb', k3_128, r128, n3_240, I32, ↓xb, xb, ps, lpad, lat, aok2, rd2, aaok, aav, alok, alen, aok, akk, csum, isLg, cmpI, clsE, Option.elim, eq_self, List.mem_cons, List.not_mem_nil, or_false, false_or, List.append_nil, List.nil_append, List.cons_append, List.append_eq, List.replicate, List.length_cons, List.length_nil, List.map_cons, List.map_nil, ↓reduceIte, reduceCtorEq, if_true, if_false, true_and, and_true, false_and, and_false, and_self, not_true_eq_false, not_false_eq_true, forall_const, true_implies, false_implies, implies_true, Nat.reduceAdd, Nat.reduceSub, Nat.reduceLT, Nat.reduceLeDiff, Nat.reduceEqDiff, Nat.reduceMul, Nat.reducePow, Nat.add_one_ne_zero, Nat.add_one_sub_one, Nat.add_zero, Nat.zero_add, Int.reduceLT, Int.reduceLE, Int.reduceNeg, Int.reduceAdd, Int.reduceSub, Int.reduceToNat, Int.reduceEq, Int.reduceMul, Int.reducePow, Int.cast_ofNat_Int, Int.toNat_natCast, ne_eq, Bool.false_eq_true, true_or, or_true, or_self, Nat.not_lt_zero, ite_e0, ite_e1, lc_lt, lc_ge, lc_gt, lc_le, lc_eq, Classical.not_not]
          with_reducible repeat' (first | (refine And.intro ?_ ?_) | intro _)
          all_goals try omega
          all_goals first | omega | exact ih _ _ σ2 _ (by omega) (by omega) (by omega) rfl M2 (hs.trans s2)
        · rw [if_neg (by omega)] at ih
          simp -implicitDefEqProofs only [↓b241_0, ↓b241_7, ↓b241_10, ↓b241_12, ↓b241_16, ↓b241_21, ↓b241_22, ↓b241_30, ↓b241_41, ↓b241_47, ↓b241_55, ↓b241_61, ↓b241_67, ↓b241_73, b241_0, b241_7, b241_10, b241_12, b241_16, b241_21, b241_22, b241_30, b241_41, b241_47, b241_55, b241_61, b241_67, b241_73, nLE4, layE8, hb', k3_128, r128, n3_240, I32, ↓xb, xb, ps, lpad, lat, aok2, rd2, aaok, aav, alok, alen, aok, akk, csum, isLg, cmpI, clsE, Option.elim, eq_self, List.mem_cons, List.not_mem_nil, or_false, false_or, List.append_nil, List.nil_append, List.cons_append, List.append_eq, List.replicate, List.length_cons, List.length_nil, List.map_cons, List.map_nil, ↓reduceIte, reduceCtorEq, if_true, if_false, true_and, and_true, false_and, and_false, and_self, not_true_eq_false, not_false_eq_true, forall_const, true_implies, false_implies, implies_true, Nat.reduceAdd, Nat.reduceSub, Nat.reduceLT, Nat.reduceLeDiff, Nat.reduceEqDiff, Nat.reduceMul, Nat.reducePow, Nat.add_one_ne_zero, Nat.add_one_sub_one, Nat.add_zero, Nat.zero_add, Int.reduceLT, Int.reduceLE, Int.reduceNeg, Int.reduceAdd, Int.reduceSub, Int.reduceToNat, Int.reduceEq, Int.reduceMul, Int.reducePow, Int.cast_ofNat_Int, Int.toNat_natCast, ne_eq, Bool.false_eq_true, true_or, or_true, or_self, Nat.not_lt_zero, ite_e0, ite_e1, lc_lt, lc_ge, lc_gt, lc_le, lc_eq, Classical.not_not]
          with_reducible repeat' (first | (refine And.intro ?_ ?_) | intro _)
          all_goals try omega
          all_goals first | omega | exact ih _ _ σ2 _ (by omega) (by omega) (by omega) rfl M2 (hs.trans s2)
    · have e : i = P 2 0 := by omega
      have z := q σ' M hs
      rw [← e, ← hc] at z
      refine TT_vb ok241 (sm3_ok G w) 60 [30] ?_
      simp -implicitDefEqProofs only [↓b241_0, ↓b241_7, ↓b241_10, ↓b241_12, ↓b241_16, ↓b241_21, ↓b241_22, ↓b241_30, ↓b241_41, ↓b241_47, ↓b241_55, ↓b241_61, ↓b241_67, ↓b241_73, b241_0, b241_7, b241_10, b241_12, b241_16, b241_21, b241_22, b241_30, b241_41, b241_47, b241_55, b241_61, b241_67, b241_73, nLE4, layE8, hM, k3_128, r128, n3_240, I32, ↓xb, xb, ps, lpad, lat, aok2, rd2, aaok, aav, alok, alen, aok, akk, csum, isLg, cmpI, clsE, Option.elim, eq_self, List.mem_cons, List.not_mem_nil, or_false, false_or, List.append_nil, List.nil_append, List.cons_append, List.append_eq, List.replicate, List.length_cons, List.length_nil, List.map_cons, List.map_nil, ↓reduceIte, reduceCtorEq, if_true, if_false, true_and, and_true, false_and, and_false, and_self, not_true_eq_false, not_false_eq_true, forall_const, true_implies, false_implies, implies_true, Nat.reduceAdd, Nat.reduceSub, Nat.reduceLT, Nat.reduceLeDiff, Nat.reduceEqDiff, Nat.reduceMul, Nat.reducePow, Nat.add_one_ne_zero, Nat.add_one_sub_one, Nat.add_zero, Nat.zero_add, Int.reduceLT, Int.reduceLE, Int.reduceNeg, Int.reduceAdd, Int.reduceSub, Int.reduceToNat, Int.reduceEq, Int.reduceMul, Int.reducePow, Int.cast_ofNat_Int, Int.toNat_natCast, ne_eq, Bool.false_eq_true, true_or, or_true, or_self, Nat.not_lt_zero, ite_e0, ite_e1, lc_lt, lc_ge, lc_gt, lc_le, lc_eq, Classical.not_not]
      with_reducible repeat' (first | (refine And.intro ?_ ?_) | intro _)
      all_goals try omega
      all_goals first | omega | exact z
set_option maxRecDepth 100000 in
set_option maxHeartbeats 1000000 in
theorem kx_parts (M : MR σ P) (W : WF P) (hk : 20 ≤ k) {wh : Int} (q0 : ¬ (0 ≤ wh ∧ wh ≤ 1) → Q (some (vi (-1))) σ)
    (q1 : (0 ≤ wh ∧ wh ≤ 1) → ∀ σ', MR σ' P → same Shx σ σ' → Q (some (vi (ptA P wh))) σ') : CC G w w k (0, 0) 241 [vr 21 0 0, vi wh] σ Q := by
  have w1 := W.sc.1
  by_cases c : 0 ≤ wh ∧ wh ≤ 1
  · by_cases c0 : wh = 0
    · have q2 := q1 c
      rw [show ptA P wh = gnP P (-1) from if_pos c0] at q2
      refine CC_vb ok241 (by decide) (sm3_ok G w) 60 [30] (Nat.le_of_ble_eq_true rfl) ?_
      simp -implicitDefEqProofs only [↓b241_0, ↓b241_7, ↓b241_10, ↓b241_12, ↓b241_16, ↓b241_21, ↓b241_22, ↓b241_30, ↓b241_41, ↓b241_47, ↓b241_55, ↓b241_61, ↓b241_67, ↓b241_73, b241_0, b241_7, b241_10, b241_12, b241_16, b241_21, b241_22, b241_30, b241_41, b241_47, b241_55, b241_61, b241_67, b241_73, nLE4, layE8, c0, k3_128, r128, n3_240, I32, ↓xb, xb, ps, lpad, lat, aok2, rd2, aaok, aav, alok, alen, aok, akk, csum, isLg, cmpI, clsE, Option.elim, eq_self, List.mem_cons, List.not_mem_nil, or_false, false_or, List.append_nil, List.nil_append, List.cons_append, List.append_eq, List.replicate, List.length_cons, List.length_nil, List.map_cons, List.map_nil, ↓reduceIte, reduceCtorEq, if_true, if_false, true_and, and_true, false_and, and_false, and_self, not_true_eq_false, not_false_eq_true, forall_const, true_implies, false_implies, implies_true, Nat.reduceAdd, Nat.reduceSub, Nat.reduceLT, Nat.reduceLeDiff, Nat.reduceEqDiff, Nat.reduceMul, Nat.reducePow, Nat.add_one_ne_zero, Nat.add_one_sub_one, Nat.add_zero, Nat.zero_add, Int.reduceLT, Int.reduceLE, Int.reduceNeg, Int.reduceAdd, Int.reduceSub, Int.reduceToNat, Int.reduceEq, Int.reduceMul, Int.reducePow, Int.cast_ofNat_Int, Int.toNat_natCast, ne_eq, Bool.false_eq_true, true_or, or_true, or_self, Nat.not_lt_zero, ite_e0, ite_e1, lc_lt, lc_ge, lc_gt, lc_le, lc_eq, Classical.not_not]
      with_reducible repeat' (first | (refine And.intro ?_ ?_) | intro _)
      all_goals try omega
      refine kx_groups M W (by omega) (fun σ2 M2 s2 => ?_)
      simp -implicitDefEqProofs only [↓b241_0, ↓b241_7, ↓b241_10, ↓b241_12, ↓b241_16, ↓b241_21, ↓b241_22, ↓b241_30, ↓b241_41, ↓b241_47, ↓b241_55, ↓b241_61, ↓b241_67, ↓b241_73, b241_0, b241_7, b241_10, b241_12, b241_16, b241_21, b241_22, b241_30, b241_41, b241_47, b241_55, b241_61, b241_67, b241_73, nLE4, layE8, c0, k3_128, r128, n3_240, I32, ↓xb, xb, ps, lpad, lat, aok2, rd2, aaok, aav, alok, alen, aok, akk, csum, isLg, cmpI, clsE, Option.elim, eq_self, List.mem_cons, List.not_mem_nil, or_false, false_or, List.append_nil, List.nil_append, List.cons_append, List.append_eq, List.replicate, List.length_cons, List.length_nil, List.map_cons, List.map_nil, ↓reduceIte, reduceCtorEq, if_true, if_false, true_and, and_true, false_and, and_false, and_self, not_true_eq_false, not_false_eq_true, forall_const, true_implies, false_implies, implies_true, Nat.reduceAdd, Nat.reduceSub, Nat.reduceLT, Nat.reduceLeDiff, Nat.reduceEqDiff, Nat.reduceMul, Nat.reducePow, Nat.add_one_ne_zero, Nat.add_one_sub_one, Nat.add_zero, Nat.zero_add, Int.reduceLT, Int.reduceLE, Int.reduceNeg, Int.reduceAdd, Int.reduceSub, Int.reduceToNat, Int.reduceEq, Int.reduceMul, Int.reducePow, Int.cast_ofNat_Int, Int.toNat_natCast, ne_eq, Bool.false_eq_true, true_or, or_true, or_self, Nat.not_lt_zero, ite_e0, ite_e1, lc_lt, lc_ge, lc_gt, lc_le, lc_eq, Classical.not_not]
      with_reducible repeat' (first | (refine And.intro ?_ ?_) | intro _)
      all_goals try omega
      all_goals first | omega | exact q2 σ2 M2 s2
    · have q2 := q1 c
      rw [show ptA P wh = (ptR P (P 2 0).toNat).1 from if_neg c0] at q2
      refine CC_vb ok241 (by decide) (sm3_ok G w) 60 [30] (Nat.le_of_ble_eq_true rfl) ?_
      simp -implicitDefEqProofs only [↓b241_0, ↓b241_7, ↓b241_10, ↓b241_12, ↓b241_16, ↓b241_21, ↓b241_22, ↓b241_30, ↓b241_41, ↓b241_47, ↓b241_55, ↓b241_61, ↓b241_67, ↓b241_73, b241_0, b241_7, b241_10, b241_12, b241_16, b241_21, b241_22, b241_30, b241_41, b241_47, b241_55, b241_61, b241_67, b241_73, nLE4, layE8, c0, k3_128, r128, n3_240, I32, ↓xb, xb, ps, lpad, lat, aok2, rd2, aaok, aav, alok, alen, aok, akk, csum, isLg, cmpI, clsE, Option.elim, eq_self, List.mem_cons, List.not_mem_nil, or_false, false_or, List.append_nil, List.nil_append, List.cons_append, List.append_eq, List.replicate, List.length_cons, List.length_nil, List.map_cons, List.map_nil, ↓reduceIte, reduceCtorEq, if_true, if_false, true_and, and_true, false_and, and_false, and_self, not_true_eq_false, not_false_eq_true, forall_const, true_implies, false_implies, implies_true, Nat.reduceAdd, Nat.reduceSub, Nat.reduceLT, Nat.reduceLeDiff, Nat.reduceEqDiff, Nat.reduceMul, Nat.reducePow, Nat.add_one_ne_zero, Nat.add_one_sub_one, Nat.add_zero, Nat.zero_add, Int.reduceLT, Int.reduceLE, Int.reduceNeg, Int.reduceAdd, Int.reduceSub, Int.reduceToNat, Int.reduceEq, Int.reduceMul, Int.reducePow, Int.cast_ofNat_Int, Int.toNat_natCast, ne_eq, Bool.false_eq_true, true_or, or_true, or_self, Nat.not_lt_zero, ite_e0, ite_e1, lc_lt, lc_ge, lc_gt, lc_le, lc_eq, Classical.not_not]
      with_reducible repeat' (first | (refine And.intro ?_ ?_) | intro _)
      all_goals try omega
      all_goals first | omega | exact kx_parts_l W (by omega) q2 13 0 (-2) 0 σ _ (by omega) (by omega) (by omega) rfl M same.refl
  · refine CC_vb ok241 (by decide) (sm3_ok G w) 60 [12] (Nat.le_of_ble_eq_true rfl) ?_
    simp -implicitDefEqProofs only [↓b241_0, ↓b241_7, ↓b241_10, ↓b241_12, ↓b241_16, ↓b241_21, ↓b241_22, ↓b241_30, ↓b241_41, ↓b241_47, ↓b241_55, ↓b241_61, ↓b241_67, ↓b241_73, b241_0, b241_7, b241_10, b241_12, b241_16, b241_21, b241_22, b241_30, b241_41, b241_47, b241_55, b241_61, b241_67, b241_73, nLE4, layE8, hk, k3_128, r128, n3_240, I32, ↓xb, xb, ps, lpad, lat, aok2, rd2, aaok, aav, alok, alen, aok, akk, csum, isLg, cmpI, clsE, Option.elim, eq_self, List.mem_cons, List.not_mem_nil, or_false, false_or, List.append_nil, List.nil_append, List.cons_append, List.append_eq, List.replicate, List.length_cons, List.length_nil, List.map_cons, List.map_nil, ↓reduceIte, reduceCtorEq, if_true, if_false, true_and, and_true, false_and, and_false, and_self, not_true_eq_false, not_false_eq_true, forall_const, true_implies, false_implies, implies_true, Nat.reduceAdd, Nat.reduceSub, Nat.reduceLT, Nat.reduceLeDiff, Nat.reduceEqDiff, Nat.reduceMul, Nat.reducePow, Nat.add_one_ne_zero, Nat.add_one_sub_one, Nat.add_zero, Nat.zero_add, Int.reduceLT, Int.reduceLE, Int.reduceNeg, Int.reduceAdd, Int.reduceSub, Int.reduceToNat, Int.reduceEq, Int.reduceMul, Int.reducePow, Int.cast_ofNat_Int, Int.toNat_natCast, ne_eq, Bool.false_eq_true, true_or, or_true, or_self, Nat.not_lt_zero, ite_e0, ite_e1, lc_lt, lc_ge, lc_gt, lc_le, lc_eq, Classical.not_not]
    with_reducible repeat' (first | (refine And.intro ?_ ?_) | intro _)
    all_goals try omega
    all_goals first | omega | exact q0 c
set_option maxRecDepth 100000 in
set_option maxHeartbeats 1000000 in
theorem kc_spr_l (hk : 6 ≤ k) {v1 : AV} {v2 : Int} (q : ∀ σ', (∀ h : Nat, h < 12 → σ' 11 3 0 h = 0) → same S11 σ σ' → TT G w w w k (0, 0) 1 21 [some (vr 11 0 0), some v1, some (vi v2), some (vi 12)] [] σ' Q) :
    ∀ (m : Nat) (i : Int) (σ' : Mem), 0 ≤ i → i ≤ 12 → 12 < i + m → (∀ h : Nat, (h : Int) < i → σ' 11 3 0 h = 0) → same S11 σ σ' → TT G w w w k (0, 0) 1 2 [some (vr 11 0 0), some v1, some (vi v2), some (vi i)] [] σ' Q
  | 0, i, σ', h0, h1, h2, _, _ => by omega
  | m + 1, i, σ', h0, h1, h2, hc, hs => by
    have ih := kc_spr_l hk q m (i + 1)
    by_cases hi : i < 12
    · refine TT_vb ok1 (sm3_ok G w) 60 [2, 21] ?_
      simp -implicitDefEqProofs only [↓b1_0, ↓b1_2, ↓b1_8, ↓b1_21, ↓b1_27, b1_0, b1_2, b1_8, b1_21, b1_27, nLE0, layE0, layE4, h0, n3_4, I32, ↓xb, xb, ps, lpad, lat, aok2, rd2, aaok, aav, alok, alen, aok, akk, csum, isLg, cmpI, clsE, Option.elim, eq_self, List.mem_cons, List.not_mem_nil, or_false, false_or, List.append_nil, List.nil_append, List.cons_append, List.append_eq, List.replicate, List.length_cons, List.length_nil, List.map_cons, List.map_nil, ↓reduceIte, reduceCtorEq, if_true, if_false, true_and, and_true, false_and, and_false, and_self, not_true_eq_false, not_false_eq_true, forall_const, true_implies, false_implies, implies_true, Nat.reduceAdd, Nat.reduceSub, Nat.reduceLT, Nat.reduceLeDiff, Nat.reduceEqDiff, Nat.reduceMul, Nat.reducePow, Nat.add_one_ne_zero, Nat.add_one_sub_one, Nat.add_zero, Nat.zero_add, Int.reduceLT, Int.reduceLE, Int.reduceNeg, Int.reduceAdd, Int.reduceSub, Int.reduceToNat, Int.reduceEq, Int.reduceMul, Int.reducePow, Int.cast_ofNat_Int, Int.toNat_natCast, ne_eq, Bool.false_eq_true, true_or, or_true, or_self, Nat.not_lt_zero, ite_e0, ite_e1, lc_lt, lc_ge, lc_gt, lc_le, lc_eq, Classical.not_not]
      with_reducible repeat' (first | (refine And.intro ?_ ?_) | intro _)
      all_goals try omega
      all_goals first | omega | skip
      refine ih _ (by omega) (by omega) (by omega) (fun h hh => ?_) (hs.put rfl)
      by_cases e : h = i.toNat
      · subst e; rw [upp_eq]
      · rw [upp_nc e]; exact hc h (by omega)
    · have e : i = 12 := by omega
      subst e
      refine TT_vb ok1 (sm3_ok G w) 60 [2, 21] ?_
      simp -implicitDefEqProofs only [↓b1_0, ↓b1_2, ↓b1_8, ↓b1_21, ↓b1_27, b1_0, b1_2, b1_8, b1_21, b1_27, nLE0, layE0, layE4, h0, n3_4, I32, ↓xb, xb, ps, lpad, lat, aok2, rd2, aaok, aav, alok, alen, aok, akk, csum, isLg, cmpI, clsE, Option.elim, eq_self, List.mem_cons, List.not_mem_nil, or_false, false_or, List.append_nil, List.nil_append, List.cons_append, List.append_eq, List.replicate, List.length_cons, List.length_nil, List.map_cons, List.map_nil, ↓reduceIte, reduceCtorEq, if_true, if_false, true_and, and_true, false_and, and_false, and_self, not_true_eq_false, not_false_eq_true, forall_const, true_implies, false_implies, implies_true, Nat.reduceAdd, Nat.reduceSub, Nat.reduceLT, Nat.reduceLeDiff, Nat.reduceEqDiff, Nat.reduceMul, Nat.reducePow, Nat.add_one_ne_zero, Nat.add_one_sub_one, Nat.add_zero, Nat.zero_add, Int.reduceLT, Int.reduceLE, Int.reduceNeg, Int.reduceAdd, Int.reduceSub, Int.reduceToNat, Int.reduceEq, Int.reduceMul, Int.reducePow, Int.cast_ofNat_Int, Int.toNat_natCast, ne_eq, Bool.false_eq_true, true_or, or_true, or_self, Nat.not_lt_zero, ite_e0, ite_e1, lc_lt, lc_ge, lc_gt, lc_le, lc_eq, Classical.not_not]
      with_reducible repeat' (first | (refine And.intro ?_ ?_) | intro _)
      all_goals try omega
      exact q σ' (fun h hh => hc h (by omega)) hs
set_option maxRecDepth 100000 in
set_option maxHeartbeats 1000000 in
theorem kc_knows (R : RT True σ 1 P) (W : WF P) (hk : 16 ≤ k) {h wh : Int} (q0 : ¬ ((0 ≤ h ∧ h < P 2 0) ∧ (0 ≤ wh ∧ wh ≤ 1)) → Q (some (vi (-1))) σ)
    (q1 : (0 ≤ h ∧ h < P 2 0) ∧ (0 ≤ wh ∧ wh ≤ 1) → ∀ σ', same S11 σ σ' → Q (some (vi (knA (knP P h) wh))) σ') : CC G w w k (0, 0) 122 [vr 0 0 0, vi h, vi wh] σ Q := by
  have w1 := W.sc.1
  have e0 := R.houses
  by_cases c : (0 ≤ h ∧ h < P 2 0) ∧ (0 ≤ wh ∧ wh ≤ 1)
  · refine CC_vb ok122 (by decide) (sm3_ok G w) 60 [] (Nat.le_of_ble_eq_true rfl) ?_
    simp -implicitDefEqProofs only [↓b122_0, ↓b122_8, ↓b122_11, ↓b122_17, ↓b122_20, ↓b122_22, ↓b122_34, ↓b122_39, ↓b122_43, ↓b122_50, b122_0, b122_8, b122_11, b122_17, b122_20, b122_22, b122_34, b122_39, b122_43, b122_50, nLE2, layE7, layE4, layE3, layE2, e0, k3_45, r45, k3_76, r76, n3_1, n3_2, I32, ↓xb, xb, ps, lpad, lat, aok2, rd2, aaok, aav, alok, alen, aok, akk, csum, isLg, cmpI, clsE, Option.elim, eq_self, List.mem_cons, List.not_mem_nil, or_false, false_or, List.append_nil, List.nil_append, List.cons_append, List.append_eq, List.replicate, List.length_cons, List.length_nil, List.map_cons, List.map_nil, ↓reduceIte, reduceCtorEq, if_true, if_false, true_and, and_true, false_and, and_false, and_self, not_true_eq_false, not_false_eq_true, forall_const, true_implies, false_implies, implies_true, Nat.reduceAdd, Nat.reduceSub, Nat.reduceLT, Nat.reduceLeDiff, Nat.reduceEqDiff, Nat.reduceMul, Nat.reducePow, Nat.add_one_ne_zero, Nat.add_one_sub_one, Nat.add_zero, Nat.zero_add, Int.reduceLT, Int.reduceLE, Int.reduceNeg, Int.reduceAdd, Int.reduceSub, Int.reduceToNat, Int.reduceEq, Int.reduceMul, Int.reducePow, Int.cast_ofNat_Int, Int.toNat_natCast, ne_eq, Bool.false_eq_true, true_or, or_true, or_self, Nat.not_lt_zero, ite_e0, ite_e1, lc_lt, lc_ge, lc_gt, lc_le, lc_eq, Classical.not_not]
    with_reducible repeat' (first | (refine And.intro ?_ ?_) | intro _)
    all_goals try omega
    refine CC_vb ok1 (by decide) (sm3_ok G w) 60 [2] (Nat.le_of_ble_eq_true rfl) ?_
    simp -implicitDefEqProofs only [↓b1_0, ↓b1_2, ↓b1_8, ↓b1_21, ↓b1_27, b1_0, b1_2, b1_8, b1_21, b1_27, nLE0, layE0, layE4, hk, n3_4, I32, ↓xb, xb, ps, lpad, lat, aok2, rd2, aaok, aav, alok, alen, aok, akk, csum, isLg, cmpI, clsE, Option.elim, eq_self, List.mem_cons, List.not_mem_nil, or_false, false_or, List.append_nil, List.nil_append, List.cons_append, List.append_eq, List.replicate, List.length_cons, List.length_nil, List.map_cons, List.map_nil, ↓reduceIte, reduceCtorEq, if_true, if_false, true_and, and_true, false_and, and_false, and_self, not_true_eq_false, not_false_eq_true, forall_const, true_implies, false_implies, implies_true, Nat.reduceAdd, Nat.reduceSub, Nat.reduceLT, Nat.reduceLeDiff, Nat.reduceEqDiff, Nat.reduceMul, Nat.reducePow, Nat.add_one_ne_zero, Nat.add_one_sub_one, Nat.add_zero, Nat.zero_add, Int.reduceLT, Int.reduceLE, Int.reduceNeg, Int.reduceAdd, Int.reduceSub, Int.reduceToNat, Int.reduceEq, Int.reduceMul, Int.reducePow, Int.cast_ofNat_Int, Int.toNat_natCast, ne_eq, Bool.false_eq_true, true_or, or_true, or_self, Nat.not_lt_zero, ite_e0, ite_e1, lc_lt, lc_ge, lc_gt, lc_le, lc_eq, Classical.not_not]
    with_reducible repeat' (first | (refine And.intro ?_ ?_) | intro _)
    all_goals try omega
    refine kc_spr_l (σ := σ) (by omega) (fun σ1 f1 s1 => ?_) 13 0 σ (by omega) (by omega) (by omega) (fun h hh => by omega) same.refl
    refine TT_vb ok1 (sm3_ok G w) 60 [] ?_
    simp -implicitDefEqProofs only [↓b1_0, ↓b1_2, ↓b1_8, ↓b1_21, ↓b1_27, b1_0, b1_2, b1_8, b1_21, b1_27, nLE0, layE0, layE4, hk, n3_4, I32, ↓xb, xb, ps, lpad, lat, aok2, rd2, aaok, aav, alok, alen, aok, akk, csum, isLg, cmpI, clsE, Option.elim, eq_self, List.mem_cons, List.not_mem_nil, or_false, false_or, List.append_nil, List.nil_append, List.cons_append, List.append_eq, List.replicate, List.length_cons, List.length_nil, List.map_cons, List.map_nil, ↓reduceIte, reduceCtorEq, if_true, if_false, true_and, and_true, false_and, and_false, and_self, not_true_eq_false, not_false_eq_true, forall_const, true_implies, false_implies, implies_true, Nat.reduceAdd, Nat.reduceSub, Nat.reduceLT, Nat.reduceLeDiff, Nat.reduceEqDiff, Nat.reduceMul, Nat.reducePow, Nat.add_one_ne_zero, Nat.add_one_sub_one, Nat.add_zero, Nat.zero_add, Int.reduceLT, Int.reduceLE, Int.reduceNeg, Int.reduceAdd, Int.reduceSub, Int.reduceToNat, Int.reduceEq, Int.reduceMul, Int.reducePow, Int.cast_ofNat_Int, Int.toNat_natCast, ne_eq, Bool.false_eq_true, true_or, or_true, or_self, Nat.not_lt_zero, ite_e0, ite_e1, lc_lt, lc_ge, lc_gt, lc_le, lc_eq, Classical.not_not]
    with_reducible repeat' (first | (refine And.intro ?_ ?_) | intro _)
    all_goals try omega
    refine kc_spread (fun f j a b => (S11_1 s1 _ _ _).trans (R f j a b)) W (by omega) (T := gr0 (-1)) gr0_r (fun h' hh => (f1 h' hh).trans (gr0_n h').symm) c.1 (gr0_n _) (fun σ2 rb s2 => ?_)
    simp -implicitDefEqProofs only [↓b1_0, ↓b1_2, ↓b1_8, ↓b1_21, ↓b1_27, b1_0, b1_2, b1_8, b1_21, b1_27, nLE0, layE0, layE4, hk, n3_4, I32, ↓xb, xb, ps, lpad, lat, aok2, rd2, aaok, aav, alok, alen, aok, akk, csum, isLg, cmpI, clsE, Option.elim, eq_self, List.mem_cons, List.not_mem_nil, or_false, false_or, List.append_nil, List.nil_append, List.cons_append, List.append_eq, List.replicate, List.length_cons, List.length_nil, List.map_cons, List.map_nil, ↓reduceIte, reduceCtorEq, if_true, if_false, true_and, and_true, false_and, and_false, and_self, not_true_eq_false, not_false_eq_true, forall_const, true_implies, false_implies, implies_true, Nat.reduceAdd, Nat.reduceSub, Nat.reduceLT, Nat.reduceLeDiff, Nat.reduceEqDiff, Nat.reduceMul, Nat.reducePow, Nat.add_one_ne_zero, Nat.add_one_sub_one, Nat.add_zero, Nat.zero_add, Int.reduceLT, Int.reduceLE, Int.reduceNeg, Int.reduceAdd, Int.reduceSub, Int.reduceToNat, Int.reduceEq, Int.reduceMul, Int.reducePow, Int.cast_ofNat_Int, Int.toNat_natCast, ne_eq, Bool.false_eq_true, true_or, or_true, or_self, Nat.not_lt_zero, ite_e0, ite_e1, lc_lt, lc_ge, lc_gt, lc_le, lc_eq, Classical.not_not]
    with_reducible repeat' (first | (refine And.intro ?_ ?_) | intro _)
    all_goals try omega
    have I := bO_inv W 12 0 _ (b0_inv W (T := gr0 (-1)) (h := h.toNat) gr0_r (gr0_n _) (by omega))
    have q2 := q1 c σ2 (s1.trans s2)
    have eb : knP P h = bF P (gr0 (-1)) h.toNat := rfl
    have eb2 : bO P 12 0 (b0 (gr0 (-1)) h.toNat) = bF P (gr0 (-1)) h.toNat := rfl
    rw [eb] at q2
    rw [eb2] at I
    revert rb I q2
    generalize bF P (gr0 (-1)) h.toNat = B
    intro rb I q2
    obtain ⟨i1, i2, i3, i4⟩ := I
    have r3 := rb.2.2
    by_cases cw : wh = 0
    · subst cw
      rw [show knA B 0 = B.2.2.1 (B.2.2.2 - 1) from if_pos rfl] at q2
      simp -implicitDefEqProofs only [↓b122_0, ↓b122_8, ↓b122_11, ↓b122_17, ↓b122_20, ↓b122_22, ↓b122_34, ↓b122_39, ↓b122_43, ↓b122_50, b122_0, b122_8, b122_11, b122_17, b122_20, b122_22, b122_34, b122_39, b122_43, b122_50, nLE2, layE7, layE4, layE3, layE2, e0, k3_45, r45, k3_76, r76, n3_1, n3_2, I32, ↓xb, xb, ps, lpad, lat, aok2, rd2, aaok, aav, alok, alen, aok, akk, csum, isLg, cmpI, clsE, Option.elim, eq_self, List.mem_cons, List.not_mem_nil, or_false, false_or, List.append_nil, List.nil_append, List.cons_append, List.append_eq, List.replicate, List.length_cons, List.length_nil, List.map_cons, List.map_nil, ↓reduceIte, reduceCtorEq, if_true, if_false, true_and, and_true, false_and, and_false, and_self, not_true_eq_false, not_false_eq_true, forall_const, true_implies, false_implies, implies_true, Nat.reduceAdd, Nat.reduceSub, Nat.reduceLT, Nat.reduceLeDiff, Nat.reduceEqDiff, Nat.reduceMul, Nat.reducePow, Nat.add_one_ne_zero, Nat.add_one_sub_one, Nat.add_zero, Nat.zero_add, Int.reduceLT, Int.reduceLE, Int.reduceNeg, Int.reduceAdd, Int.reduceSub, Int.reduceToNat, Int.reduceEq, Int.reduceMul, Int.reducePow, Int.cast_ofNat_Int, Int.toNat_natCast, ne_eq, Bool.false_eq_true, true_or, or_true, or_self, Nat.not_lt_zero, ite_e0, ite_e1, lc_lt, lc_ge, lc_gt, lc_le, lc_eq, Classical.not_not]
      with_reducible repeat' (first | (refine And.intro ?_ ?_) | intro _)
      all_goals try omega
      all_goals first | omega | exact q2
    · rw [show knA B wh = (B.2.2.2 : Int) - 1 from if_neg cw] at q2
      simp -implicitDefEqProofs only [↓b122_0, ↓b122_8, ↓b122_11, ↓b122_17, ↓b122_20, ↓b122_22, ↓b122_34, ↓b122_39, ↓b122_43, ↓b122_50, b122_0, b122_8, b122_11, b122_17, b122_20, b122_22, b122_34, b122_39, b122_43, b122_50, nLE2, layE7, layE4, layE3, layE2, cw, k3_45, r45, k3_76, r76, n3_1, n3_2, I32, ↓xb, xb, ps, lpad, lat, aok2, rd2, aaok, aav, alok, alen, aok, akk, csum, isLg, cmpI, clsE, Option.elim, eq_self, List.mem_cons, List.not_mem_nil, or_false, false_or, List.append_nil, List.nil_append, List.cons_append, List.append_eq, List.replicate, List.length_cons, List.length_nil, List.map_cons, List.map_nil, ↓reduceIte, reduceCtorEq, if_true, if_false, true_and, and_true, false_and, and_false, and_self, not_true_eq_false, not_false_eq_true, forall_const, true_implies, false_implies, implies_true, Nat.reduceAdd, Nat.reduceSub, Nat.reduceLT, Nat.reduceLeDiff, Nat.reduceEqDiff, Nat.reduceMul, Nat.reducePow, Nat.add_one_ne_zero, Nat.add_one_sub_one, Nat.add_zero, Nat.zero_add, Int.reduceLT, Int.reduceLE, Int.reduceNeg, Int.reduceAdd, Int.reduceSub, Int.reduceToNat, Int.reduceEq, Int.reduceMul, Int.reducePow, Int.cast_ofNat_Int, Int.toNat_natCast, ne_eq, Bool.false_eq_true, true_or, or_true, or_self, Nat.not_lt_zero, ite_e0, ite_e1, lc_lt, lc_ge, lc_gt, lc_le, lc_eq, Classical.not_not]
      with_reducible repeat' (first | (refine And.intro ?_ ?_) | intro _)
      all_goals try omega
      refine CC_vb ok2 (by decide) (sm3_ok G w) 60 [] (Nat.le_of_ble_eq_true rfl) ?_
      simp -implicitDefEqProofs only [↓b2_0, b2_0, nLE0, layE0, layE4, r3, I32, ↓xb, xb, ps, lpad, lat, aok2, rd2, aaok, aav, alok, alen, aok, akk, csum, isLg, cmpI, clsE, Option.elim, eq_self, List.mem_cons, List.not_mem_nil, or_false, false_or, List.append_nil, List.nil_append, List.cons_append, List.append_eq, List.replicate, List.length_cons, List.length_nil, List.map_cons, List.map_nil, ↓reduceIte, reduceCtorEq, if_true, if_false, true_and, and_true, false_and, and_false, and_self, not_true_eq_false, not_false_eq_true, forall_const, true_implies, false_implies, implies_true, Nat.reduceAdd, Nat.reduceSub, Nat.reduceLT, Nat.reduceLeDiff, Nat.reduceEqDiff, Nat.reduceMul, Nat.reducePow, Nat.add_one_ne_zero, Nat.add_one_sub_one, Nat.add_zero, Nat.zero_add, Int.reduceLT, Int.reduceLE, Int.reduceNeg, Int.reduceAdd, Int.reduceSub, Int.reduceToNat, Int.reduceEq, Int.reduceMul, Int.reducePow, Int.cast_ofNat_Int, Int.toNat_natCast, ne_eq, Bool.false_eq_true, true_or, or_true, or_self, Nat.not_lt_zero, ite_e0, ite_e1, lc_lt, lc_ge, lc_gt, lc_le, lc_eq, Classical.not_not]
      with_reducible repeat' (first | (refine And.intro ?_ ?_) | intro _)
      all_goals try omega
      all_goals first | omega | skip
      simp -implicitDefEqProofs only [↓b122_0, ↓b122_8, ↓b122_11, ↓b122_17, ↓b122_20, ↓b122_22, ↓b122_34, ↓b122_39, ↓b122_43, ↓b122_50, b122_0, b122_8, b122_11, b122_17, b122_20, b122_22, b122_34, b122_39, b122_43, b122_50, nLE2, layE7, layE4, layE3, layE2, cw, k3_45, r45, k3_76, r76, n3_1, n3_2, I32, ↓xb, xb, ps, lpad, lat, aok2, rd2, aaok, aav, alok, alen, aok, akk, csum, isLg, cmpI, clsE, Option.elim, eq_self, List.mem_cons, List.not_mem_nil, or_false, false_or, List.append_nil, List.nil_append, List.cons_append, List.append_eq, List.replicate, List.length_cons, List.length_nil, List.map_cons, List.map_nil, ↓reduceIte, reduceCtorEq, if_true, if_false, true_and, and_true, false_and, and_false, and_self, not_true_eq_false, not_false_eq_true, forall_const, true_implies, false_implies, implies_true, Nat.reduceAdd, Nat.reduceSub, Nat.reduceLT, Nat.reduceLeDiff, Nat.reduceEqDiff, Nat.reduceMul, Nat.reducePow, Nat.add_one_ne_zero, Nat.add_one_sub_one, Nat.add_zero, Nat.zero_add, Int.reduceLT, Int.reduceLE, Int.reduceNeg, Int.reduceAdd, Int.reduceSub, Int.reduceToNat, Int.reduceEq, Int.reduceMul, Int.reducePow, Int.cast_ofNat_Int, Int.toNat_natCast, ne_eq, Bool.false_eq_true, true_or, or_true, or_self, Nat.not_lt_zero, ite_e0, ite_e1, lc_lt, lc_ge, lc_gt, lc_le, lc_eq, Classical.not_not]
      with_reducible repeat' (first | (refine And.intro ?_ ?_) | intro _)
      all_goals try omega
      all_goals first | omega | exact q2
  · refine CC_vb ok122 (by decide) (sm3_ok G w) 60 [22] (Nat.le_of_ble_eq_true rfl) ?_
    simp -implicitDefEqProofs only [↓b122_0, ↓b122_8, ↓b122_11, ↓b122_17, ↓b122_20, ↓b122_22, ↓b122_34, ↓b122_39, ↓b122_43, ↓b122_50, b122_0, b122_8, b122_11, b122_17, b122_20, b122_22, b122_34, b122_39, b122_43, b122_50, nLE2, layE7, layE4, layE3, layE2, e0, k3_45, r45, k3_76, r76, n3_1, n3_2, I32, ↓xb, xb, ps, lpad, lat, aok2, rd2, aaok, aav, alok, alen, aok, akk, csum, isLg, cmpI, clsE, Option.elim, eq_self, List.mem_cons, List.not_mem_nil, or_false, false_or, List.append_nil, List.nil_append, List.cons_append, List.append_eq, List.replicate, List.length_cons, List.length_nil, List.map_cons, List.map_nil, ↓reduceIte, reduceCtorEq, if_true, if_false, true_and, and_true, false_and, and_false, and_self, not_true_eq_false, not_false_eq_true, forall_const, true_implies, false_implies, implies_true, Nat.reduceAdd, Nat.reduceSub, Nat.reduceLT, Nat.reduceLeDiff, Nat.reduceEqDiff, Nat.reduceMul, Nat.reducePow, Nat.add_one_ne_zero, Nat.add_one_sub_one, Nat.add_zero, Nat.zero_add, Int.reduceLT, Int.reduceLE, Int.reduceNeg, Int.reduceAdd, Int.reduceSub, Int.reduceToNat, Int.reduceEq, Int.reduceMul, Int.reducePow, Int.cast_ofNat_Int, Int.toNat_natCast, ne_eq, Bool.false_eq_true, true_or, or_true, or_self, Nat.not_lt_zero, ite_e0, ite_e1, lc_lt, lc_ge, lc_gt, lc_le, lc_eq, Classical.not_not]
    with_reducible repeat' (first | (refine And.intro ?_ ?_) | intro _)
    all_goals try omega
    all_goals first | omega | exact q0 c
set_option maxRecDepth 100000 in
set_option maxHeartbeats 1000000 in
theorem kc_gr_f (hk : 6 ≤ k) {v1 : AV} {wo : Int} (q : ∀ σ', (∀ h : Nat, h < 12 → σ' 11 3 0 h = gr0 wo h) → same S11 σ σ' → TT G w w w k (0, 0) 3 30 [some (vr 11 0 0), some v1, some (vi wo), some (vi 12), none] [] σ' Q) :
    ∀ (m : Nat) (i : Int) (σ' : Mem), 0 ≤ i → i ≤ 12 → 12 < i + m → (∀ h : Nat, (h : Int) < i → σ' 11 3 0 h = gr0 wo h) → same S11 σ σ' → TT G w w w k (0, 0) 3 2 [some (vr 11 0 0), some v1, some (vi wo), some (vi i), none] [] σ' Q
  | 0, i, σ', h0, h1, h2, _, _ => by omega
  | m + 1, i, σ', h0, h1, h2, hc, hs => by
    have ih := kc_gr_f hk q m (i + 1)
    have st : ∀ v, v = gr0 wo i.toNat → ∀ h : Nat, (h : Int) < i + 1 → up σ' 11 3 0 i.toNat v 11 3 0 h = gr0 wo h := fun v hv h hh => by
      by_cases e : h = i.toNat
      · subst e; rw [upp_eq]; exact hv
      · rw [upp_nc e]; exact hc h (by omega)
    by_cases hi : i < 12
    · refine TT_vb ok3 (sm3_ok G w) 60 [2, 30] ?_
      simp -implicitDefEqProofs only [↓b3_0, ↓b3_2, ↓b3_8, ↓b3_18, ↓b3_22, ↓b3_23, ↓b3_30, ↓b3_35, ↓b3_44, ↓b3_54, ↓b3_65, ↓b3_71, ↓b3_61, b3_0, b3_2, b3_8, b3_18, b3_22, b3_23, b3_30, b3_35, b3_44, b3_54, b3_65, b3_71, b3_61, nLE0, layE0, layE4, h0, n3_4, I32, ↓xb, xb, ps, lpad, lat, aok2, rd2, aaok, aav, alok, alen, aok, akk, csum, isLg, cmpI, clsE, Option.elim, eq_self, List.mem_cons, List.not_mem_nil, or_false, false_or, List.append_nil, List.nil_append, List.cons_append, List.append_eq, List.replicate, List.length_cons, List.length_nil, List.map_cons, List.map_nil, ↓reduceIte, reduceCtorEq, if_true, if_false, true_and, and_true, false_and, and_false, and_self, not_true_eq_false, not_false_eq_true, forall_const, true_implies, false_implies, implies_true, Nat.reduceAdd, Nat.reduceSub, Nat.reduceLT, Nat.reduceLeDiff, Nat.reduceEqDiff, Nat.reduceMul, Nat.reducePow, Nat.add_one_ne_zero, Nat.add_one_sub_one, Nat.add_zero, Nat.zero_add, Int.reduceLT, Int.reduceLE, Int.reduceNeg, Int.reduceAdd, Int.reduceSub, Int.reduceToNat, Int.reduceEq, Int.reduceMul, Int.reducePow, Int.cast_ofNat_Int, Int.toNat_natCast, ne_eq, Bool.false_eq_true, true_or, or_true, or_self, Nat.not_lt_zero, ite_e0, ite_e1, lc_lt, lc_ge, lc_gt, lc_le, lc_eq, Classical.not_not]
      with_reducible repeat' (first | (refine And.intro ?_ ?_) | intro _)
      all_goals try omega
      all_goals first | omega | skip
      · exact ih _ (by omega) (by omega) (by omega) (st 0 (by unfold gr0; rw [if_neg (by omega)])) (hs.put rfl)
      · exact ih _ (by omega) (by omega) (by omega) (st 1 (by unfold gr0; rw [if_pos (by omega)])) (hs.put rfl)
    · have e : i = 12 := by omega
      subst e
      refine TT_vb ok3 (sm3_ok G w) 60 [2, 30] ?_
      simp -implicitDefEqProofs only [↓b3_0, ↓b3_2, ↓b3_8, ↓b3_18, ↓b3_22, ↓b3_23, ↓b3_30, ↓b3_35, ↓b3_44, ↓b3_54, ↓b3_65, ↓b3_71, ↓b3_61, b3_0, b3_2, b3_8, b3_18, b3_22, b3_23, b3_30, b3_35, b3_44, b3_54, b3_65, b3_71, b3_61, nLE0, layE0, layE4, h0, n3_4, I32, ↓xb, xb, ps, lpad, lat, aok2, rd2, aaok, aav, alok, alen, aok, akk, csum, isLg, cmpI, clsE, Option.elim, eq_self, List.mem_cons, List.not_mem_nil, or_false, false_or, List.append_nil, List.nil_append, List.cons_append, List.append_eq, List.replicate, List.length_cons, List.length_nil, List.map_cons, List.map_nil, ↓reduceIte, reduceCtorEq, if_true, if_false, true_and, and_true, false_and, and_false, and_self, not_true_eq_false, not_false_eq_true, forall_const, true_implies, false_implies, implies_true, Nat.reduceAdd, Nat.reduceSub, Nat.reduceLT, Nat.reduceLeDiff, Nat.reduceEqDiff, Nat.reduceMul, Nat.reducePow, Nat.add_one_ne_zero, Nat.add_one_sub_one, Nat.add_zero, Nat.zero_add, Int.reduceLT, Int.reduceLE, Int.reduceNeg, Int.reduceAdd, Int.reduceSub, Int.reduceToNat, Int.reduceEq, Int.reduceMul, Int.reducePow, Int.cast_ofNat_Int, Int.toNat_natCast, ne_eq, Bool.false_eq_true, true_or, or_true, or_self, Nat.not_lt_zero, ite_e0, ite_e1, lc_lt, lc_ge, lc_gt, lc_le, lc_eq, Classical.not_not]
      with_reducible repeat' (first | (refine And.intro ?_ ?_) | intro _)
      all_goals try omega
      exact q σ' (fun h hh => hc h (by omega)) hs
set_option maxRecDepth 100000 in
set_option maxHeartbeats 1000000 in
theorem kc_gr_l (R0 : RT True σ 1 P) (W : WF P) (hk : 12 ≤ k) {wo : Int} (q : ∀ σ', same S11 σ σ' → Q (some (vi (gnP P wo))) σ') :
    ∀ (m : Nat) (h : Int) (σ' : Mem), 0 ≤ h → h ≤ P 2 0 → P 2 0 < h + m → (∀ h' : Nat, h' < 12 → σ' 11 3 0 h' = (grP P wo h.toNat).1 h') → same S11 σ σ' → TT G w w w k (0, 0) 3 35 [some (vr 11 0 0), some (vr 1 0 0), some (vi wo), some (vi (grP P wo h.toNat).2), some (vi h)] [] σ' Q
  | 0, h, σ', h0, h1, h2, _, _ => by omega
  | m + 1, h, σ', h0, h1, h2, hm, hs => by
    have ih := kc_gr_l R0 W hk q m (h + 1)
    have st : grP P wo (h + 1).toNat = grS P h.toNat (grP P wo h.toNat) := by unfold grP; exact iter_toNat _ h0 _
    rw [st] at ih
    have w1 := W.sc.1
    have gi := gr_inv W (wo := wo) h.toNat (by omega)
    have R : RT True σ' 1 P := fun f j a b => (S11_1 hs _ _ _).trans (R0 f j a b)
    have e0 := R.houses
    by_cases hH : h < P 2 0
    · revert ih hm gi
      generalize grP P wo h.toNat = a
      intro hm ih gi
      obtain ⟨g1, g2, g3, g4⟩ := gi
      have hmh := hm h.toNat (by omega)
      by_cases hz : a.1 h.toNat = 0
      · rw [hz] at hmh
        rw [show grS P h.toNat a = ((bF P a.1 h.toNat).1, a.2 + 1) from if_pos hz] at ih
        refine TT_vb ok3 (sm3_ok G w) 60 [35, 61] ?_
        simp -implicitDefEqProofs only [↓b3_0, ↓b3_2, ↓b3_8, ↓b3_18, ↓b3_22, ↓b3_23, ↓b3_30, ↓b3_35, ↓b3_44, ↓b3_54, ↓b3_65, ↓b3_71, ↓b3_61, b3_0, b3_2, b3_8, b3_18, b3_22, b3_23, b3_30, b3_35, b3_44, b3_54, b3_65, b3_71, b3_61, nLE0, layE0, layE4, e0, hmh, n3_4, I32, ↓xb, xb, ps, lpad, lat, aok2, rd2, aaok, aav, alok, alen, aok, akk, csum, isLg, cmpI, clsE, Option.elim, eq_self, List.mem_cons, List.not_mem_nil, or_false, false_or, List.append_nil, List.nil_append, List.cons_append, List.append_eq, List.replicate, List.length_cons, List.length_nil, List.map_cons, List.map_nil, ↓reduceIte, reduceCtorEq, if_true, if_false, true_and, and_true, false_and, and_false, and_self, not_true_eq_false, not_false_eq_true, forall_const, true_implies, false_implies, implies_true, Nat.reduceAdd, Nat.reduceSub, Nat.reduceLT, Nat.reduceLeDiff, Nat.reduceEqDiff, Nat.reduceMul, Nat.reducePow, Nat.add_one_ne_zero, Nat.add_one_sub_one, Nat.add_zero, Nat.zero_add, Int.reduceLT, Int.reduceLE, Int.reduceNeg, Int.reduceAdd, Int.reduceSub, Int.reduceToNat, Int.reduceEq, Int.reduceMul, Int.reducePow, Int.cast_ofNat_Int, Int.toNat_natCast, ne_eq, Bool.false_eq_true, true_or, or_true, or_self, Nat.not_lt_zero, ite_e0, ite_e1, lc_lt, lc_ge, lc_gt, lc_le, lc_eq, Classical.not_not]
        with_reducible repeat' (first | (refine And.intro ?_ ?_) | intro _)
        all_goals try omega
        all_goals first | omega | skip
        refine kc_spread R W (by omega) g1 hm ⟨h0, hH⟩ hz (fun σ2 rb s2 => ?_)
        simp -implicitDefEqProofs only [↓b3_0, ↓b3_2, ↓b3_8, ↓b3_18, ↓b3_22, ↓b3_23, ↓b3_30, ↓b3_35, ↓b3_44, ↓b3_54, ↓b3_65, ↓b3_71, ↓b3_61, b3_0, b3_2, b3_8, b3_18, b3_22, b3_23, b3_30, b3_35, b3_44, b3_54, b3_65, b3_71, b3_61, nLE0, layE0, layE4, hk, n3_4, I32, ↓xb, xb, ps, lpad, lat, aok2, rd2, aaok, aav, alok, alen, aok, akk, csum, isLg, cmpI, clsE, Option.elim, eq_self, List.mem_cons, List.not_mem_nil, or_false, false_or, List.append_nil, List.nil_append, List.cons_append, List.append_eq, List.replicate, List.length_cons, List.length_nil, List.map_cons, List.map_nil, ↓reduceIte, reduceCtorEq, if_true, if_false, true_and, and_true, false_and, and_false, and_self, not_true_eq_false, not_false_eq_true, forall_const, true_implies, false_implies, implies_true, Nat.reduceAdd, Nat.reduceSub, Nat.reduceLT, Nat.reduceLeDiff, Nat.reduceEqDiff, Nat.reduceMul, Nat.reducePow, Nat.add_one_ne_zero, Nat.add_one_sub_one, Nat.add_zero, Nat.zero_add, Int.reduceLT, Int.reduceLE, Int.reduceNeg, Int.reduceAdd, Int.reduceSub, Int.reduceToNat, Int.reduceEq, Int.reduceMul, Int.reducePow, Int.cast_ofNat_Int, Int.toNat_natCast, ne_eq, Bool.false_eq_true, true_or, or_true, or_self, Nat.not_lt_zero, ite_e0, ite_e1, lc_lt, lc_ge, lc_gt, lc_le, lc_eq, Classical.not_not]
        with_reducible repeat' (first | (refine And.intro ?_ ?_) | intro _)
        all_goals try omega
        refine TT_vn ok3 (sm3_ok G w) 60 2 [35] ?_
        simp -implicitDefEqProofs only [↓b3_0, ↓b3_2, ↓b3_8, ↓b3_18, ↓b3_22, ↓b3_23, ↓b3_30, ↓b3_35, ↓b3_44, ↓b3_54, ↓b3_65, ↓b3_71, ↓b3_61, b3_0, b3_2, b3_8, b3_18, b3_22, b3_23, b3_30, b3_35, b3_44, b3_54, b3_65, b3_71, b3_61, nLE0, layE0, layE4, hk, n3_4, I32, ↓xb, xb, ps, lpad, lat, aok2, rd2, aaok, aav, alok, alen, aok, akk, csum, isLg, cmpI, clsE, Option.elim, eq_self, List.mem_cons, List.not_mem_nil, or_false, false_or, List.append_nil, List.nil_append, List.cons_append, List.append_eq, List.replicate, List.length_cons, List.length_nil, List.map_cons, List.map_nil, ↓reduceIte, reduceCtorEq, if_true, if_false, true_and, and_true, false_and, and_false, and_self, not_true_eq_false, not_false_eq_true, forall_const, true_implies, false_implies, implies_true, Nat.reduceAdd, Nat.reduceSub, Nat.reduceLT, Nat.reduceLeDiff, Nat.reduceEqDiff, Nat.reduceMul, Nat.reducePow, Nat.add_one_ne_zero, Nat.add_one_sub_one, Nat.add_zero, Nat.zero_add, Int.reduceLT, Int.reduceLE, Int.reduceNeg, Int.reduceAdd, Int.reduceSub, Int.reduceToNat, Int.reduceEq, Int.reduceMul, Int.reducePow, Int.cast_ofNat_Int, Int.toNat_natCast, ne_eq, Bool.false_eq_true, true_or, or_true, or_self, Nat.not_lt_zero, ite_e0, ite_e1, lc_lt, lc_ge, lc_gt, lc_le, lc_eq, Classical.not_not]
        with_reducible repeat' (first | (refine And.intro ?_ ?_) | intro _)
        all_goals try omega
        all_goals first | omega | exact ih σ2 (by omega) (by omega) (by omega) rb.1 (hs.trans s2)
      · rw [← hmh] at hz
        rw [show grS P h.toNat a = a from if_neg (by rw [← hmh]; exact hz)] at ih
        refine TT_vb ok3 (sm3_ok G w) 60 [35, 61] ?_
        simp -implicitDefEqProofs only [↓b3_0, ↓b3_2, ↓b3_8, ↓b3_18, ↓b3_22, ↓b3_23, ↓b3_30, ↓b3_35, ↓b3_44, ↓b3_54, ↓b3_65, ↓b3_71, ↓b3_61, b3_0, b3_2, b3_8, b3_18, b3_22, b3_23, b3_30, b3_35, b3_44, b3_54, b3_65, b3_71, b3_61, nLE0, layE0, layE4, e0, hz, n3_4, I32, ↓xb, xb, ps, lpad, lat, aok2, rd2, aaok, aav, alok, alen, aok, akk, csum, isLg, cmpI, clsE, Option.elim, eq_self, List.mem_cons, List.not_mem_nil, or_false, false_or, List.append_nil, List.nil_append, List.cons_append, List.append_eq, List.replicate, List.length_cons, List.length_nil, List.map_cons, List.map_nil, ↓reduceIte, reduceCtorEq, if_true, if_false, true_and, and_true, false_and, and_false, and_self, not_true_eq_false, not_false_eq_true, forall_const, true_implies, false_implies, implies_true, Nat.reduceAdd, Nat.reduceSub, Nat.reduceLT, Nat.reduceLeDiff, Nat.reduceEqDiff, Nat.reduceMul, Nat.reducePow, Nat.add_one_ne_zero, Nat.add_one_sub_one, Nat.add_zero, Nat.zero_add, Int.reduceLT, Int.reduceLE, Int.reduceNeg, Int.reduceAdd, Int.reduceSub, Int.reduceToNat, Int.reduceEq, Int.reduceMul, Int.reducePow, Int.cast_ofNat_Int, Int.toNat_natCast, ne_eq, Bool.false_eq_true, true_or, or_true, or_self, Nat.not_lt_zero, ite_e0, ite_e1, lc_lt, lc_ge, lc_gt, lc_le, lc_eq, Classical.not_not]
        with_reducible repeat' (first | (refine And.intro ?_ ?_) | intro _)
        all_goals try omega
        all_goals first | omega | exact ih σ' (by omega) (by omega) (by omega) hm hs
    · have ei : h = P 2 0 := by omega
      have z := q σ' hs
      rw [ei]
      refine TT_vb ok3 (sm3_ok G w) 60 [35, 61] ?_
      simp -implicitDefEqProofs only [↓b3_0, ↓b3_2, ↓b3_8, ↓b3_18, ↓b3_22, ↓b3_23, ↓b3_30, ↓b3_35, ↓b3_44, ↓b3_54, ↓b3_65, ↓b3_71, ↓b3_61, b3_0, b3_2, b3_8, b3_18, b3_22, b3_23, b3_30, b3_35, b3_44, b3_54, b3_65, b3_71, b3_61, nLE0, layE0, layE4, e0, n3_4, I32, ↓xb, xb, ps, lpad, lat, aok2, rd2, aaok, aav, alok, alen, aok, akk, csum, isLg, cmpI, clsE, Option.elim, eq_self, List.mem_cons, List.not_mem_nil, or_false, false_or, List.append_nil, List.nil_append, List.cons_append, List.append_eq, List.replicate, List.length_cons, List.length_nil, List.map_cons, List.map_nil, ↓reduceIte, reduceCtorEq, if_true, if_false, true_and, and_true, false_and, and_false, and_self, not_true_eq_false, not_false_eq_true, forall_const, true_implies, false_implies, implies_true, Nat.reduceAdd, Nat.reduceSub, Nat.reduceLT, Nat.reduceLeDiff, Nat.reduceEqDiff, Nat.reduceMul, Nat.reducePow, Nat.add_one_ne_zero, Nat.add_one_sub_one, Nat.add_zero, Nat.zero_add, Int.reduceLT, Int.reduceLE, Int.reduceNeg, Int.reduceAdd, Int.reduceSub, Int.reduceToNat, Int.reduceEq, Int.reduceMul, Int.reducePow, Int.cast_ofNat_Int, Int.toNat_natCast, ne_eq, Bool.false_eq_true, true_or, or_true, or_self, Nat.not_lt_zero, ite_e0, ite_e1, lc_lt, lc_ge, lc_gt, lc_le, lc_eq, Classical.not_not]
      with_reducible repeat' (first | (refine And.intro ?_ ?_) | intro _)
      all_goals try omega
      all_goals exact z
set_option maxRecDepth 100000 in
set_option maxHeartbeats 1000000 in
theorem kc_groups (R : RT True σ 1 P) (W : WF P) (hk : 14 ≤ k) {wo : Int} (q : ∀ σ', same S11 σ σ' → Q (some (vi (gnP P wo))) σ') : CC G w w k (0, 0) 3 [vr 11 0 0, vr 1 0 0, vi wo] σ Q := by
  have w1 := W.sc.1
  refine CC_vb ok3 (by decide) (sm3_ok G w) 60 [2] (Nat.le_of_ble_eq_true rfl) ?_
  simp -implicitDefEqProofs only [↓b3_0, ↓b3_2, ↓b3_8, ↓b3_18, ↓b3_22, ↓b3_23, ↓b3_30, ↓b3_35, ↓b3_44, ↓b3_54, ↓b3_65, ↓b3_71, ↓b3_61, b3_0, b3_2, b3_8, b3_18, b3_22, b3_23, b3_30, b3_35, b3_44, b3_54, b3_65, b3_71, b3_61, nLE0, layE0, layE4, hk, n3_4, I32, ↓xb, xb, ps, lpad, lat, aok2, rd2, aaok, aav, alok, alen, aok, akk, csum, isLg, cmpI, clsE, Option.elim, eq_self, List.mem_cons, List.not_mem_nil, or_false, false_or, List.append_nil, List.nil_append, List.cons_append, List.append_eq, List.replicate, List.length_cons, List.length_nil, List.map_cons, List.map_nil, ↓reduceIte, reduceCtorEq, if_true, if_false, true_and, and_true, false_and, and_false, and_self, not_true_eq_false, not_false_eq_true, forall_const, true_implies, false_implies, implies_true, Nat.reduceAdd, Nat.reduceSub, Nat.reduceLT, Nat.reduceLeDiff, Nat.reduceEqDiff, Nat.reduceMul, Nat.reducePow, Nat.add_one_ne_zero, Nat.add_one_sub_one, Nat.add_zero, Nat.zero_add, Int.reduceLT, Int.reduceLE, Int.reduceNeg, Int.reduceAdd, Int.reduceSub, Int.reduceToNat, Int.reduceEq, Int.reduceMul, Int.reducePow, Int.cast_ofNat_Int, Int.toNat_natCast, ne_eq, Bool.false_eq_true, true_or, or_true, or_self, Nat.not_lt_zero, ite_e0, ite_e1, lc_lt, lc_ge, lc_gt, lc_le, lc_eq, Classical.not_not]
  with_reducible repeat' (first | (refine And.intro ?_ ?_) | intro _)
  all_goals try omega
  refine kc_gr_f (σ := σ) (by omega) (fun σ1 f1 s1 => ?_) 13 0 σ (by omega) (by omega) (by omega) (fun h hh => by omega) same.refl
  refine TT_vb ok3 (sm3_ok G w) 60 [35] ?_
  simp -implicitDefEqProofs only [↓b3_0, ↓b3_2, ↓b3_8, ↓b3_18, ↓b3_22, ↓b3_23, ↓b3_30, ↓b3_35, ↓b3_44, ↓b3_54, ↓b3_65, ↓b3_71, ↓b3_61, b3_0, b3_2, b3_8, b3_18, b3_22, b3_23, b3_30, b3_35, b3_44, b3_54, b3_65, b3_71, b3_61, nLE0, layE0, layE4, hk, n3_4, I32, ↓xb, xb, ps, lpad, lat, aok2, rd2, aaok, aav, alok, alen, aok, akk, csum, isLg, cmpI, clsE, Option.elim, eq_self, List.mem_cons, List.not_mem_nil, or_false, false_or, List.append_nil, List.nil_append, List.cons_append, List.append_eq, List.replicate, List.length_cons, List.length_nil, List.map_cons, List.map_nil, ↓reduceIte, reduceCtorEq, if_true, if_false, true_and, and_true, false_and, and_false, and_self, not_true_eq_false, not_false_eq_true, forall_const, true_implies, false_implies, implies_true, Nat.reduceAdd, Nat.reduceSub, Nat.reduceLT, Nat.reduceLeDiff, Nat.reduceEqDiff, Nat.reduceMul, Nat.reducePow, Nat.add_one_ne_zero, Nat.add_one_sub_one, Nat.add_zero, Nat.zero_add, Int.reduceLT, Int.reduceLE, Int.reduceNeg, Int.reduceAdd, Int.reduceSub, Int.reduceToNat, Int.reduceEq, Int.reduceMul, Int.reducePow, Int.cast_ofNat_Int, Int.toNat_natCast, ne_eq, Bool.false_eq_true, true_or, or_true, or_self, Nat.not_lt_zero, ite_e0, ite_e1, lc_lt, lc_ge, lc_gt, lc_le, lc_eq, Classical.not_not]
  with_reducible repeat' (first | (refine And.intro ?_ ?_) | intro _)
  all_goals try omega
  exact kc_gr_l R W (by omega) q 13 0 σ1 (by omega) (by omega) (by omega) f1 s1
set_option maxRecDepth 100000 in
set_option maxHeartbeats 1000000 in
theorem kc_parts_l (R0 : RT True σ 1 P) (W : WF P) (hk : 18 ≤ k) {wh : Int} (q : ∀ σ', same S11 σ σ' → Q (some (vi (ptR P (P 2 0).toNat).1)) σ') :
    ∀ (m : Nat) (i b v : Int) (σ' : Mem) (l5 : Option AV), 0 ≤ i → i ≤ P 2 0 → P 2 0 < i + m → (b, v) = ptR P i.toNat → same S11 σ σ' → TT G w w w k (0, 0) 123 36 [some (vr 0 0 0), some (vi wh), some (vi b), some (vi v), some (vi i), l5] [] σ' Q
  | 0, i, b, v, σ', l5, h0, h1, h2, _, _ => by omega
  | m + 1, i, b, v, σ', l5, h0, h1, h2, hc, hs => by
    have ih := kc_parts_l R0 W hk (wh := wh) q m (i + 1)
    have st : ptR P (i + 1).toNat = pick (fun h => gnP P h) i.toNat (b, v) := by rw [hc]; unfold ptR; exact iter_toNat _ h0 _
    rw [st] at ih
    have w1 := W.sc.1
    have ei : ((i.toNat : Nat) : Int) = i := by omega
    have pk : pick (fun h => gnP P h) i.toNat (b, v) = if b = -2 ∨ v < gnP P i then (i, gnP P i) else (b, v) := by
      show (if b = -2 ∨ v < gnP P ((i.toNat : Nat) : Int) then (((i.toNat : Nat) : Int), gnP P ((i.toNat : Nat) : Int)) else (b, v)) = _
      rw [ei]
    rw [pk] at ih
    have R : RT True σ' 1 P := fun f j a b => (S11_1 hs _ _ _).trans (R0 f j a b)
    have e0 := R.houses
    have br := pick_b (f := fun h => gnP P h) i.toNat
    have hc' : (b, v) = iter (pick (fun h => gnP P h)) i.toNat (-2, 0) := hc
    rw [← hc'] at br
    have br' : b = -2 ∨ (0 ≤ b ∧ b < i) := by
      have : b = -2 ∨ (0 ≤ b ∧ b < (i.toNat : Nat)) := br
      omega
    by_cases hi : i < P 2 0
    · refine TT_vb ok123 (sm3_ok G w) 60 [36] ?_
      simp -implicitDefEqProofs only [↓b123_0, ↓b123_6, ↓b123_9, ↓b123_11, ↓b123_15, ↓b123_27, ↓b123_28, ↓b123_36, ↓b123_48, ↓b123_61, ↓b123_69, ↓b123_75, ↓b123_81, ↓b123_87, b123_0, b123_6, b123_9, b123_11, b123_15, b123_27, b123_28, b123_36, b123_48, b123_61, b123_69, b123_75, b123_81, b123_87, nLE2, layE7, layE4, layE3, layE2, e0, k3_76, r76, n3_3, I32, ↓xb, xb, ps, lpad, lat, aok2, rd2, aaok, aav, alok, alen, aok, akk, csum, isLg, cmpI, clsE, Option.elim, eq_self, List.mem_cons, List.not_mem_nil, or_false, false_or, List.append_nil, List.nil_append, List.cons_append, List.append_eq, List.replicate, List.length_cons, List.length_nil, List.map_cons, List.map_nil, ↓reduceIte, reduceCtorEq, if_true, if_false, true_and, and_true, false_and, and_false, and_self, not_true_eq_false, not_false_eq_true, forall_const, true_implies, false_implies, implies_true, Nat.reduceAdd, Nat.reduceSub, Nat.reduceLT, Nat.reduceLeDiff, Nat.reduceEqDiff, Nat.reduceMul, Nat.reducePow, Nat.add_one_ne_zero, Nat.add_one_sub_one, Nat.add_zero, Nat.zero_add, Int.reduceLT, Int.reduceLE, Int.reduceNeg, Int.reduceAdd, Int.reduceSub, Int.reduceToNat, Int.reduceEq, Int.reduceMul, Int.reducePow, Int.cast_ofNat_Int, Int.toNat_natCast, ne_eq, Bool.false_eq_true, true_or, or_true, or_self, Nat.not_lt_zero, ite_e0, ite_e1, lc_lt, lc_ge, lc_gt, lc_le, lc_eq, Classical.not_not]
      with_reducible repeat' (first | (refine And.intro ?_ ?_) | intro _)
      all_goals try omega
      refine kc_groups R W (by omega) (fun σ2 s2 => ?_)
      rcases br' with hb | hb
      · have hb' := eq_true hb
        rw [if_pos (Or.inl hb)] at ih
        simp -implicitDefEqProofs only [↓b123_0, ↓b123_6, ↓b123_9, ↓b123_11, ↓b123_15, ↓b123_27, ↓b123_28, ↓b123_36, ↓b123_48, ↓b123_61, ↓b123_69, ↓b123_75, ↓b123_81, ↓b123_87, b123_0, b123_6, b123_9, b123_11, b123_15, b123_27, b123_28, b123_36, b123_48, b123_61, b123_69, b123_75, b123_81, b123_87, nLE2, layE7, layE4, layE3, layE2, hb', k3_76, r76, n3_3, I32, ↓xb, xb, ps, lpad, lat, aok2, rd2, aaok, aav, alok, alen, aok, akk, csum, isLg, cmpI, clsE, Option.elim, eq_self, List.mem_cons, List.not_mem_nil, or_false, false_or, List.append_nil, List.nil_append, List.cons_append, List.append_eq, List.replicate, List.length_cons, List.length_nil, List.map_cons, List.map_nil, ↓reduceIte, reduceCtorEq, if_true, if_false, true_and, and_true, false_and, and_false, and_self, not_true_eq_false, not_false_eq_true, forall_const, true_implies, false_implies, implies_true, Nat.reduceAdd, Nat.reduceSub, Nat.reduceLT, Nat.reduceLeDiff, Nat.reduceEqDiff, Nat.reduceMul, Nat.reducePow, Nat.add_one_ne_zero, Nat.add_one_sub_one, Nat.add_zero, Nat.zero_add, Int.reduceLT, Int.reduceLE, Int.reduceNeg, Int.reduceAdd, Int.reduceSub, Int.reduceToNat, Int.reduceEq, Int.reduceMul, Int.reducePow, Int.cast_ofNat_Int, Int.toNat_natCast, ne_eq, Bool.false_eq_true, true_or, or_true, or_self, Nat.not_lt_zero, ite_e0, ite_e1, lc_lt, lc_ge, lc_gt, lc_le, lc_eq, Classical.not_not]
        with_reducible repeat' (first | (refine And.intro ?_ ?_) | intro _)
        all_goals try omega
        all_goals first | omega | exact ih _ _ σ2 _ (by omega) (by omega) (by omega) rfl (hs.trans s2)
      · have hb' : ¬ b = -2 := by omega
        by_cases hv : v < gnP P i
        · rw [if_pos (Or.inr hv)] at ih
          simp -implicitDefEqProofs only [↓b123_0, ↓b123_6, ↓b123_9, ↓b123_11, ↓b123_15, ↓b123_27, ↓b123_28, ↓b123_36, ↓b123_48, ↓b123_61, ↓b123_69, ↓b123_75, ↓b123_81, ↓b123_87, b123_0, b123_6, b123_9, b123_11, b123_15, b123_27, b123_28, b123_36, b123_48, b123_61, b123_69, b123_75, b123_81, b123_87, nLE2, layE7, layE4, layE3, layE2, hb', k3_76, r76, n3_3, I32, ↓xb, xb, ps, lpad, lat, aok2, rd2, aaok, aav, alok, alen, aok, akk, csum, isLg, cmpI, clsE, Option.elim, eq_self, List.mem_cons, List.not_mem_nil, or_false, false_or, List.append_nil, List.nil_append, List.cons_append, List.append_eq, List.replicate, List.length_cons, List.length_nil, List.map_cons, List.map_nil, ↓reduceIte, reduceCtorEq, if_true, if_false, true_and, and_true, false_and, and_false, and_self, not_true_eq_false, not_false_eq_true, forall_const, true_implies, false_implies, implies_true, Nat.reduceAdd, Nat.reduceSub, Nat.reduceLT, Nat.reduceLeDiff, Nat.reduceEqDiff, Nat.reduceMul, Nat.reducePow, Nat.add_one_ne_zero, Nat.add_one_sub_one, Nat.add_zero, Nat.zero_add, Int.reduceLT, Int.reduceLE, Int.reduceNeg, Int.reduceAdd, Int.reduceSub, Int.reduceToNat, Int.reduceEq, Int.reduceMul, Int.reducePow, Int.cast_ofNat_Int, Int.toNat_natCast, ne_eq, Bool.false_eq_true, true_or, or_true, or_self, Nat.not_lt_zero, ite_e0, ite_e1, lc_lt, lc_ge, lc_gt, lc_le, lc_eq, Classical.not_not]
          with_reducible repeat' (first | (refine And.intro ?_ ?_) | intro _)
          all_goals try omega
          all_goals first | omega | exact ih _ _ σ2 _ (by omega) (by omega) (by omega) rfl (hs.trans s2)
        · rw [if_neg (by omega)] at ih
          simp -implicitDefEqProofs only [↓b123_0, ↓b123_6, ↓b123_9, ↓b123_11, ↓b123_15, ↓b123_27, ↓b123_28, ↓b123_36, ↓b123_48, ↓b123_61, ↓b123_69, ↓b123_75, ↓b123_81, ↓b123_87, b123_0, b123_6, b123_9, b123_11, b123_15, b123_27, b123_28, b123_36, b123_48, b123_61, b123_69, b123_75, b123_81, b123_87, nLE2, layE7, layE4, layE3, layE2, hb', k3_76, r76, n3_3, I32, ↓xb, xb, ps, lpad, lat, aok2, rd2, aaok, aav, alok, alen, aok, akk, csum, isLg, cmpI, clsE, Option.elim, eq_self, List.mem_cons, List.not_mem_nil, or_false, false_or, List.append_nil, List.nil_append, List.cons_append, List.append_eq, List.replicate, List.length_cons, List.length_nil, List.map_cons, List.map_nil, ↓reduceIte, reduceCtorEq, if_true, if_false, true_and, and_true, false_and, and_false, and_self, not_true_eq_false, not_false_eq_true, forall_const, true_implies, false_implies, implies_true, Nat.reduceAdd, Nat.reduceSub, Nat.reduceLT, Nat.reduceLeDiff, Nat.reduceEqDiff, Nat.reduceMul, Nat.reducePow, Nat.add_one_ne_zero, Nat.add_one_sub_one, Nat.add_zero, Nat.zero_add, Int.reduceLT, Int.reduceLE, Int.reduceNeg, Int.reduceAdd, Int.reduceSub, Int.reduceToNat, Int.reduceEq, Int.reduceMul, Int.reducePow, Int.cast_ofNat_Int, Int.toNat_natCast, ne_eq, Bool.false_eq_true, true_or, or_true, or_self, Nat.not_lt_zero, ite_e0, ite_e1, lc_lt, lc_ge, lc_gt, lc_le, lc_eq, Classical.not_not]
          with_reducible repeat' (first | (refine And.intro ?_ ?_) | intro _)
          all_goals try omega
          all_goals first | omega | exact ih _ _ σ2 _ (by omega) (by omega) (by omega) rfl (hs.trans s2)
    · have e : i = P 2 0 := by omega
      have z := q σ' hs
      rw [← e, ← hc] at z
      refine TT_vb ok123 (sm3_ok G w) 60 [36] ?_
      simp -implicitDefEqProofs only [↓b123_0, ↓b123_6, ↓b123_9, ↓b123_11, ↓b123_15, ↓b123_27, ↓b123_28, ↓b123_36, ↓b123_48, ↓b123_61, ↓b123_69, ↓b123_75, ↓b123_81, ↓b123_87, b123_0, b123_6, b123_9, b123_11, b123_15, b123_27, b123_28, b123_36, b123_48, b123_61, b123_69, b123_75, b123_81, b123_87, nLE2, layE7, layE4, layE3, layE2, e0, k3_76, r76, n3_3, I32, ↓xb, xb, ps, lpad, lat, aok2, rd2, aaok, aav, alok, alen, aok, akk, csum, isLg, cmpI, clsE, Option.elim, eq_self, List.mem_cons, List.not_mem_nil, or_false, false_or, List.append_nil, List.nil_append, List.cons_append, List.append_eq, List.replicate, List.length_cons, List.length_nil, List.map_cons, List.map_nil, ↓reduceIte, reduceCtorEq, if_true, if_false, true_and, and_true, false_and, and_false, and_self, not_true_eq_false, not_false_eq_true, forall_const, true_implies, false_implies, implies_true, Nat.reduceAdd, Nat.reduceSub, Nat.reduceLT, Nat.reduceLeDiff, Nat.reduceEqDiff, Nat.reduceMul, Nat.reducePow, Nat.add_one_ne_zero, Nat.add_one_sub_one, Nat.add_zero, Nat.zero_add, Int.reduceLT, Int.reduceLE, Int.reduceNeg, Int.reduceAdd, Int.reduceSub, Int.reduceToNat, Int.reduceEq, Int.reduceMul, Int.reducePow, Int.cast_ofNat_Int, Int.toNat_natCast, ne_eq, Bool.false_eq_true, true_or, or_true, or_self, Nat.not_lt_zero, ite_e0, ite_e1, lc_lt, lc_ge, lc_gt, lc_le, lc_eq, Classical.not_not]
      with_reducible repeat' (first | (refine And.intro ?_ ?_) | intro _)
      all_goals try omega
      all_goals first | omega | exact z
set_option maxRecDepth 100000 in
set_option maxHeartbeats 1000000 in
theorem kc_parts (R : RT True σ 1 P) (W : WF P) (hk : 20 ≤ k) {wh : Int} (q0 : ¬ (0 ≤ wh ∧ wh ≤ 1) → Q (some (vi (-1))) σ)
    (q1 : (0 ≤ wh ∧ wh ≤ 1) → ∀ σ', same S11 σ σ' → Q (some (vi (ptA P wh))) σ') : CC G w w k (0, 0) 123 [vr 0 0 0, vi wh] σ Q := by
  have w1 := W.sc.1
  by_cases c : 0 ≤ wh ∧ wh ≤ 1
  · by_cases c0 : wh = 0
    · have q2 := q1 c
      rw [show ptA P wh = gnP P (-1) from if_pos c0] at q2
      refine CC_vb ok123 (by decide) (sm3_ok G w) 60 [36] (Nat.le_of_ble_eq_true rfl) ?_
      simp -implicitDefEqProofs only [↓b123_0, ↓b123_6, ↓b123_9, ↓b123_11, ↓b123_15, ↓b123_27, ↓b123_28, ↓b123_36, ↓b123_48, ↓b123_61, ↓b123_69, ↓b123_75, ↓b123_81, ↓b123_87, b123_0, b123_6, b123_9, b123_11, b123_15, b123_27, b123_28, b123_36, b123_48, b123_61, b123_69, b123_75, b123_81, b123_87, nLE2, layE7, layE4, layE3, layE2, c0, k3_76, r76, n3_3, I32, ↓xb, xb, ps, lpad, lat, aok2, rd2, aaok, aav, alok, alen, aok, akk, csum, isLg, cmpI, clsE, Option.elim, eq_self, List.mem_cons, List.not_mem_nil, or_false, false_or, List.append_nil, List.nil_append, List.cons_append, List.append_eq, List.replicate, List.length_cons, List.length_nil, List.map_cons, List.map_nil, ↓reduceIte, reduceCtorEq, if_true, if_false, true_and, and_true, false_and, and_false, and_self, not_true_eq_false, not_false_eq_true, forall_const, true_implies, false_implies, implies_true, Nat.reduceAdd, Nat.reduceSub, Nat.reduceLT, Nat.reduceLeDiff, Nat.reduceEqDiff, Nat.reduceMul, Nat.reducePow, Nat.add_one_ne_zero, Nat.add_one_sub_one, Nat.add_zero, Nat.zero_add, Int.reduceLT, Int.reduceLE, Int.reduceNeg, Int.reduceAdd, Int.reduceSub, Int.reduceToNat, Int.reduceEq, Int.reduceMul, Int.reducePow, Int.cast_ofNat_Int, Int.toNat_natCast, ne_eq, Bool.false_eq_true, true_or, or_true, or_self, Nat.not_lt_zero, ite_e0, ite_e1, lc_lt, lc_ge, lc_gt, lc_le, lc_eq, Classical.not_not]
      with_reducible repeat' (first | (refine And.intro ?_ ?_) | intro _)
      all_goals try omega
      refine kc_groups R W (by omega) (fun σ2 s2 => ?_)
      simp -implicitDefEqProofs only [↓b123_0, ↓b123_6, ↓b123_9, ↓b123_11, ↓b123_15, ↓b123_27, ↓b123_28, ↓b123_36, ↓b123_48, ↓b123_61, ↓b123_69, ↓b123_75, ↓b123_81, ↓b123_87, b123_0, b123_6, b123_9, b123_11, b123_15, b123_27, b123_28, b123_36, b123_48, b123_61, b123_69, b123_75, b123_81, b123_87, nLE2, layE7, layE4, layE3, layE2, c0, k3_76, r76, n3_3, I32, ↓xb, xb, ps, lpad, lat, aok2, rd2, aaok, aav, alok, alen, aok, akk, csum, isLg, cmpI, clsE, Option.elim, eq_self, List.mem_cons, List.not_mem_nil, or_false, false_or, List.append_nil, List.nil_append, List.cons_append, List.append_eq, List.replicate, List.length_cons, List.length_nil, List.map_cons, List.map_nil, ↓reduceIte, reduceCtorEq, if_true, if_false, true_and, and_true, false_and, and_false, and_self, not_true_eq_false, not_false_eq_true, forall_const, true_implies, false_implies, implies_true, Nat.reduceAdd, Nat.reduceSub, Nat.reduceLT, Nat.reduceLeDiff, Nat.reduceEqDiff, Nat.reduceMul, Nat.reducePow, Nat.add_one_ne_zero, Nat.add_one_sub_one, Nat.add_zero, Nat.zero_add, Int.reduceLT, Int.reduceLE, Int.reduceNeg, Int.reduceAdd, Int.reduceSub, Int.reduceToNat, Int.reduceEq, Int.reduceMul, Int.reducePow, Int.cast_ofNat_Int, Int.toNat_natCast, ne_eq, Bool.false_eq_true, true_or, or_true, or_self, Nat.not_lt_zero, ite_e0, ite_e1, lc_lt, lc_ge, lc_gt, lc_le, lc_eq, Classical.not_not]
      with_reducible repeat' (first | (refine And.intro ?_ ?_) | intro _)
      all_goals try omega
      all_goals first | omega | exact q2 σ2 s2
    · have q2 := q1 c
      rw [show ptA P wh = (ptR P (P 2 0).toNat).1 from if_neg c0] at q2
      refine CC_vb ok123 (by decide) (sm3_ok G w) 60 [36] (Nat.le_of_ble_eq_true rfl) ?_
      simp -implicitDefEqProofs only [↓b123_0, ↓b123_6, ↓b123_9, ↓b123_11, ↓b123_15, ↓b123_27, ↓b123_28, ↓b123_36, ↓b123_48, ↓b123_61, ↓b123_69, ↓b123_75, ↓b123_81, ↓b123_87, b123_0, b123_6, b123_9, b123_11, b123_15, b123_27, b123_28, b123_36, b123_48, b123_61, b123_69, b123_75, b123_81, b123_87, nLE2, layE7, layE4, layE3, layE2, c0, k3_76, r76, n3_3, I32, ↓xb, xb, ps, lpad, lat, aok2, rd2, aaok, aav, alok, alen, aok, akk, csum, isLg, cmpI, clsE, Option.elim, eq_self, List.mem_cons, List.not_mem_nil, or_false, false_or, List.append_nil, List.nil_append, List.cons_append, List.append_eq, List.replicate, List.length_cons, List.length_nil, List.map_cons, List.map_nil, ↓reduceIte, reduceCtorEq, if_true, if_false, true_and, and_true, false_and, and_false, and_self, not_true_eq_false, not_false_eq_true, forall_const, true_implies, false_implies, implies_true, Nat.reduceAdd, Nat.reduceSub, Nat.reduceLT, Nat.reduceLeDiff, Nat.reduceEqDiff, Nat.reduceMul, Nat.reducePow, Nat.add_one_ne_zero, Nat.add_one_sub_one, Nat.add_zero, Nat.zero_add, Int.reduceLT, Int.reduceLE, Int.reduceNeg, Int.reduceAdd, Int.reduceSub, Int.reduceToNat, Int.reduceEq, Int.reduceMul, Int.reducePow, Int.cast_ofNat_Int, Int.toNat_natCast, ne_eq, Bool.false_eq_true, true_or, or_true, or_self, Nat.not_lt_zero, ite_e0, ite_e1, lc_lt, lc_ge, lc_gt, lc_le, lc_eq, Classical.not_not]
      with_reducible repeat' (first | (refine And.intro ?_ ?_) | intro _)
      all_goals try omega
      all_goals first | omega | exact kc_parts_l R W (by omega) q2 13 0 (-2) 0 σ _ (by omega) (by omega) (by omega) rfl same.refl
  · refine CC_vb ok123 (by decide) (sm3_ok G w) 60 [11] (Nat.le_of_ble_eq_true rfl) ?_
    simp -implicitDefEqProofs only [↓b123_0, ↓b123_6, ↓b123_9, ↓b123_11, ↓b123_15, ↓b123_27, ↓b123_28, ↓b123_36, ↓b123_48, ↓b123_61, ↓b123_69, ↓b123_75, ↓b123_81, ↓b123_87, b123_0, b123_6, b123_9, b123_11, b123_15, b123_27, b123_28, b123_36, b123_48, b123_61, b123_69, b123_75, b123_81, b123_87, nLE2, layE7, layE4, layE3, layE2, hk, k3_76, r76, n3_3, I32, ↓xb, xb, ps, lpad, lat, aok2, rd2, aaok, aav, alok, alen, aok, akk, csum, isLg, cmpI, clsE, Option.elim, eq_self, List.mem_cons, List.not_mem_nil, or_false, false_or, List.append_nil, List.nil_append, List.cons_append, List.append_eq, List.replicate, List.length_cons, List.length_nil, List.map_cons, List.map_nil, ↓reduceIte, reduceCtorEq, if_true, if_false, true_and, and_true, false_and, and_false, and_self, not_true_eq_false, not_false_eq_true, forall_const, true_implies, false_implies, implies_true, Nat.reduceAdd, Nat.reduceSub, Nat.reduceLT, Nat.reduceLeDiff, Nat.reduceEqDiff, Nat.reduceMul, Nat.reducePow, Nat.add_one_ne_zero, Nat.add_one_sub_one, Nat.add_zero, Nat.zero_add, Int.reduceLT, Int.reduceLE, Int.reduceNeg, Int.reduceAdd, Int.reduceSub, Int.reduceToNat, Int.reduceEq, Int.reduceMul, Int.reducePow, Int.cast_ofNat_Int, Int.toNat_natCast, ne_eq, Bool.false_eq_true, true_or, or_true, or_self, Nat.not_lt_zero, ite_e0, ite_e1, lc_lt, lc_ge, lc_gt, lc_le, lc_eq, Classical.not_not]
    with_reducible repeat' (first | (refine And.intro ?_ ?_) | intro _)
    all_goals try omega
    all_goals first | omega | exact q0 c
end HR2

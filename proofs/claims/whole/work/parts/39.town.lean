/-! 39.town: a town copied -/
/-- what a town has: fields, rows, columns -/
def inT (F r c : Nat) : Prop := (1 ≤ F ∧ F ≤ 8 ∧ r = 0 ∧ c = 0) ∨ (9 ≤ F ∧ F ≤ 19 ∧ 1 ≤ r ∧ r ≤ (lay 4 (F - 1)).2.1 ∧ c < (lay 4 (F - 1)).2.2.1) ∨ (F = 20 ∧ r = 0 ∧ c < 12)
def inTb (F r c : Nat) : Bool := (decide (1 ≤ F) && decide (F ≤ 8) && decide (r = 0) && decide (c = 0)) || (decide (9 ≤ F) && decide (F ≤ 19) && decide (1 ≤ r) && decide (r ≤ (lay 4 (F - 1)).2.1) && decide (c < (lay 4 (F - 1)).2.2.1)) || (decide (F = 20) && decide (r = 0) && decide (c < 12))
set_option maxRecDepth 100000 in
theorem inT_b : ∀ f : Nat, f < 39 → ∀ i : Nat, i < 144 → (i < ln f → inTb (lf f i) (lr f i) (lc f i) = true) := by decide +kernel
theorem inT_dec (f : Nat) (hf : f < 39) (i : Nat) (hi : i < 144) (h : i < ln f) : inT (lf f i) (lr f i) (lc f i) := by
  have z := inT_b f hf i hi h
  unfold inTb at z
  unfold inT
  simp only [Bool.or_eq_true, Bool.and_eq_true, decide_eq_true_eq] at z
  omega
def CPn (a b n : Nat) (σ σ' : Mem) : Prop := (∀ F r c, F ≤ n → inT F r c → σ' b F r c = σ a F r c) ∧ same (fun o g => o == b && decide (g ≤ n)) σ σ'
theorem CPn.step {a b n : Nat} {σ σ1 σ2 : Mem} (hab : a ≠ b) (h : CPn a b n σ σ1) (h2 : ∀ r c, inT (n + 1) r c → σ2 b (n + 1) r c = σ1 a (n + 1) r c) (hs : same (fun o g => o == b && g == n + 1) σ1 σ2) : CPn a b (n + 1) σ σ2 := by
  have ea : ∀ f r c, σ1 a f r c = σ a f r c := fun f r c => h.2 a f (by simp [hab]) r c
  refine ⟨fun F r c hF hi => ?_, fun o g hg r c => ?_⟩
  · by_cases e : F = n + 1
    · subst e
      rw [h2 r c hi, ea]
    · rw [hs b F (by simp [e]) r c]
      exact h.1 F r c (by omega) hi
  · have hg' : (o == b && decide (g ≤ n + 1)) = false := hg
    by_cases e : o = b
    · subst e
      have hg2 : ¬ g ≤ n + 1 := by simpa using hg'
      rw [hs o g (by simp; omega) r c]
      exact h.2 o g (by simp; omega) r c
    · rw [hs o g (by simp [e]) r c]
      exact h.2 o g (by simp [e]) r c
abbrev Stw (b : Nat) : Nat → Nat → Bool := fun o f => o == b && decide (f ≤ 20)
theorem RT.copied {g : Prop} {σ σ' : Mem} {a b : Nat} {P : Pt} (R : RT g σ a P) (h : CPn a b 20 σ σ') : RT g σ' b P := fun f i hi hg => by
  have d := inT_dec f (ln_39 hi).1 i (ln_39 hi).2 hi
  have p := lf_pos hi
  rw [h.1 _ _ _ p.2.1 d]
  exact R f i hi hg
theorem NRs.copied {σ σ' : Mem} {a b : Nat} {P : Pt} (W : WF P) (N : NRs σ a P) (h : CPn a b 20 σ σ') : NRs σ' b P := fun f h0 h1 c hc => by
  have w := W.sc.1
  have l := soP_cnt (P := P) h0 (P 2 0).toNat
  have l2 := (soP_inv (P := P) (f := f) (P 2 0).toNat).2.1
  rw [h.1 10 _ _ (by decide) (Or.inr (Or.inl ⟨by decide, by decide, by omega, by show f.toNat + 1 ≤ 12; omega, by show c < 12; omega⟩))]
  exact N f h0 h1 c hc
theorem WRs.copied {σ σ' : Mem} {a b : Nat} {P : Pt} (N : WRs σ a P) (h : CPn a b 20 σ σ') : WRs σ' b P := fun x y hx hy => by
  rw [h.1 14 _ _ (by decide) (Or.inr (Or.inl ⟨by decide, by decide, by omega, by show x.toNat + 1 ≤ 12; omega, by show y.toNat < 12; omega⟩))]
  exact N x y hx hy
section TWN
variable {G : Gl} {w : Wd} {k : Nat} {σ : Mem} {Q : Option AV → Mem → Prop}
set_option maxRecDepth 100000 in
set_option maxHeartbeats 1000000 in
theorem kc_rows_l (hk : 6 ≤ k) {a b f R C z : Nat} (hab : a ≠ b) (ha : cls a = 4) (ha2 : a < 22) (hb : cls b = 4) (hb2 : b < 22) (hf : 1 ≤ f) (hf2 : f ≤ 20) (hl : lay 4 (f - 1) = (20, R, C, z)) (hR : R ≤ 40) (hC : C ≤ 12)
    (q : ∀ σ', (∀ r c, 1 ≤ r → r ≤ R → c < C → σ' b f r c = σ a f r c) → same (fun o g => o == b && g == f) σ σ' → Q none σ') :
    ∀ (m : Nat) (i : Int) (σ' : Mem), 0 ≤ i → i ≤ R → R < i + m → (∀ r c : Nat, 1 ≤ r → (r : Int) ≤ i → c < C → σ' b f r c = σ a f r c) → same (fun o g => o == b && g == f) σ σ' → TT G w w w k (0, 0) 44 2 [some (vr a f 0), some (vr b f 0), some (vi i)] [] σ' Q
  | 0, i, σ', h0, h1, h2, _, _ => by omega
  | m + 1, i, σ', h0, h1, h2, hc, hs => by
    have ih := kc_rows_l hk hab ha ha2 hb hb2 hf hf2 hl hR hC q m (i + 1)
    have f9 : ¬ f = 999 := by omega
    have f0 : ¬ f = 0 := by omega
    by_cases hi : i < R
    · refine TT_vb ok44 (sm3_ok G w) 60 [2, 33, 36] ?_
      simp -implicitDefEqProofs only [↓b44_0, ↓b44_2, ↓b44_8, ↓b44_14, ↓b44_17, ↓b44_21, ↓b44_25, ↓b44_29, ↓b44_36, ↓b44_42, b44_0, b44_2, b44_8, b44_14, b44_17, b44_21, b44_25, b44_29, b44_36, b44_42, nLE0, layE4, ha, hb, ha2, hb2, hl, f9, f0, I32, ↓xb, xb, ps, lpad, lat, aok2, rd2, aaok, aav, alok, alen, aok, akk, csum, isLg, cmpI, clsE, Option.elim, eq_self, List.mem_cons, List.not_mem_nil, or_false, false_or, List.append_nil, List.nil_append, List.cons_append, List.append_eq, List.replicate, List.length_cons, List.length_nil, List.map_cons, List.map_nil, ↓reduceIte, reduceCtorEq, if_true, if_false, true_and, and_true, false_and, and_false, and_self, not_true_eq_false, not_false_eq_true, forall_const, true_implies, false_implies, implies_true, Nat.reduceAdd, Nat.reduceSub, Nat.reduceLT, Nat.reduceLeDiff, Nat.reduceEqDiff, Nat.reduceMul, Nat.reducePow, Nat.add_one_ne_zero, Nat.add_one_sub_one, Nat.add_zero, Nat.zero_add, Int.reduceLT, Int.reduceLE, Int.reduceNeg, Int.reduceAdd, Int.reduceSub, Int.reduceToNat, Int.reduceEq, Int.reduceMul, Int.reducePow, Int.cast_ofNat_Int, Int.toNat_natCast, ne_eq, Bool.false_eq_true, true_or, or_true, or_self, Nat.not_lt_zero, ite_e0, ite_e1, lc_lt, lc_ge, lc_gt, lc_le, lc_eq, Classical.not_not]
      with_reducible repeat' (first | (refine And.intro ?_ ?_) | intro _)
      all_goals try omega
      have A : (akk (lay (cls a) (f - 1)) (i.toNat + 1)) = (10, C) := by rw [ha, hl]; rfl
      have B : (akk (lay (cls b) (f - 1)) (i.toNat + 1)) = (10, C) := by rw [hb, hl]; rfl
      have d := TT_cpy (pc := 33) ok44 (ix := 81) (x := -1) (z := 5) rfl
      rw [show min ((C : Nat) : Int) ((C : Nat) : Int) = C by omega]
      refine S_cpyi d.1 d.2 ha2 f0 (by rw [A]) hb2 f0 (by rw [B]) (by omega) (by rw [A]; exact Int.le_refl _) (by rw [B]; exact Int.le_refl _) (by omega) (by decide) ?_
      refine TT_vb ok44 (sm3_ok G w) 60 [2] ?_
      simp -implicitDefEqProofs only [↓b44_0, ↓b44_2, ↓b44_8, ↓b44_14, ↓b44_17, ↓b44_21, ↓b44_25, ↓b44_29, ↓b44_36, ↓b44_42, b44_0, b44_2, b44_8, b44_14, b44_17, b44_21, b44_25, b44_29, b44_36, b44_42, nLE0, layE4, ha, hb, ha2, hb2, hl, f9, f0, I32, ↓xb, xb, ps, lpad, lat, aok2, rd2, aaok, aav, alok, alen, aok, akk, csum, isLg, cmpI, clsE, Option.elim, eq_self, List.mem_cons, List.not_mem_nil, or_false, false_or, List.append_nil, List.nil_append, List.cons_append, List.append_eq, List.replicate, List.length_cons, List.length_nil, List.map_cons, List.map_nil, ↓reduceIte, reduceCtorEq, if_true, if_false, true_and, and_true, false_and, and_false, and_self, not_true_eq_false, not_false_eq_true, forall_const, true_implies, false_implies, implies_true, Nat.reduceAdd, Nat.reduceSub, Nat.reduceLT, Nat.reduceLeDiff, Nat.reduceEqDiff, Nat.reduceMul, Nat.reducePow, Nat.add_one_ne_zero, Nat.add_one_sub_one, Nat.add_zero, Nat.zero_add, Int.reduceLT, Int.reduceLE, Int.reduceNeg, Int.reduceAdd, Int.reduceSub, Int.reduceToNat, Int.reduceEq, Int.reduceMul, Int.reducePow, Int.cast_ofNat_Int, Int.toNat_natCast, ne_eq, Bool.false_eq_true, true_or, or_true, or_self, Nat.not_lt_zero, ite_e0, ite_e1, lc_lt, lc_ge, lc_gt, lc_le, lc_eq, Classical.not_not]
      with_reducible repeat' (first | (refine And.intro ?_ ?_) | intro _)
      all_goals try omega
      refine ih _ (by omega) (by omega) (by omega) (fun r c r1 r2 c1 => ?_) (fun o g hg r c => ?_)
      · by_cases e : r = i.toNat + 1
        · subst e
          rw [cpM_eq (by omega)]
          exact hs a f (by simp [hab]) _ _
        · rw [cpM_ne (fun y => e y.2.2)]
          exact hc r c r1 (by omega) c1
      · have hg' : (o == b && g == f) = false := hg
        rw [cpM_ne (fun y => by rw [y.1, y.2.1] at hg'; simp at hg')]
        exact hs o g hg r c
    · refine TT_vb ok44 (sm3_ok G w) 60 [2, 33, 36] ?_
      simp -implicitDefEqProofs only [↓b44_0, ↓b44_2, ↓b44_8, ↓b44_14, ↓b44_17, ↓b44_21, ↓b44_25, ↓b44_29, ↓b44_36, ↓b44_42, b44_0, b44_2, b44_8, b44_14, b44_17, b44_21, b44_25, b44_29, b44_36, b44_42, nLE0, layE4, ha, hb, ha2, hb2, hl, f9, f0, I32, ↓xb, xb, ps, lpad, lat, aok2, rd2, aaok, aav, alok, alen, aok, akk, csum, isLg, cmpI, clsE, Option.elim, eq_self, List.mem_cons, List.not_mem_nil, or_false, false_or, List.append_nil, List.nil_append, List.cons_append, List.append_eq, List.replicate, List.length_cons, List.length_nil, List.map_cons, List.map_nil, ↓reduceIte, reduceCtorEq, if_true, if_false, true_and, and_true, false_and, and_false, and_self, not_true_eq_false, not_false_eq_true, forall_const, true_implies, false_implies, implies_true, Nat.reduceAdd, Nat.reduceSub, Nat.reduceLT, Nat.reduceLeDiff, Nat.reduceEqDiff, Nat.reduceMul, Nat.reducePow, Nat.add_one_ne_zero, Nat.add_one_sub_one, Nat.add_zero, Nat.zero_add, Int.reduceLT, Int.reduceLE, Int.reduceNeg, Int.reduceAdd, Int.reduceSub, Int.reduceToNat, Int.reduceEq, Int.reduceMul, Int.reducePow, Int.cast_ofNat_Int, Int.toNat_natCast, ne_eq, Bool.false_eq_true, true_or, or_true, or_self, Nat.not_lt_zero, ite_e0, ite_e1, lc_lt, lc_ge, lc_gt, lc_le, lc_eq, Classical.not_not]
      with_reducible repeat' (first | (refine And.intro ?_ ?_) | intro _)
      all_goals try omega
      exact q σ' (fun r c r1 r2 c1 => hc r c r1 (by omega) c1) hs
set_option maxRecDepth 100000 in
set_option maxHeartbeats 1000000 in
theorem kc_rows (hk : 6 ≤ k) {a b f R C z : Nat} (hab : a ≠ b) (ha : cls a = 4) (ha2 : a < 22) (hb : cls b = 4) (hb2 : b < 22) (hf : 1 ≤ f) (hf2 : f ≤ 20) (hl : lay 4 (f - 1) = (20, R, C, z)) (hR : R ≤ 40) (hC : C ≤ 12)
    (q : ∀ σ', (∀ r c, 1 ≤ r → r ≤ R → c < C → σ' b f r c = σ a f r c) → same (fun o g => o == b && g == f) σ σ' → Q none σ') : CC G w w k (0, 0) 44 [vr a f 0, vr b f 0] σ Q := by
  refine CC_vb ok44 (by decide) (sm3_ok G w) 60 [2] (Nat.le_of_ble_eq_true rfl) ?_
  simp -implicitDefEqProofs only [↓b44_0, ↓b44_2, ↓b44_8, ↓b44_14, ↓b44_17, ↓b44_21, ↓b44_25, ↓b44_29, ↓b44_36, ↓b44_42, b44_0, b44_2, b44_8, b44_14, b44_17, b44_21, b44_25, b44_29, b44_36, b44_42, nLE0, layE4, ha, I32, ↓xb, xb, ps, lpad, lat, aok2, rd2, aaok, aav, alok, alen, aok, akk, csum, isLg, cmpI, clsE, Option.elim, eq_self, List.mem_cons, List.not_mem_nil, or_false, false_or, List.append_nil, List.nil_append, List.cons_append, List.append_eq, List.replicate, List.length_cons, List.length_nil, List.map_cons, List.map_nil, ↓reduceIte, reduceCtorEq, if_true, if_false, true_and, and_true, false_and, and_false, and_self, not_true_eq_false, not_false_eq_true, forall_const, true_implies, false_implies, implies_true, Nat.reduceAdd, Nat.reduceSub, Nat.reduceLT, Nat.reduceLeDiff, Nat.reduceEqDiff, Nat.reduceMul, Nat.reducePow, Nat.add_one_ne_zero, Nat.add_one_sub_one, Nat.add_zero, Nat.zero_add, Int.reduceLT, Int.reduceLE, Int.reduceNeg, Int.reduceAdd, Int.reduceSub, Int.reduceToNat, Int.reduceEq, Int.reduceMul, Int.reducePow, Int.cast_ofNat_Int, Int.toNat_natCast, ne_eq, Bool.false_eq_true, true_or, or_true, or_self, Nat.not_lt_zero, ite_e0, ite_e1, lc_lt, lc_ge, lc_gt, lc_le, lc_eq, Classical.not_not]
  with_reducible repeat' (first | (refine And.intro ?_ ?_) | intro _)
  all_goals try omega
  exact kc_rows_l hk hab ha ha2 hb hb2 hf hf2 hl hR hC q 41 0 σ (by omega) (by omega) (by omega) (fun r c r1 r2 => by omega) same.refl
set_option maxRecDepth 100000 in
set_option maxHeartbeats 1000000 in
theorem kc_copy_g (hk : 6 ≤ k) {a b : Nat} (hab : a ≠ b) (ha : cls a = 4) (ha2 : a < 22) (hb : cls b = 4) (hb2 : b < 22) (q : ∀ σ', CPn a b 20 σ σ' → Q none σ') :
    ∀ (m : Nat) (i : Int) (σ1 σ' : Mem), 0 ≤ i → i ≤ 12 → 12 < i + m → CPn a b 18 σ σ1 → (∀ r c : Nat, 1 ≤ r → (r : Int) ≤ i → c < 12 → σ' b 19 r c = σ1 a 19 r c) → same (fun o g => o == b && g == 19) σ1 σ' → TT G w w w k (0, 0) 43 176 [some (vr b 0 0), some (vr a 0 0), some (vi i)] [] σ' Q
  | 0, i, σ1, σ', h0, h1, h2, _, _, _ => by omega
  | m + 1, i, σ1, σ', h0, h1, h2, h18, hc, hs => by
    have ih := kc_copy_g hk hab ha ha2 hb hb2 q m (i + 1)
    by_cases hi : i < 12
    · refine TT_vb ok43 (sm3_ok G w) 60 [176, 195, 207] ?_
      simp -implicitDefEqProofs only [↓b43_0, ↓b43_75, ↓b43_86, ↓b43_97, ↓b43_108, ↓b43_119, ↓b43_130, ↓b43_141, ↓b43_152, ↓b43_163, ↓b43_174, ↓b43_176, ↓b43_182, ↓b43_188, ↓b43_201, ↓b43_222, ↓b43_195, ↓b43_207, b43_0, b43_75, b43_86, b43_97, b43_108, b43_119, b43_130, b43_141, b43_152, b43_163, b43_174, b43_176, b43_182, b43_188, b43_201, b43_222, b43_195, b43_207, nLE0, layE4, ha, hb, ha2, hb2, n3_44, I32, ↓xb, xb, ps, lpad, lat, aok2, rd2, aaok, aav, alok, alen, aok, akk, csum, isLg, cmpI, clsE, Option.elim, eq_self, List.mem_cons, List.not_mem_nil, or_false, false_or, List.append_nil, List.nil_append, List.cons_append, List.append_eq, List.replicate, List.length_cons, List.length_nil, List.map_cons, List.map_nil, ↓reduceIte, reduceCtorEq, if_true, if_false, true_and, and_true, false_and, and_false, and_self, not_true_eq_false, not_false_eq_true, forall_const, true_implies, false_implies, implies_true, Nat.reduceAdd, Nat.reduceSub, Nat.reduceLT, Nat.reduceLeDiff, Nat.reduceEqDiff, Nat.reduceMul, Nat.reducePow, Nat.add_one_ne_zero, Nat.add_one_sub_one, Nat.add_zero, Nat.zero_add, Int.reduceLT, Int.reduceLE, Int.reduceNeg, Int.reduceAdd, Int.reduceSub, Int.reduceToNat, Int.reduceEq, Int.reduceMul, Int.reducePow, Int.cast_ofNat_Int, Int.toNat_natCast, ne_eq, Bool.false_eq_true, true_or, or_true, or_self, Nat.not_lt_zero, ite_e0, ite_e1, lc_lt, lc_ge, lc_gt, lc_le, lc_eq, Classical.not_not]
      with_reducible repeat' (first | (refine And.intro ?_ ?_) | intro _)
      all_goals try omega
      refine TT_vn ok43 (sm3_ok G w) 60 2 [176, 198, 207] ?_
      simp -implicitDefEqProofs only [↓b43_0, ↓b43_75, ↓b43_86, ↓b43_97, ↓b43_108, ↓b43_119, ↓b43_130, ↓b43_141, ↓b43_152, ↓b43_163, ↓b43_174, ↓b43_176, ↓b43_182, ↓b43_188, ↓b43_201, ↓b43_222, ↓b43_195, ↓b43_207, b43_0, b43_75, b43_86, b43_97, b43_108, b43_119, b43_130, b43_141, b43_152, b43_163, b43_174, b43_176, b43_182, b43_188, b43_201, b43_222, b43_195, b43_207, nLE0, layE4, ha, hb, ha2, hb2, n3_44, I32, ↓xb, xb, ps, lpad, lat, aok2, rd2, aaok, aav, alok, alen, aok, akk, csum, isLg, cmpI, clsE, Option.elim, eq_self, List.mem_cons, List.not_mem_nil, or_false, false_or, List.append_nil, List.nil_append, List.cons_append, List.append_eq, List.replicate, List.length_cons, List.length_nil, List.map_cons, List.map_nil, ↓reduceIte, reduceCtorEq, if_true, if_false, true_and, and_true, false_and, and_false, and_self, not_true_eq_false, not_false_eq_true, forall_const, true_implies, false_implies, implies_true, Nat.reduceAdd, Nat.reduceSub, Nat.reduceLT, Nat.reduceLeDiff, Nat.reduceEqDiff, Nat.reduceMul, Nat.reducePow, Nat.add_one_ne_zero, Nat.add_one_sub_one, Nat.add_zero, Nat.zero_add, Int.reduceLT, Int.reduceLE, Int.reduceNeg, Int.reduceAdd, Int.reduceSub, Int.reduceToNat, Int.reduceEq, Int.reduceMul, Int.reducePow, Int.cast_ofNat_Int, Int.toNat_natCast, ne_eq, Bool.false_eq_true, true_or, or_true, or_self, Nat.not_lt_zero, ite_e0, ite_e1, lc_lt, lc_ge, lc_gt, lc_le, lc_eq, Classical.not_not]
      with_reducible repeat' (first | (refine And.intro ?_ ?_) | intro _)
      all_goals try omega
      have A : (akk (lay (cls a) (19 - 1)) (i.toNat + 1)) = (11, 12) := by rw [ha]; rfl
      have B : (akk (lay (cls b) (19 - 1)) (i.toNat + 1)) = (11, 12) := by rw [hb]; rfl
      have d := TT_cpy (pc := 198) ok43 (ix := 81) (x := -1) (z := 5) rfl
      refine S_cpyl d.1 d.2 ha2 (by decide) (by rw [A]) hb2 (by decide) (by rw [B]) (by omega) (by rw [A]; decide) (by rw [B]; decide) (by omega) (by decide) ?_
      refine TT_vb ok43 (sm3_ok G w) 60 [176] ?_
      simp -implicitDefEqProofs only [↓b43_0, ↓b43_75, ↓b43_86, ↓b43_97, ↓b43_108, ↓b43_119, ↓b43_130, ↓b43_141, ↓b43_152, ↓b43_163, ↓b43_174, ↓b43_176, ↓b43_182, ↓b43_188, ↓b43_201, ↓b43_222, ↓b43_195, ↓b43_207, b43_0, b43_75, b43_86, b43_97, b43_108, b43_119, b43_130, b43_141, b43_152, b43_163, b43_174, b43_176, b43_182, b43_188, b43_201, b43_222, b43_195, b43_207, nLE0, layE4, ha, hb, ha2, hb2, n3_44, I32, ↓xb, xb, ps, lpad, lat, aok2, rd2, aaok, aav, alok, alen, aok, akk, csum, isLg, cmpI, clsE, Option.elim, eq_self, List.mem_cons, List.not_mem_nil, or_false, false_or, List.append_nil, List.nil_append, List.cons_append, List.append_eq, List.replicate, List.length_cons, List.length_nil, List.map_cons, List.map_nil, ↓reduceIte, reduceCtorEq, if_true, if_false, true_and, and_true, false_and, and_false, and_self, not_true_eq_false, not_false_eq_true, forall_const, true_implies, false_implies, implies_true, Nat.reduceAdd, Nat.reduceSub, Nat.reduceLT, Nat.reduceLeDiff, Nat.reduceEqDiff, Nat.reduceMul, Nat.reducePow, Nat.add_one_ne_zero, Nat.add_one_sub_one, Nat.add_zero, Nat.zero_add, Int.reduceLT, Int.reduceLE, Int.reduceNeg, Int.reduceAdd, Int.reduceSub, Int.reduceToNat, Int.reduceEq, Int.reduceMul, Int.reducePow, Int.cast_ofNat_Int, Int.toNat_natCast, ne_eq, Bool.false_eq_true, true_or, or_true, or_self, Nat.not_lt_zero, ite_e0, ite_e1, lc_lt, lc_ge, lc_gt, lc_le, lc_eq, Classical.not_not]
      with_reducible repeat' (first | (refine And.intro ?_ ?_) | intro _)
      all_goals try omega
      refine ih σ1 _ (by omega) (by omega) (by omega) h18 (fun r c r1 r2 c1 => ?_) (fun o g hg r c => ?_)
      · by_cases e : r = i.toNat + 1
        · subst e
          rw [cpM_eq (by show c < 12; omega)]
          exact hs a 19 (by simp [hab]) _ _
        · rw [cpM_ne (fun y => e y.2.2)]
          exact hc r c r1 (by omega) c1
      · have hg' : (o == b && g == 19) = false := hg
        rw [cpM_ne (fun y => by rw [y.1, y.2.1] at hg'; simp at hg')]
        exact hs o g hg r c
    · have h19 : CPn a b 19 σ σ' := h18.step hab (fun r c hr => by
        unfold inT at hr
        have e1 : (lay 4 (18 + 1 - 1)).2.1 = 12 := rfl
        have e2 : (lay 4 (18 + 1 - 1)).2.2.1 = 12 := rfl
        rw [e1, e2] at hr
        exact hc r c (by omega) (by omega) (by omega)) hs
      refine TT_vb ok43 (sm3_ok G w) 60 [176, 195, 207] ?_
      simp -implicitDefEqProofs only [↓b43_0, ↓b43_75, ↓b43_86, ↓b43_97, ↓b43_108, ↓b43_119, ↓b43_130, ↓b43_141, ↓b43_152, ↓b43_163, ↓b43_174, ↓b43_176, ↓b43_182, ↓b43_188, ↓b43_201, ↓b43_222, ↓b43_195, ↓b43_207, b43_0, b43_75, b43_86, b43_97, b43_108, b43_119, b43_130, b43_141, b43_152, b43_163, b43_174, b43_176, b43_182, b43_188, b43_201, b43_222, b43_195, b43_207, nLE0, layE4, ha, hb, ha2, hb2, n3_44, I32, ↓xb, xb, ps, lpad, lat, aok2, rd2, aaok, aav, alok, alen, aok, akk, csum, isLg, cmpI, clsE, Option.elim, eq_self, List.mem_cons, List.not_mem_nil, or_false, false_or, List.append_nil, List.nil_append, List.cons_append, List.append_eq, List.replicate, List.length_cons, List.length_nil, List.map_cons, List.map_nil, ↓reduceIte, reduceCtorEq, if_true, if_false, true_and, and_true, false_and, and_false, and_self, not_true_eq_false, not_false_eq_true, forall_const, true_implies, false_implies, implies_true, Nat.reduceAdd, Nat.reduceSub, Nat.reduceLT, Nat.reduceLeDiff, Nat.reduceEqDiff, Nat.reduceMul, Nat.reducePow, Nat.add_one_ne_zero, Nat.add_one_sub_one, Nat.add_zero, Nat.zero_add, Int.reduceLT, Int.reduceLE, Int.reduceNeg, Int.reduceAdd, Int.reduceSub, Int.reduceToNat, Int.reduceEq, Int.reduceMul, Int.reducePow, Int.cast_ofNat_Int, Int.toNat_natCast, ne_eq, Bool.false_eq_true, true_or, or_true, or_self, Nat.not_lt_zero, ite_e0, ite_e1, lc_lt, lc_ge, lc_gt, lc_le, lc_eq, Classical.not_not]
      with_reducible repeat' (first | (refine And.intro ?_ ?_) | intro _)
      all_goals try omega
      refine TT_vn ok43 (sm3_ok G w) 60 7 [219] ?_
      simp -implicitDefEqProofs only [↓b43_0, ↓b43_75, ↓b43_86, ↓b43_97, ↓b43_108, ↓b43_119, ↓b43_130, ↓b43_141, ↓b43_152, ↓b43_163, ↓b43_174, ↓b43_176, ↓b43_182, ↓b43_188, ↓b43_201, ↓b43_222, ↓b43_195, ↓b43_207, b43_0, b43_75, b43_86, b43_97, b43_108, b43_119, b43_130, b43_141, b43_152, b43_163, b43_174, b43_176, b43_182, b43_188, b43_201, b43_222, b43_195, b43_207, nLE0, layE4, ha, hb, ha2, hb2, n3_44, I32, ↓xb, xb, ps, lpad, lat, aok2, rd2, aaok, aav, alok, alen, aok, akk, csum, isLg, cmpI, clsE, Option.elim, eq_self, List.mem_cons, List.not_mem_nil, or_false, false_or, List.append_nil, List.nil_append, List.cons_append, List.append_eq, List.replicate, List.length_cons, List.length_nil, List.map_cons, List.map_nil, ↓reduceIte, reduceCtorEq, if_true, if_false, true_and, and_true, false_and, and_false, and_self, not_true_eq_false, not_false_eq_true, forall_const, true_implies, false_implies, implies_true, Nat.reduceAdd, Nat.reduceSub, Nat.reduceLT, Nat.reduceLeDiff, Nat.reduceEqDiff, Nat.reduceMul, Nat.reducePow, Nat.add_one_ne_zero, Nat.add_one_sub_one, Nat.add_zero, Nat.zero_add, Int.reduceLT, Int.reduceLE, Int.reduceNeg, Int.reduceAdd, Int.reduceSub, Int.reduceToNat, Int.reduceEq, Int.reduceMul, Int.reducePow, Int.cast_ofNat_Int, Int.toNat_natCast, ne_eq, Bool.false_eq_true, true_or, or_true, or_self, Nat.not_lt_zero, ite_e0, ite_e1, lc_lt, lc_ge, lc_gt, lc_le, lc_eq, Classical.not_not]
      with_reducible repeat' (first | (refine And.intro ?_ ?_) | intro _)
      all_goals try omega
      have A : (akk (lay (cls a) (20 - 1)) 0) = (11, 12) := by rw [ha]; rfl
      have B : (akk (lay (cls b) (20 - 1)) 0) = (11, 12) := by rw [hb]; rfl
      have d := TT_cpy (pc := 219) ok43 (ix := 81) (x := -1) (z := 5) rfl
      refine S_cpyl d.1 d.2 ha2 (by decide) (by rw [A]) hb2 (by decide) (by rw [B]) (by omega) (by rw [A]; decide) (by rw [B]; decide) (by omega) (by decide) ?_
      refine TT_vb ok43 (sm3_ok G w) 60 [] ?_
      simp -implicitDefEqProofs only [↓b43_0, ↓b43_75, ↓b43_86, ↓b43_97, ↓b43_108, ↓b43_119, ↓b43_130, ↓b43_141, ↓b43_152, ↓b43_163, ↓b43_174, ↓b43_176, ↓b43_182, ↓b43_188, ↓b43_201, ↓b43_222, ↓b43_195, ↓b43_207, b43_0, b43_75, b43_86, b43_97, b43_108, b43_119, b43_130, b43_141, b43_152, b43_163, b43_174, b43_176, b43_182, b43_188, b43_201, b43_222, b43_195, b43_207, nLE0, layE4, ha, hb, ha2, hb2, n3_44, I32, ↓xb, xb, ps, lpad, lat, aok2, rd2, aaok, aav, alok, alen, aok, akk, csum, isLg, cmpI, clsE, Option.elim, eq_self, List.mem_cons, List.not_mem_nil, or_false, false_or, List.append_nil, List.nil_append, List.cons_append, List.append_eq, List.replicate, List.length_cons, List.length_nil, List.map_cons, List.map_nil, ↓reduceIte, reduceCtorEq, if_true, if_false, true_and, and_true, false_and, and_false, and_self, not_true_eq_false, not_false_eq_true, forall_const, true_implies, false_implies, implies_true, Nat.reduceAdd, Nat.reduceSub, Nat.reduceLT, Nat.reduceLeDiff, Nat.reduceEqDiff, Nat.reduceMul, Nat.reducePow, Nat.add_one_ne_zero, Nat.add_one_sub_one, Nat.add_zero, Nat.zero_add, Int.reduceLT, Int.reduceLE, Int.reduceNeg, Int.reduceAdd, Int.reduceSub, Int.reduceToNat, Int.reduceEq, Int.reduceMul, Int.reducePow, Int.cast_ofNat_Int, Int.toNat_natCast, ne_eq, Bool.false_eq_true, true_or, or_true, or_self, Nat.not_lt_zero, ite_e0, ite_e1, lc_lt, lc_ge, lc_gt, lc_le, lc_eq, Classical.not_not]
      with_reducible repeat' (first | (refine And.intro ?_ ?_) | intro _)
      all_goals try omega
      refine q _ (h19.step hab (fun r c hr => ?_) (fun o g hg r c => ?_))
      · unfold inT at hr
        have e : r = 0 ∧ c < 12 := by omega
        obtain ⟨rfl, e⟩ := e
        exact cpM_eq (by show c < 12; omega)
      · have hg' : (o == b && g == 19 + 1) = false := hg
        rw [cpM_ne (fun y => by rw [y.1, y.2.1] at hg'; simp at hg')]
set_option maxRecDepth 100000 in
set_option maxHeartbeats 1000000 in
theorem kc_copy (hk : 8 ≤ k) {a b : Nat} (hab : a ≠ b) (ha : cls a = 4) (ha2 : a < 22) (hb : cls b = 4) (hb2 : b < 22) (q : ∀ σ', CPn a b 20 σ σ' → Q none σ') : CC G w w k (0, 0) 43 [vr b 0 0, vr a 0 0] σ Q := by
  have rows : ∀ {σ1 : Mem} {n R C z : Nat} {Q' : Option AV → Mem → Prop}, CPn a b n σ σ1 → 8 ≤ n → n ≤ 17 → lay 4 (n + 1 - 1) = (20, R, C, z) → R ≤ 40 → C ≤ 12 → (∀ σ2, CPn a b (n + 1) σ σ2 → Q' none σ2) → CC G w w (k - 1) (0, 0) 44 [vr a (n + 1) 0, vr b (n + 1) 0] σ1 Q' := fun {σ1 n R C z Q'} h h8 h17 hl hR hC q' => by
    refine kc_rows (by omega) hab ha ha2 hb hb2 (by omega) (by omega) hl hR hC (fun σ2 h2 s2 => q' σ2 (h.step hab (fun r c hr => ?_) s2))
    unfold inT at hr
    rw [hl] at hr
    have e1 : ((20, R, C, z) : Nat × Nat × Nat × Nat).2.1 = R := rfl
    have e2 : ((20, R, C, z) : Nat × Nat × Nat × Nat).2.2.1 = C := rfl
    rw [e1, e2] at hr
    exact h2 r c (by omega) (by omega) (by omega)
  have hba : ¬ b = a := fun e => hab e.symm
  refine CC_vb ok43 (by decide) (sm3_ok G w) 60 [176] (Nat.le_of_ble_eq_true rfl) ?_
  simp -implicitDefEqProofs only [↓b43_0, ↓b43_75, ↓b43_86, ↓b43_97, ↓b43_108, ↓b43_119, ↓b43_130, ↓b43_141, ↓b43_152, ↓b43_163, ↓b43_174, ↓b43_176, ↓b43_182, ↓b43_188, ↓b43_201, ↓b43_222, ↓b43_195, ↓b43_207, b43_0, b43_75, b43_86, b43_97, b43_108, b43_119, b43_130, b43_141, b43_152, b43_163, b43_174, b43_176, b43_182, b43_188, b43_201, b43_222, b43_195, b43_207, nLE0, layE4, ha, hb, ha2, hb2, hab, hba, up_rd, n3_44, I32, ↓xb, xb, ps, lpad, lat, aok2, rd2, aaok, aav, alok, alen, aok, akk, csum, isLg, cmpI, clsE, Option.elim, eq_self, List.mem_cons, List.not_mem_nil, or_false, false_or, List.append_nil, List.nil_append, List.cons_append, List.append_eq, List.replicate, List.length_cons, List.length_nil, List.map_cons, List.map_nil, ↓reduceIte, reduceCtorEq, if_true, if_false, true_and, and_true, false_and, and_false, and_self, not_true_eq_false, not_false_eq_true, forall_const, true_implies, false_implies, implies_true, Nat.reduceAdd, Nat.reduceSub, Nat.reduceLT, Nat.reduceLeDiff, Nat.reduceEqDiff, Nat.reduceMul, Nat.reducePow, Nat.add_one_ne_zero, Nat.add_one_sub_one, Nat.add_zero, Nat.zero_add, Int.reduceLT, Int.reduceLE, Int.reduceNeg, Int.reduceAdd, Int.reduceSub, Int.reduceToNat, Int.reduceEq, Int.reduceMul, Int.reducePow, Int.cast_ofNat_Int, Int.toNat_natCast, ne_eq, Bool.false_eq_true, true_or, or_true, or_self, Nat.not_lt_zero, ite_e0, ite_e1, lc_lt, lc_ge, lc_gt, lc_le, lc_eq, Classical.not_not]
  with_reducible repeat' (first | (refine And.intro ?_ ?_) | intro _)
  all_goals try omega
  refine rows (n := 8) ⟨fun F r c hF hi => ?_, fun o g hg r c => ?_⟩ (by decide) (by decide) rfl (by decide) (by decide) (fun σ1 c1 => ?_)
  · unfold inT at hi
    have e : r = 0 ∧ c = 0 ∧ 1 ≤ F := by omega
    obtain ⟨rfl, rfl, e⟩ := e
    have e2 : F = 1 ∨ F = 2 ∨ F = 3 ∨ F = 4 ∨ F = 5 ∨ F = 6 ∨ F = 7 ∨ F = 8 := by omega
    rcases e2 with rfl | rfl | rfl | rfl | rfl | rfl | rfl | rfl <;> simp [up_rd]
  · have hg' : (o == b && decide (g ≤ 8)) = false := hg
    have z : ¬ (o = b ∧ g ≤ 8) := by simpa using hg'
    simp only [up_rd]
    rw [if_neg (by omega), if_neg (by omega), if_neg (by omega), if_neg (by omega), if_neg (by omega), if_neg (by omega), if_neg (by omega), if_neg (by omega)]
  simp -implicitDefEqProofs only [↓b43_0, ↓b43_75, ↓b43_86, ↓b43_97, ↓b43_108, ↓b43_119, ↓b43_130, ↓b43_141, ↓b43_152, ↓b43_163, ↓b43_174, ↓b43_176, ↓b43_182, ↓b43_188, ↓b43_201, ↓b43_222, ↓b43_195, ↓b43_207, b43_0, b43_75, b43_86, b43_97, b43_108, b43_119, b43_130, b43_141, b43_152, b43_163, b43_174, b43_176, b43_182, b43_188, b43_201, b43_222, b43_195, b43_207, nLE0, layE4, ha, hb, ha2, hb2, n3_44, I32, ↓xb, xb, ps, lpad, lat, aok2, rd2, aaok, aav, alok, alen, aok, akk, csum, isLg, cmpI, clsE, Option.elim, eq_self, List.mem_cons, List.not_mem_nil, or_false, false_or, List.append_nil, List.nil_append, List.cons_append, List.append_eq, List.replicate, List.length_cons, List.length_nil, List.map_cons, List.map_nil, ↓reduceIte, reduceCtorEq, if_true, if_false, true_and, and_true, false_and, and_false, and_self, not_true_eq_false, not_false_eq_true, forall_const, true_implies, false_implies, implies_true, Nat.reduceAdd, Nat.reduceSub, Nat.reduceLT, Nat.reduceLeDiff, Nat.reduceEqDiff, Nat.reduceMul, Nat.reducePow, Nat.add_one_ne_zero, Nat.add_one_sub_one, Nat.add_zero, Nat.zero_add, Int.reduceLT, Int.reduceLE, Int.reduceNeg, Int.reduceAdd, Int.reduceSub, Int.reduceToNat, Int.reduceEq, Int.reduceMul, Int.reducePow, Int.cast_ofNat_Int, Int.toNat_natCast, ne_eq, Bool.false_eq_true, true_or, or_true, or_self, Nat.not_lt_zero, ite_e0, ite_e1, lc_lt, lc_ge, lc_gt, lc_le, lc_eq, Classical.not_not]
  with_reducible repeat' (first | (refine And.intro ?_ ?_) | intro _)
  all_goals try omega
  refine rows c1 (by decide) (by decide) rfl (by decide) (by decide) (fun σ2 c2 => ?_)
  simp -implicitDefEqProofs only [↓b43_0, ↓b43_75, ↓b43_86, ↓b43_97, ↓b43_108, ↓b43_119, ↓b43_130, ↓b43_141, ↓b43_152, ↓b43_163, ↓b43_174, ↓b43_176, ↓b43_182, ↓b43_188, ↓b43_201, ↓b43_222, ↓b43_195, ↓b43_207, b43_0, b43_75, b43_86, b43_97, b43_108, b43_119, b43_130, b43_141, b43_152, b43_163, b43_174, b43_176, b43_182, b43_188, b43_201, b43_222, b43_195, b43_207, nLE0, layE4, ha, hb, ha2, hb2, n3_44, I32, ↓xb, xb, ps, lpad, lat, aok2, rd2, aaok, aav, alok, alen, aok, akk, csum, isLg, cmpI, clsE, Option.elim, eq_self, List.mem_cons, List.not_mem_nil, or_false, false_or, List.append_nil, List.nil_append, List.cons_append, List.append_eq, List.replicate, List.length_cons, List.length_nil, List.map_cons, List.map_nil, ↓reduceIte, reduceCtorEq, if_true, if_false, true_and, and_true, false_and, and_false, and_self, not_true_eq_false, not_false_eq_true, forall_const, true_implies, false_implies, implies_true, Nat.reduceAdd, Nat.reduceSub, Nat.reduceLT, Nat.reduceLeDiff, Nat.reduceEqDiff, Nat.reduceMul, Nat.reducePow, Nat.add_one_ne_zero, Nat.add_one_sub_one, Nat.add_zero, Nat.zero_add, Int.reduceLT, Int.reduceLE, Int.reduceNeg, Int.reduceAdd, Int.reduceSub, Int.reduceToNat, Int.reduceEq, Int.reduceMul, Int.reducePow, Int.cast_ofNat_Int, Int.toNat_natCast, ne_eq, Bool.false_eq_true, true_or, or_true, or_self, Nat.not_lt_zero, ite_e0, ite_e1, lc_lt, lc_ge, lc_gt, lc_le, lc_eq, Classical.not_not]
  with_reducible repeat' (first | (refine And.intro ?_ ?_) | intro _)
  all_goals try omega
  refine rows c2 (by decide) (by decide) rfl (by decide) (by decide) (fun σ3 c3 => ?_)
  simp -implicitDefEqProofs only [↓b43_0, ↓b43_75, ↓b43_86, ↓b43_97, ↓b43_108, ↓b43_119, ↓b43_130, ↓b43_141, ↓b43_152, ↓b43_163, ↓b43_174, ↓b43_176, ↓b43_182, ↓b43_188, ↓b43_201, ↓b43_222, ↓b43_195, ↓b43_207, b43_0, b43_75, b43_86, b43_97, b43_108, b43_119, b43_130, b43_141, b43_152, b43_163, b43_174, b43_176, b43_182, b43_188, b43_201, b43_222, b43_195, b43_207, nLE0, layE4, ha, hb, ha2, hb2, n3_44, I32, ↓xb, xb, ps, lpad, lat, aok2, rd2, aaok, aav, alok, alen, aok, akk, csum, isLg, cmpI, clsE, Option.elim, eq_self, List.mem_cons, List.not_mem_nil, or_false, false_or, List.append_nil, List.nil_append, List.cons_append, List.append_eq, List.replicate, List.length_cons, List.length_nil, List.map_cons, List.map_nil, ↓reduceIte, reduceCtorEq, if_true, if_false, true_and, and_true, false_and, and_false, and_self, not_true_eq_false, not_false_eq_true, forall_const, true_implies, false_implies, implies_true, Nat.reduceAdd, Nat.reduceSub, Nat.reduceLT, Nat.reduceLeDiff, Nat.reduceEqDiff, Nat.reduceMul, Nat.reducePow, Nat.add_one_ne_zero, Nat.add_one_sub_one, Nat.add_zero, Nat.zero_add, Int.reduceLT, Int.reduceLE, Int.reduceNeg, Int.reduceAdd, Int.reduceSub, Int.reduceToNat, Int.reduceEq, Int.reduceMul, Int.reducePow, Int.cast_ofNat_Int, Int.toNat_natCast, ne_eq, Bool.false_eq_true, true_or, or_true, or_self, Nat.not_lt_zero, ite_e0, ite_e1, lc_lt, lc_ge, lc_gt, lc_le, lc_eq, Classical.not_not]
  with_reducible repeat' (first | (refine And.intro ?_ ?_) | intro _)
  all_goals try omega
  refine rows c3 (by decide) (by decide) rfl (by decide) (by decide) (fun σ4 c4 => ?_)
  simp -implicitDefEqProofs only [↓b43_0, ↓b43_75, ↓b43_86, ↓b43_97, ↓b43_108, ↓b43_119, ↓b43_130, ↓b43_141, ↓b43_152, ↓b43_163, ↓b43_174, ↓b43_176, ↓b43_182, ↓b43_188, ↓b43_201, ↓b43_222, ↓b43_195, ↓b43_207, b43_0, b43_75, b43_86, b43_97, b43_108, b43_119, b43_130, b43_141, b43_152, b43_163, b43_174, b43_176, b43_182, b43_188, b43_201, b43_222, b43_195, b43_207, nLE0, layE4, ha, hb, ha2, hb2, n3_44, I32, ↓xb, xb, ps, lpad, lat, aok2, rd2, aaok, aav, alok, alen, aok, akk, csum, isLg, cmpI, clsE, Option.elim, eq_self, List.mem_cons, List.not_mem_nil, or_false, false_or, List.append_nil, List.nil_append, List.cons_append, List.append_eq, List.replicate, List.length_cons, List.length_nil, List.map_cons, List.map_nil, ↓reduceIte, reduceCtorEq, if_true, if_false, true_and, and_true, false_and, and_false, and_self, not_true_eq_false, not_false_eq_true, forall_const, true_implies, false_implies, implies_true, Nat.reduceAdd, Nat.reduceSub, Nat.reduceLT, Nat.reduceLeDiff, Nat.reduceEqDiff, Nat.reduceMul, Nat.reducePow, Nat.add_one_ne_zero, Nat.add_one_sub_one, Nat.add_zero, Nat.zero_add, Int.reduceLT, Int.reduceLE, Int.reduceNeg, Int.reduceAdd, Int.reduceSub, Int.reduceToNat, Int.reduceEq, Int.reduceMul, Int.reducePow, Int.cast_ofNat_Int, Int.toNat_natCast, ne_eq, Bool.false_eq_true, true_or, or_true, or_self, Nat.not_lt_zero, ite_e0, ite_e1, lc_lt, lc_ge, lc_gt, lc_le, lc_eq, Classical.not_not]
  with_reducible repeat' (first | (refine And.intro ?_ ?_) | intro _)
  all_goals try omega
  refine rows c4 (by decide) (by decide) rfl (by decide) (by decide) (fun σ5 c5 => ?_)
  simp -implicitDefEqProofs only [↓b43_0, ↓b43_75, ↓b43_86, ↓b43_97, ↓b43_108, ↓b43_119, ↓b43_130, ↓b43_141, ↓b43_152, ↓b43_163, ↓b43_174, ↓b43_176, ↓b43_182, ↓b43_188, ↓b43_201, ↓b43_222, ↓b43_195, ↓b43_207, b43_0, b43_75, b43_86, b43_97, b43_108, b43_119, b43_130, b43_141, b43_152, b43_163, b43_174, b43_176, b43_182, b43_188, b43_201, b43_222, b43_195, b43_207, nLE0, layE4, ha, hb, ha2, hb2, n3_44, I32, ↓xb, xb, ps, lpad, lat, aok2, rd2, aaok, aav, alok, alen, aok, akk, csum, isLg, cmpI, clsE, Option.elim, eq_self, List.mem_cons, List.not_mem_nil, or_false, false_or, List.append_nil, List.nil_append, List.cons_append, List.append_eq, List.replicate, List.length_cons, List.length_nil, List.map_cons, List.map_nil, ↓reduceIte, reduceCtorEq, if_true, if_false, true_and, and_true, false_and, and_false, and_self, not_true_eq_false, not_false_eq_true, forall_const, true_implies, false_implies, implies_true, Nat.reduceAdd, Nat.reduceSub, Nat.reduceLT, Nat.reduceLeDiff, Nat.reduceEqDiff, Nat.reduceMul, Nat.reducePow, Nat.add_one_ne_zero, Nat.add_one_sub_one, Nat.add_zero, Nat.zero_add, Int.reduceLT, Int.reduceLE, Int.reduceNeg, Int.reduceAdd, Int.reduceSub, Int.reduceToNat, Int.reduceEq, Int.reduceMul, Int.reducePow, Int.cast_ofNat_Int, Int.toNat_natCast, ne_eq, Bool.false_eq_true, true_or, or_true, or_self, Nat.not_lt_zero, ite_e0, ite_e1, lc_lt, lc_ge, lc_gt, lc_le, lc_eq, Classical.not_not]
  with_reducible repeat' (first | (refine And.intro ?_ ?_) | intro _)
  all_goals try omega
  refine rows c5 (by decide) (by decide) rfl (by decide) (by decide) (fun σ6 c6 => ?_)
  simp -implicitDefEqProofs only [↓b43_0, ↓b43_75, ↓b43_86, ↓b43_97, ↓b43_108, ↓b43_119, ↓b43_130, ↓b43_141, ↓b43_152, ↓b43_163, ↓b43_174, ↓b43_176, ↓b43_182, ↓b43_188, ↓b43_201, ↓b43_222, ↓b43_195, ↓b43_207, b43_0, b43_75, b43_86, b43_97, b43_108, b43_119, b43_130, b43_141, b43_152, b43_163, b43_174, b43_176, b43_182, b43_188, b43_201, b43_222, b43_195, b43_207, nLE0, layE4, ha, hb, ha2, hb2, n3_44, I32, ↓xb, xb, ps, lpad, lat, aok2, rd2, aaok, aav, alok, alen, aok, akk, csum, isLg, cmpI, clsE, Option.elim, eq_self, List.mem_cons, List.not_mem_nil, or_false, false_or, List.append_nil, List.nil_append, List.cons_append, List.append_eq, List.replicate, List.length_cons, List.length_nil, List.map_cons, List.map_nil, ↓reduceIte, reduceCtorEq, if_true, if_false, true_and, and_true, false_and, and_false, and_self, not_true_eq_false, not_false_eq_true, forall_const, true_implies, false_implies, implies_true, Nat.reduceAdd, Nat.reduceSub, Nat.reduceLT, Nat.reduceLeDiff, Nat.reduceEqDiff, Nat.reduceMul, Nat.reducePow, Nat.add_one_ne_zero, Nat.add_one_sub_one, Nat.add_zero, Nat.zero_add, Int.reduceLT, Int.reduceLE, Int.reduceNeg, Int.reduceAdd, Int.reduceSub, Int.reduceToNat, Int.reduceEq, Int.reduceMul, Int.reducePow, Int.cast_ofNat_Int, Int.toNat_natCast, ne_eq, Bool.false_eq_true, true_or, or_true, or_self, Nat.not_lt_zero, ite_e0, ite_e1, lc_lt, lc_ge, lc_gt, lc_le, lc_eq, Classical.not_not]
  with_reducible repeat' (first | (refine And.intro ?_ ?_) | intro _)
  all_goals try omega
  refine rows c6 (by decide) (by decide) rfl (by decide) (by decide) (fun σ7 c7 => ?_)
  simp -implicitDefEqProofs only [↓b43_0, ↓b43_75, ↓b43_86, ↓b43_97, ↓b43_108, ↓b43_119, ↓b43_130, ↓b43_141, ↓b43_152, ↓b43_163, ↓b43_174, ↓b43_176, ↓b43_182, ↓b43_188, ↓b43_201, ↓b43_222, ↓b43_195, ↓b43_207, b43_0, b43_75, b43_86, b43_97, b43_108, b43_119, b43_130, b43_141, b43_152, b43_163, b43_174, b43_176, b43_182, b43_188, b43_201, b43_222, b43_195, b43_207, nLE0, layE4, ha, hb, ha2, hb2, n3_44, I32, ↓xb, xb, ps, lpad, lat, aok2, rd2, aaok, aav, alok, alen, aok, akk, csum, isLg, cmpI, clsE, Option.elim, eq_self, List.mem_cons, List.not_mem_nil, or_false, false_or, List.append_nil, List.nil_append, List.cons_append, List.append_eq, List.replicate, List.length_cons, List.length_nil, List.map_cons, List.map_nil, ↓reduceIte, reduceCtorEq, if_true, if_false, true_and, and_true, false_and, and_false, and_self, not_true_eq_false, not_false_eq_true, forall_const, true_implies, false_implies, implies_true, Nat.reduceAdd, Nat.reduceSub, Nat.reduceLT, Nat.reduceLeDiff, Nat.reduceEqDiff, Nat.reduceMul, Nat.reducePow, Nat.add_one_ne_zero, Nat.add_one_sub_one, Nat.add_zero, Nat.zero_add, Int.reduceLT, Int.reduceLE, Int.reduceNeg, Int.reduceAdd, Int.reduceSub, Int.reduceToNat, Int.reduceEq, Int.reduceMul, Int.reducePow, Int.cast_ofNat_Int, Int.toNat_natCast, ne_eq, Bool.false_eq_true, true_or, or_true, or_self, Nat.not_lt_zero, ite_e0, ite_e1, lc_lt, lc_ge, lc_gt, lc_le, lc_eq, Classical.not_not]
  with_reducible repeat' (first | (refine And.intro ?_ ?_) | intro _)
  all_goals try omega
  refine rows c7 (by decide) (by decide) rfl (by decide) (by decide) (fun σ8 c8 => ?_)
  simp -implicitDefEqProofs only [↓b43_0, ↓b43_75, ↓b43_86, ↓b43_97, ↓b43_108, ↓b43_119, ↓b43_130, ↓b43_141, ↓b43_152, ↓b43_163, ↓b43_174, ↓b43_176, ↓b43_182, ↓b43_188, ↓b43_201, ↓b43_222, ↓b43_195, ↓b43_207, b43_0, b43_75, b43_86, b43_97, b43_108, b43_119, b43_130, b43_141, b43_152, b43_163, b43_174, b43_176, b43_182, b43_188, b43_201, b43_222, b43_195, b43_207, nLE0, layE4, ha, hb, ha2, hb2, n3_44, I32, ↓xb, xb, ps, lpad, lat, aok2, rd2, aaok, aav, alok, alen, aok, akk, csum, isLg, cmpI, clsE, Option.elim, eq_self, List.mem_cons, List.not_mem_nil, or_false, false_or, List.append_nil, List.nil_append, List.cons_append, List.append_eq, List.replicate, List.length_cons, List.length_nil, List.map_cons, List.map_nil, ↓reduceIte, reduceCtorEq, if_true, if_false, true_and, and_true, false_and, and_false, and_self, not_true_eq_false, not_false_eq_true, forall_const, true_implies, false_implies, implies_true, Nat.reduceAdd, Nat.reduceSub, Nat.reduceLT, Nat.reduceLeDiff, Nat.reduceEqDiff, Nat.reduceMul, Nat.reducePow, Nat.add_one_ne_zero, Nat.add_one_sub_one, Nat.add_zero, Nat.zero_add, Int.reduceLT, Int.reduceLE, Int.reduceNeg, Int.reduceAdd, Int.reduceSub, Int.reduceToNat, Int.reduceEq, Int.reduceMul, Int.reducePow, Int.cast_ofNat_Int, Int.toNat_natCast, ne_eq, Bool.false_eq_true, true_or, or_true, or_self, Nat.not_lt_zero, ite_e0, ite_e1, lc_lt, lc_ge, lc_gt, lc_le, lc_eq, Classical.not_not]
  with_reducible repeat' (first | (refine And.intro ?_ ?_) | intro _)
  all_goals try omega
  refine rows c8 (by decide) (by decide) rfl (by decide) (by decide) (fun σ9 c9 => ?_)
  simp -implicitDefEqProofs only [↓b43_0, ↓b43_75, ↓b43_86, ↓b43_97, ↓b43_108, ↓b43_119, ↓b43_130, ↓b43_141, ↓b43_152, ↓b43_163, ↓b43_174, ↓b43_176, ↓b43_182, ↓b43_188, ↓b43_201, ↓b43_222, ↓b43_195, ↓b43_207, b43_0, b43_75, b43_86, b43_97, b43_108, b43_119, b43_130, b43_141, b43_152, b43_163, b43_174, b43_176, b43_182, b43_188, b43_201, b43_222, b43_195, b43_207, nLE0, layE4, ha, hb, ha2, hb2, n3_44, I32, ↓xb, xb, ps, lpad, lat, aok2, rd2, aaok, aav, alok, alen, aok, akk, csum, isLg, cmpI, clsE, Option.elim, eq_self, List.mem_cons, List.not_mem_nil, or_false, false_or, List.append_nil, List.nil_append, List.cons_append, List.append_eq, List.replicate, List.length_cons, List.length_nil, List.map_cons, List.map_nil, ↓reduceIte, reduceCtorEq, if_true, if_false, true_and, and_true, false_and, and_false, and_self, not_true_eq_false, not_false_eq_true, forall_const, true_implies, false_implies, implies_true, Nat.reduceAdd, Nat.reduceSub, Nat.reduceLT, Nat.reduceLeDiff, Nat.reduceEqDiff, Nat.reduceMul, Nat.reducePow, Nat.add_one_ne_zero, Nat.add_one_sub_one, Nat.add_zero, Nat.zero_add, Int.reduceLT, Int.reduceLE, Int.reduceNeg, Int.reduceAdd, Int.reduceSub, Int.reduceToNat, Int.reduceEq, Int.reduceMul, Int.reducePow, Int.cast_ofNat_Int, Int.toNat_natCast, ne_eq, Bool.false_eq_true, true_or, or_true, or_self, Nat.not_lt_zero, ite_e0, ite_e1, lc_lt, lc_ge, lc_gt, lc_le, lc_eq, Classical.not_not]
  with_reducible repeat' (first | (refine And.intro ?_ ?_) | intro _)
  all_goals try omega
  refine rows c9 (by decide) (by decide) rfl (by decide) (by decide) (fun σ10 c10 => ?_)
  simp -implicitDefEqProofs only [↓b43_0, ↓b43_75, ↓b43_86, ↓b43_97, ↓b43_108, ↓b43_119, ↓b43_130, ↓b43_141, ↓b43_152, ↓b43_163, ↓b43_174, ↓b43_176, ↓b43_182, ↓b43_188, ↓b43_201, ↓b43_222, ↓b43_195, ↓b43_207, b43_0, b43_75, b43_86, b43_97, b43_108, b43_119, b43_130, b43_141, b43_152, b43_163, b43_174, b43_176, b43_182, b43_188, b43_201, b43_222, b43_195, b43_207, nLE0, layE4, ha, hb, ha2, hb2, n3_44, I32, ↓xb, xb, ps, lpad, lat, aok2, rd2, aaok, aav, alok, alen, aok, akk, csum, isLg, cmpI, clsE, Option.elim, eq_self, List.mem_cons, List.not_mem_nil, or_false, false_or, List.append_nil, List.nil_append, List.cons_append, List.append_eq, List.replicate, List.length_cons, List.length_nil, List.map_cons, List.map_nil, ↓reduceIte, reduceCtorEq, if_true, if_false, true_and, and_true, false_and, and_false, and_self, not_true_eq_false, not_false_eq_true, forall_const, true_implies, false_implies, implies_true, Nat.reduceAdd, Nat.reduceSub, Nat.reduceLT, Nat.reduceLeDiff, Nat.reduceEqDiff, Nat.reduceMul, Nat.reducePow, Nat.add_one_ne_zero, Nat.add_one_sub_one, Nat.add_zero, Nat.zero_add, Int.reduceLT, Int.reduceLE, Int.reduceNeg, Int.reduceAdd, Int.reduceSub, Int.reduceToNat, Int.reduceEq, Int.reduceMul, Int.reducePow, Int.cast_ofNat_Int, Int.toNat_natCast, ne_eq, Bool.false_eq_true, true_or, or_true, or_self, Nat.not_lt_zero, ite_e0, ite_e1, lc_lt, lc_ge, lc_gt, lc_le, lc_eq, Classical.not_not]
  with_reducible repeat' (first | (refine And.intro ?_ ?_) | intro _)
  all_goals try omega
  exact kc_copy_g (by omega) hab ha ha2 hb hb2 q 13 0 σ10 σ10 (by omega) (by omega) (by omega) c10 (fun r c r1 r2 => by omega) same.refl
end TWN

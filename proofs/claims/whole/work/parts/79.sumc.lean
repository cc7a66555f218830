/-! 79.sumc: a value of a sum (class) -/
section SMC
variable {G : Gl} {w : Wd} {k : Nat} {σ : Mem} {Q : Option AV → Mem → Prop} {t : Nat → Int} {N o : Nat}
theorem wfo {w : Wd} (ho : 12 ≤ o ∧ o ≤ 20) (hw : o = 12 ∨ w o = true) : wfv w (vr o 0 0) := Or.inr ⟨⟨by
  show o < 3 ∨ (7 ≤ o ∧ o ≤ 12) ∨ o = 21 ∨ w o = true
  rcases hw with h | h
  · exact Or.inr (Or.inl (by omega))
  · exact Or.inr (Or.inr (Or.inr h)), by show o < 22; omega⟩, Or.inl ⟨rfl, rfl⟩⟩
theorem gd_l {α : Type} {l m : List α} {i : Nat} {d : α} (h : i < l.length) : (l ++ m).getD i d = l.getD i d := by
  rw [List.getD_eq_getElem?_getD, List.getD_eq_getElem?_getD, List.getElem?_append_left h]
theorem gd_r {α : Type} {l : List α} {x d : α} : (l ++ [x]).getD l.length d = x := by
  rw [List.getD_eq_getElem?_getD, List.getElem?_append_right (Nat.le_refl _)]
  simp
theorem RSt.lim {p c : Nat} {LL : List (Nat × Int)} (R : RSt σ t N o p c LL) : N ≤ 400 := R.1.2.2.1
theorem tkB_r {t : Nat → Int} (ht : TR t) {b : Nat} : 0 ≤ tkB t N b ∧ tkB t N b ≤ 400 := by
  have h := ht b
  have d := wdT_r (t := t) (f := b) (e := le t N b)
  unfold tkB
  split
  · omega
  · split
    · omega
    · split
      · omega
      · split
        · split <;> omega
        · omega
theorem tvB_r {t : Nat → Int} (ht : TR t) {b : Nat} : -1 ≤ tvB t N b ∧ tvB t N b ≤ 99999 := by
  unfold tvB
  split
  · have h := dgV_r ht (b := b) (fun _ _ => Or.inr trivial) (dge t N b - b) (fun j hj => (sc_r (f := fun i => isDg (t i)) (N := N) (p := b)).2.2 (b + j) (by omega) (show b + j < dge t N b by omega))
    omega
  · omega
set_option maxRecDepth 100000 in
set_option maxHeartbeats 1000000 in
theorem kc_val (ht : TR t) (ho : 12 ≤ o ∧ o ≤ 20) (hw : o = 12 ∨ w o = true) (hk : 16 ≤ k) {p c : Nat} {LL : List (Nat × Int)} (R : RSt σ t N o p c LL) (hp : p ≤ N) (hc : c ≤ 60) (hl : LL.length ≤ p) {l1 l2 l3 l4 l5 l6 : Option AV} (h4 : ∃ x, l4 = some (vi x))
    (qf : ∀ f, pzV t N p c = .inl f → ∀ σ', σ' 7 8 0 0 = f → same (SR o) σ σ' → Q (some (vi 0)) σ')
    (qk : ∀ p1 c1 L1, pzV t N p c = .inr (p1, c1, L1) → ∀ σ', RSt σ' t N o p1 c1 (LL ++ L1) → same (SR o) σ σ' → TT G w w w k (0, 0) 27 86 [some (vr 7 0 0), l1, l2, l3, l4, some (vi (-1)), l6] [] σ' Q) :
    TT G w w w k (0, 0) 27 22 [some (vr 7 0 0), l1, l2, l3, l4, l5, l6] [] σ Q := by
  obtain ⟨x4, rfl⟩ := h4
  obtain ⟨T, ⟨k3, k4, k5, k6⟩, c7, d9, r3, r8, r9⟩ := R
  have hN := T.2.2.1
  have bb : bls t N p ≤ N := bls_r.2 hp
  have pb : p ≤ bls t N p := bls_r.1
  have trr := tkB_r (N := N) ht (b := bls t N p)
  have tvr := tvB_r (N := N) ht (b := bls t N p)
  have ter := te_r (t := t) bb
  have wf9 := wfo (o := o) (w := w) ho hw
  have h22 : o < 22 := by omega
  have hcl := ro_cls ho
  have esp : pzV t N p c = (if tkB t N (bls t N p) = 31 then (if tvB t N (bls t N p) = -1 then .inl (1 + 8 * bls t N p + 1) else if 60 ≤ c then .inl (1 + 8 * bls t N p + 3) else .inr (teB t N (bls t N p), c + 1, [(0, tvB t N (bls t N p))])) else if tkB t N (bls t N p) < 15 then (if 60 ≤ c then .inl (1 + 8 * bls t N p + 3) else .inr (teB t N (bls t N p), c + 1, [(1, tkB t N (bls t N p))])) else .inl (1 + 8 * bls t N p)) := rfl
  generalize hb' : bls t N p = b at *
  generalize hkd : tkB t N b = kd at *
  generalize htv : tvB t N b = tv at *
  have bad : ∀ x : Int, 0 ≤ x → x ≤ 4 → pzV t N p c = .inl (1 + 8 * b + x) → Q (some (vi 0)) (up σ 7 8 0 0 (1 + 8 * b + x)) := fun x h0 h1 e => qf _ e _ upp_eq (same.put same.refl rfl)
  -- the piece is put, the next token read
  have good : ∀ (v : Nat × Int), pzV t N p c = .inr (teB t N b, c + 1, [v]) → ∀ σ1, RSt σ1 t N o (teB t N b) (c + 1) (LL ++ [v]) → same (SR o) σ σ1 → TT G w w w k (0, 0) 27 86 [some (vr 7 0 0), l1, l2, l3, some (vi x4), some (vi (-1)), l6] [] σ1 Q := fun v e σ1 h1 h2 => qk _ _ _ e σ1 h1 h2
  have aft : ∀ (v : Nat × Int) (σ1 σ2 : Mem), (∀ a f, ¬ (a = 7 ∧ f = 7) → ∀ r c, σ1 a f r c = σ a f r c) → (∀ a f, ¬ (a = o ∧ (f = 3 ∨ f = 8)) → ∀ r c, σ2 a f r c = σ1 a f r c) → TXt σ2 t N ∧ σ2 7 3 0 0 = ((teB t N b : Nat) : Int) := fun v σ1 σ2 g a4 => by
    have g2 : ∀ a f, ¬ (a = 7 ∧ f = 7) → ¬ (a = o ∧ (f = 3 ∨ f = 8)) → ∀ r c, σ2 a f r c = σ a f r c := fun a f n1 n2 r c => (a4 a f n2 r c).trans (g a f n1 r c)
    exact ⟨⟨by rw [g2 7 1 (by omega) (by omega)]; exact T.1, by rw [g2 7 2 (by omega) (by omega)]; exact T.2.1, hN, fun i hi => (g2 0 6 (by omega) (by omega) 0 i).trans (T.2.2.2 i hi)⟩, (g2 7 3 (by omega) (by omega) 0 0).trans k3⟩
  have putit : ∀ (v : Nat × Int) (σ1 σ2 σ3 : Mem), pzV t N p c = .inr (teB t N b, c + 1, [v]) → (∀ a f, ¬ (a = 7 ∧ f = 7) → ∀ r c, σ1 a f r c = σ a f r c) → σ1 7 7 0 0 = (c : Int) + 1 →
      σ2 o 3 0 0 = (LL.length : Int) + 1 → σ2 o 8 0 LL.length = cP v → (∀ i, i ≠ LL.length → σ2 o 8 0 i = σ1 o 8 0 i) → (∀ a f, ¬ (a = o ∧ (f = 3 ∨ f = 8)) → ∀ r c, σ2 a f r c = σ1 a f r c) → TKs σ3 t N (bls t N (teB t N b)) → same S7n σ2 σ3 →
      TT G w w w k (0, 0) 27 86 [some (vr 7 0 0), l1, l2, l3, some (vi x4), some (vi (-1)), l6] [] σ3 Q := fun v σ1 σ2 σ3 e g h7 a1 a2 a3 a4 K3 s3 => by
    have g2 : ∀ a f, ¬ (a = 7 ∧ f = 7) → ¬ (a = o ∧ (f = 3 ∨ f = 8)) → ∀ r c, σ2 a f r c = σ a f r c := fun a f n1 n2 r c => (a4 a f n2 r c).trans (g a f n1 r c)
    refine good v e σ3 ?_ ?_
    · refine ⟨(aft v σ1 σ2 g a4).1.keep s3, K3, ?_, ?_, ?_, fun i hi => ?_, by rw [s3 7 8 rfl, g2 7 8 (by omega) (by omega)]; exact r9⟩
      · rw [s3 7 7 rfl, a4 7 7 (by omega), h7]; omega
      · rw [s3 7 9 rfl, g2 7 9 (by omega) (by omega)]; exact d9
      · rw [s3 o 3 (by show (o == 7 && _) = false; rw [show (o == 7) = false by simp; omega]; rfl), a1, List.length_append]; simp
      · rw [s3 o 8 (by show (o == 7 && _) = false; rw [show (o == 7) = false by simp; omega]; rfl)]
        rw [List.length_append] at hi
        by_cases q : i = LL.length
        · subst q
          rw [a2, gd_r]
        · have : i < LL.length := by simp at hi; omega
          rw [a3 i q, g o 8 (by omega) 0 i, r8 i this, gd_l this]
    · intro a f hf r' c'
      have hf' : ¬ (a = 7 ∧ (f = 3 ∨ f = 4 ∨ f = 5 ∨ f = 6 ∨ f = 7 ∨ f = 8)) ∧ ¬ (a = o ∧ (f = 3 ∨ f = 8)) := by
        have z : ((a == 7 && (f == 3 || f == 4 || f == 5 || f == 6 || f == 7 || f == 8)) || (a == o && (f == 3 || f == 8))) = false := hf
        simp only [Bool.or_eq_false_iff, Bool.and_eq_false_iff, beq_eq_false_iff_ne, ne_eq] at z
        omega
      rw [s3 a f (by
        show (a == 7 && (f == 3 || f == 4 || f == 5 || f == 6)) = false
        simp only [Bool.and_eq_false_iff, Bool.or_eq_false_iff, beq_eq_false_iff_ne, ne_eq]
        omega), g2 a f (by omega) hf'.2]
  have e5 := k5
  -- a fault
  have flt : ∀ x : Int, 0 ≤ x → x ≤ 4 → pzV t N p c = .inl (1 + 8 * b + x) → TT G w w w k (0, 0) 27 34 [some (vr 7 0 0), l1, l2, l3, some (vi x4), some (vi x), l6] [] σ Q := fun x h0 h1 e => by
    have r := bad x h0 h1 e
    refine TT_vb ok27 (sm3_ok G w) 60 [] ?_
    simp -implicitDefEqProofs only [↓b27_0, ↓b27_9, ↓b27_13, ↓b27_22, ↓b27_26, ↓b27_34, ↓b27_40, ↓b27_41, ↓b27_55, ↓b27_64, ↓b27_75, ↓b27_79, ↓b27_82, ↓b27_86, ↓b27_93, ↓b27_100, ↓b27_104, ↓b27_108, ↓b27_120, ↓b27_127, ↓b27_131, ↓b27_132, ↓b27_139, ↓b27_146, ↓b27_153, ↓b27_157, ↓b27_158, ↓b27_163, ↓b27_168, ↓b27_172, ↓b27_176, ↓b27_180, ↓b27_185, ↓b27_189, ↓b27_190, ↓b27_195, ↓b27_199, ↓b27_205, b27_0, b27_9, b27_13, b27_22, b27_26, b27_34, b27_40, b27_41, b27_55, b27_64, b27_75, b27_79, b27_82, b27_86, b27_93, b27_100, b27_104, b27_108, b27_120, b27_127, b27_131, b27_132, b27_139, b27_146, b27_153, b27_157, b27_158, b27_163, b27_168, b27_172, b27_176, b27_180, b27_185, b27_189, b27_190, b27_195, b27_199, b27_205, nLE0, layE2, layE3, hk, n3_28, n3_21, n3_38, n3_29, I32, ↓xb, xb, ps, lpad, lat, aok2, rd2, aaok, aav, alok, alen, aok, akk, csum, isLg, cmpI, clsE, Option.elim, eq_self, List.mem_cons, List.not_mem_nil, or_false, false_or, List.append_nil, List.nil_append, List.cons_append, List.append_eq, List.replicate, List.length_cons, List.length_nil, List.map_cons, List.map_nil, ↓reduceIte, reduceCtorEq, if_true, if_false, true_and, and_true, false_and, and_false, and_self, not_true_eq_false, not_false_eq_true, forall_const, true_implies, false_implies, implies_true, Nat.reduceAdd, Nat.reduceSub, Nat.reduceLT, Nat.reduceLeDiff, Nat.reduceEqDiff, Nat.reduceMul, Nat.reducePow, Nat.add_one_ne_zero, Nat.add_one_sub_one, Nat.add_zero, Nat.zero_add, Int.reduceLT, Int.reduceLE, Int.reduceNeg, Int.reduceAdd, Int.reduceSub, Int.reduceToNat, Int.reduceEq, Int.reduceMul, Int.reducePow, Int.cast_ofNat_Int, Int.toNat_natCast, ne_eq, Bool.false_eq_true, true_or, or_true, or_self, Nat.not_lt_zero, ite_e0, ite_e1, lc_lt, lc_ge, lc_gt, lc_le, lc_eq, Classical.not_not]
    with_reducible repeat' (first | (refine And.intro ?_ ?_) | intro _)
    all_goals try omega
    refine kc_refuse (b := b) (by omega) ⟨h0, h1⟩ k5 (by omega) ?_
    simp -implicitDefEqProofs only [↓b27_0, ↓b27_9, ↓b27_13, ↓b27_22, ↓b27_26, ↓b27_34, ↓b27_40, ↓b27_41, ↓b27_55, ↓b27_64, ↓b27_75, ↓b27_79, ↓b27_82, ↓b27_86, ↓b27_93, ↓b27_100, ↓b27_104, ↓b27_108, ↓b27_120, ↓b27_127, ↓b27_131, ↓b27_132, ↓b27_139, ↓b27_146, ↓b27_153, ↓b27_157, ↓b27_158, ↓b27_163, ↓b27_168, ↓b27_172, ↓b27_176, ↓b27_180, ↓b27_185, ↓b27_189, ↓b27_190, ↓b27_195, ↓b27_199, ↓b27_205, b27_0, b27_9, b27_13, b27_22, b27_26, b27_34, b27_40, b27_41, b27_55, b27_64, b27_75, b27_79, b27_82, b27_86, b27_93, b27_100, b27_104, b27_108, b27_120, b27_127, b27_131, b27_132, b27_139, b27_146, b27_153, b27_157, b27_158, b27_163, b27_168, b27_172, b27_176, b27_180, b27_185, b27_189, b27_190, b27_195, b27_199, b27_205, nLE0, layE2, layE3, hk, n3_28, n3_21, n3_38, n3_29, I32, ↓xb, xb, ps, lpad, lat, aok2, rd2, aaok, aav, alok, alen, aok, akk, csum, isLg, cmpI, clsE, Option.elim, eq_self, List.mem_cons, List.not_mem_nil, or_false, false_or, List.append_nil, List.nil_append, List.cons_append, List.append_eq, List.replicate, List.length_cons, List.length_nil, List.map_cons, List.map_nil, ↓reduceIte, reduceCtorEq, if_true, if_false, true_and, and_true, false_and, and_false, and_self, not_true_eq_false, not_false_eq_true, forall_const, true_implies, false_implies, implies_true, Nat.reduceAdd, Nat.reduceSub, Nat.reduceLT, Nat.reduceLeDiff, Nat.reduceEqDiff, Nat.reduceMul, Nat.reducePow, Nat.add_one_ne_zero, Nat.add_one_sub_one, Nat.add_zero, Nat.zero_add, Int.reduceLT, Int.reduceLE, Int.reduceNeg, Int.reduceAdd, Int.reduceSub, Int.reduceToNat, Int.reduceEq, Int.reduceMul, Int.reducePow, Int.cast_ofNat_Int, Int.toNat_natCast, ne_eq, Bool.false_eq_true, true_or, or_true, or_self, Nat.not_lt_zero, ite_e0, ite_e1, lc_lt, lc_ge, lc_gt, lc_le, lc_eq, Classical.not_not]
    with_reducible repeat' (first | (refine And.intro ?_ ?_) | intro _)
    all_goals try omega
    all_goals first | omega | exact r
  -- a piece
  have pce : ∀ v : Nat × Int, pzV t N p c = .inr (teB t N b, c + 1, [v]) → (kd = 31 → v = (0, tv) ∧ 0 ≤ tv) → (¬ kd = 31 → v = (1, kd)) → kd ≠ 32 → TT G w w w k (0, 0) 27 41 [some (vr 7 0 0), l1, l2, l3, some (vi x4), some (vi (-1)), l6] [] σ Q := fun v e v1 v2 n32 => by
    have hl' : LL.length < 400 := by
      have := ter.2.2.2 n32
      omega
    have g : ∀ a f, ¬ (a = 7 ∧ f = 7) → ∀ r c', up σ 7 7 0 0 ((c : Int) + 1) a f r c' = σ a f r c' := fun a f h r c' => by
      unfold up
      rw [if_neg (fun z => h ⟨z.1, z.2.1⟩)]
    have h7 : up σ 7 7 0 0 ((c : Int) + 1) 7 7 0 0 = (c : Int) + 1 := upp_eq
    have u9 : dec (up σ 7 7 0 0 ((c : Int) + 1) 7 9 0 0) = vr o 0 0 := by rw [g 7 9 (by omega)]; exact d9
    have u4 : up σ 7 7 0 0 ((c : Int) + 1) 7 4 0 0 = kd := (g 7 4 (by omega) 0 0).trans k4
    have u6 : kd = 31 → up σ 7 7 0 0 ((c : Int) + 1) 7 6 0 0 = tv := fun z => (g 7 6 (by omega) 0 0).trans (k6 z)
    refine TT_vb ok27 (sm3_ok G w) 60 [55] ?_
    simp -implicitDefEqProofs only [↓b27_0, ↓b27_9, ↓b27_13, ↓b27_22, ↓b27_26, ↓b27_34, ↓b27_40, ↓b27_41, ↓b27_55, ↓b27_64, ↓b27_75, ↓b27_79, ↓b27_82, ↓b27_86, ↓b27_93, ↓b27_100, ↓b27_104, ↓b27_108, ↓b27_120, ↓b27_127, ↓b27_131, ↓b27_132, ↓b27_139, ↓b27_146, ↓b27_153, ↓b27_157, ↓b27_158, ↓b27_163, ↓b27_168, ↓b27_172, ↓b27_176, ↓b27_180, ↓b27_185, ↓b27_189, ↓b27_190, ↓b27_195, ↓b27_199, ↓b27_205, b27_0, b27_9, b27_13, b27_22, b27_26, b27_34, b27_40, b27_41, b27_55, b27_64, b27_75, b27_79, b27_82, b27_86, b27_93, b27_100, b27_104, b27_108, b27_120, b27_127, b27_131, b27_132, b27_139, b27_146, b27_153, b27_157, b27_158, b27_163, b27_168, b27_172, b27_176, b27_180, b27_185, b27_189, b27_190, b27_195, b27_199, b27_205, nLE0, layE2, layE3, c7, u9, wf9, n3_28, n3_21, n3_38, n3_29, I32, ↓xb, xb, ps, lpad, lat, aok2, rd2, aaok, aav, alok, alen, aok, akk, csum, isLg, cmpI, clsE, Option.elim, eq_self, List.mem_cons, List.not_mem_nil, or_false, false_or, List.append_nil, List.nil_append, List.cons_append, List.append_eq, List.replicate, List.length_cons, List.length_nil, List.map_cons, List.map_nil, ↓reduceIte, reduceCtorEq, if_true, if_false, true_and, and_true, false_and, and_false, and_self, not_true_eq_false, not_false_eq_true, forall_const, true_implies, false_implies, implies_true, Nat.reduceAdd, Nat.reduceSub, Nat.reduceLT, Nat.reduceLeDiff, Nat.reduceEqDiff, Nat.reduceMul, Nat.reducePow, Nat.add_one_ne_zero, Nat.add_one_sub_one, Nat.add_zero, Nat.zero_add, Int.reduceLT, Int.reduceLE, Int.reduceNeg, Int.reduceAdd, Int.reduceSub, Int.reduceToNat, Int.reduceEq, Int.reduceMul, Int.reducePow, Int.cast_ofNat_Int, Int.toNat_natCast, ne_eq, Bool.false_eq_true, true_or, or_true, or_self, Nat.not_lt_zero, ite_e0, ite_e1, lc_lt, lc_ge, lc_gt, lc_le, lc_eq, Classical.not_not]
    have r3' : up σ 7 7 0 0 ((c : Int) + 1) o 3 0 0 = LL.length := (g o 3 (by omega) 0 0).trans r3
    generalize up σ 7 7 0 0 ((c : Int) + 1) = σ1 at g h7 u4 u6 r3' ⊢
    with_reducible repeat' (first | (refine And.intro ?_ ?_) | intro _)
    all_goals try omega
    all_goals first | omega | skip
    by_cases c1 : kd = 31
    · obtain ⟨rfl, tv0⟩ := v1 c1
      have u6' := u6 c1
      have ev : cP (0, tv) = 1000 + tv := rfl
      refine TT_vb ok27 (sm3_ok G w) 60 [86] ?_
      simp -implicitDefEqProofs only [↓b27_0, ↓b27_9, ↓b27_13, ↓b27_22, ↓b27_26, ↓b27_34, ↓b27_40, ↓b27_41, ↓b27_55, ↓b27_64, ↓b27_75, ↓b27_79, ↓b27_82, ↓b27_86, ↓b27_93, ↓b27_100, ↓b27_104, ↓b27_108, ↓b27_120, ↓b27_127, ↓b27_131, ↓b27_132, ↓b27_139, ↓b27_146, ↓b27_153, ↓b27_157, ↓b27_158, ↓b27_163, ↓b27_168, ↓b27_172, ↓b27_176, ↓b27_180, ↓b27_185, ↓b27_189, ↓b27_190, ↓b27_195, ↓b27_199, ↓b27_205, b27_0, b27_9, b27_13, b27_22, b27_26, b27_34, b27_40, b27_41, b27_55, b27_64, b27_75, b27_79, b27_82, b27_86, b27_93, b27_100, b27_104, b27_108, b27_120, b27_127, b27_131, b27_132, b27_139, b27_146, b27_153, b27_157, b27_158, b27_163, b27_168, b27_172, b27_176, b27_180, b27_185, b27_189, b27_190, b27_195, b27_199, b27_205, nLE0, layE2, layE3, u4, u6', c1, n3_28, n3_21, n3_38, n3_29, I32, ↓xb, xb, ps, lpad, lat, aok2, rd2, aaok, aav, alok, alen, aok, akk, csum, isLg, cmpI, clsE, Option.elim, eq_self, List.mem_cons, List.not_mem_nil, or_false, false_or, List.append_nil, List.nil_append, List.cons_append, List.append_eq, List.replicate, List.length_cons, List.length_nil, List.map_cons, List.map_nil, ↓reduceIte, reduceCtorEq, if_true, if_false, true_and, and_true, false_and, and_false, and_self, not_true_eq_false, not_false_eq_true, forall_const, true_implies, false_implies, implies_true, Nat.reduceAdd, Nat.reduceSub, Nat.reduceLT, Nat.reduceLeDiff, Nat.reduceEqDiff, Nat.reduceMul, Nat.reducePow, Nat.add_one_ne_zero, Nat.add_one_sub_one, Nat.add_zero, Nat.zero_add, Int.reduceLT, Int.reduceLE, Int.reduceNeg, Int.reduceAdd, Int.reduceSub, Int.reduceToNat, Int.reduceEq, Int.reduceMul, Int.reducePow, Int.cast_ofNat_Int, Int.toNat_natCast, ne_eq, Bool.false_eq_true, true_or, or_true, or_self, Nat.not_lt_zero, ite_e0, ite_e1, lc_lt, lc_ge, lc_gt, lc_le, lc_eq, Classical.not_not]
      with_reducible repeat' (first | (refine And.intro ?_ ?_) | intro _)
      all_goals try omega
      all_goals first | omega | skip
      rw [← ev]
      refine kc_pce ho (by omega) hl' r3' (fun σ2 a1 a2 a3 a4 => ?_)
      have af := aft (0, tv) σ1 σ2 g a4
      simp -implicitDefEqProofs only [↓b27_0, ↓b27_9, ↓b27_13, ↓b27_22, ↓b27_26, ↓b27_34, ↓b27_40, ↓b27_41, ↓b27_55, ↓b27_64, ↓b27_75, ↓b27_79, ↓b27_82, ↓b27_86, ↓b27_93, ↓b27_100, ↓b27_104, ↓b27_108, ↓b27_120, ↓b27_127, ↓b27_131, ↓b27_132, ↓b27_139, ↓b27_146, ↓b27_153, ↓b27_157, ↓b27_158, ↓b27_163, ↓b27_168, ↓b27_172, ↓b27_176, ↓b27_180, ↓b27_185, ↓b27_189, ↓b27_190, ↓b27_195, ↓b27_199, ↓b27_205, b27_0, b27_9, b27_13, b27_22, b27_26, b27_34, b27_40, b27_41, b27_55, b27_64, b27_75, b27_79, b27_82, b27_86, b27_93, b27_100, b27_104, b27_108, b27_120, b27_127, b27_131, b27_132, b27_139, b27_146, b27_153, b27_157, b27_158, b27_163, b27_168, b27_172, b27_176, b27_180, b27_185, b27_189, b27_190, b27_195, b27_199, b27_205, nLE0, layE2, layE3, hk, n3_28, n3_21, n3_38, n3_29, I32, ↓xb, xb, ps, lpad, lat, aok2, rd2, aaok, aav, alok, alen, aok, akk, csum, isLg, cmpI, clsE, Option.elim, eq_self, List.mem_cons, List.not_mem_nil, or_false, false_or, List.append_nil, List.nil_append, List.cons_append, List.append_eq, List.replicate, List.length_cons, List.length_nil, List.map_cons, List.map_nil, ↓reduceIte, reduceCtorEq, if_true, if_false, true_and, and_true, false_and, and_false, and_self, not_true_eq_false, not_false_eq_true, forall_const, true_implies, false_implies, implies_true, Nat.reduceAdd, Nat.reduceSub, Nat.reduceLT, Nat.reduceLeDiff, Nat.reduceEqDiff, Nat.reduceMul, Nat.reducePow, Nat.add_one_ne_zero, Nat.add_one_sub_one, Nat.add_zero, Nat.zero_add, Int.reduceLT, Int.reduceLE, Int.reduceNeg, Int.reduceAdd, Int.reduceSub, Int.reduceToNat, Int.reduceEq, Int.reduceMul, Int.reducePow, Int.cast_ofNat_Int, Int.toNat_natCast, ne_eq, Bool.false_eq_true, true_or, or_true, or_self, Nat.not_lt_zero, ite_e0, ite_e1, lc_lt, lc_ge, lc_gt, lc_le, lc_eq, Classical.not_not]
      with_reducible repeat' (first | (refine And.intro ?_ ?_) | intro _)
      all_goals try omega
      refine kc_tok af.1 ht (by omega) ter.2.1 af.2 (fun σ3 K3 s3 => ?_)
      have r := putit (0, tv) σ1 σ2 σ3 e g h7 a1 a2 a3 a4 K3 s3
      simp -implicitDefEqProofs only [↓b27_0, ↓b27_9, ↓b27_13, ↓b27_22, ↓b27_26, ↓b27_34, ↓b27_40, ↓b27_41, ↓b27_55, ↓b27_64, ↓b27_75, ↓b27_79, ↓b27_82, ↓b27_86, ↓b27_93, ↓b27_100, ↓b27_104, ↓b27_108, ↓b27_120, ↓b27_127, ↓b27_131, ↓b27_132, ↓b27_139, ↓b27_146, ↓b27_153, ↓b27_157, ↓b27_158, ↓b27_163, ↓b27_168, ↓b27_172, ↓b27_176, ↓b27_180, ↓b27_185, ↓b27_189, ↓b27_190, ↓b27_195, ↓b27_199, ↓b27_205, b27_0, b27_9, b27_13, b27_22, b27_26, b27_34, b27_40, b27_41, b27_55, b27_64, b27_75, b27_79, b27_82, b27_86, b27_93, b27_100, b27_104, b27_108, b27_120, b27_127, b27_131, b27_132, b27_139, b27_146, b27_153, b27_157, b27_158, b27_163, b27_168, b27_172, b27_176, b27_180, b27_185, b27_189, b27_190, b27_195, b27_199, b27_205, nLE0, layE2, layE3, hk, n3_28, n3_21, n3_38, n3_29, I32, ↓xb, xb, ps, lpad, lat, aok2, rd2, aaok, aav, alok, alen, aok, akk, csum, isLg, cmpI, clsE, Option.elim, eq_self, List.mem_cons, List.not_mem_nil, or_false, false_or, List.append_nil, List.nil_append, List.cons_append, List.append_eq, List.replicate, List.length_cons, List.length_nil, List.map_cons, List.map_nil, ↓reduceIte, reduceCtorEq, if_true, if_false, true_and, and_true, false_and, and_false, and_self, not_true_eq_false, not_false_eq_true, forall_const, true_implies, false_implies, implies_true, Nat.reduceAdd, Nat.reduceSub, Nat.reduceLT, Nat.reduceLeDiff, Nat.reduceEqDiff, Nat.reduceMul, Nat.reducePow, Nat.add_one_ne_zero, Nat.add_one_sub_one, Nat.add_zero, Nat.zero_add, Int.reduceLT, Int.reduceLE, Int.reduceNeg, Int.reduceAdd, Int.reduceSub, Int.reduceToNat, Int.reduceEq, Int.reduceMul, Int.reducePow, Int.cast_ofNat_Int, Int.toNat_natCast, ne_eq, Bool.false_eq_true, true_or, or_true, or_self, Nat.not_lt_zero, ite_e0, ite_e1, lc_lt, lc_ge, lc_gt, lc_le, lc_eq, Classical.not_not]
      with_reducible repeat' (first | (refine And.intro ?_ ?_) | intro _)
      all_goals try omega
      all_goals first | omega | exact r
    · have ev : v = (1, kd) := v2 c1
      subst ev
      have ev : cP (1, kd) = kd := rfl
      refine TT_vb ok27 (sm3_ok G w) 60 [86] ?_
      simp -implicitDefEqProofs only [↓b27_0, ↓b27_9, ↓b27_13, ↓b27_22, ↓b27_26, ↓b27_34, ↓b27_40, ↓b27_41, ↓b27_55, ↓b27_64, ↓b27_75, ↓b27_79, ↓b27_82, ↓b27_86, ↓b27_93, ↓b27_100, ↓b27_104, ↓b27_108, ↓b27_120, ↓b27_127, ↓b27_131, ↓b27_132, ↓b27_139, ↓b27_146, ↓b27_153, ↓b27_157, ↓b27_158, ↓b27_163, ↓b27_168, ↓b27_172, ↓b27_176, ↓b27_180, ↓b27_185, ↓b27_189, ↓b27_190, ↓b27_195, ↓b27_199, ↓b27_205, b27_0, b27_9, b27_13, b27_22, b27_26, b27_34, b27_40, b27_41, b27_55, b27_64, b27_75, b27_79, b27_82, b27_86, b27_93, b27_100, b27_104, b27_108, b27_120, b27_127, b27_131, b27_132, b27_139, b27_146, b27_153, b27_157, b27_158, b27_163, b27_168, b27_172, b27_176, b27_180, b27_185, b27_189, b27_190, b27_195, b27_199, b27_205, nLE0, layE2, layE3, u4, c1, n3_28, n3_21, n3_38, n3_29, I32, ↓xb, xb, ps, lpad, lat, aok2, rd2, aaok, aav, alok, alen, aok, akk, csum, isLg, cmpI, clsE, Option.elim, eq_self, List.mem_cons, List.not_mem_nil, or_false, false_or, List.append_nil, List.nil_append, List.cons_append, List.append_eq, List.replicate, List.length_cons, List.length_nil, List.map_cons, List.map_nil, ↓reduceIte, reduceCtorEq, if_true, if_false, true_and, and_true, false_and, and_false, and_self, not_true_eq_false, not_false_eq_true, forall_const, true_implies, false_implies, implies_true, Nat.reduceAdd, Nat.reduceSub, Nat.reduceLT, Nat.reduceLeDiff, Nat.reduceEqDiff, Nat.reduceMul, Nat.reducePow, Nat.add_one_ne_zero, Nat.add_one_sub_one, Nat.add_zero, Nat.zero_add, Int.reduceLT, Int.reduceLE, Int.reduceNeg, Int.reduceAdd, Int.reduceSub, Int.reduceToNat, Int.reduceEq, Int.reduceMul, Int.reducePow, Int.cast_ofNat_Int, Int.toNat_natCast, ne_eq, Bool.false_eq_true, true_or, or_true, or_self, Nat.not_lt_zero, ite_e0, ite_e1, lc_lt, lc_ge, lc_gt, lc_le, lc_eq, Classical.not_not]
      with_reducible repeat' (first | (refine And.intro ?_ ?_) | intro _)
      all_goals try omega
      all_goals first | omega | skip
      rw [← ev]
      refine kc_pce ho (by omega) hl' r3' (fun σ2 a1 a2 a3 a4 => ?_)
      have af := aft (1, kd) σ1 σ2 g a4
      simp -implicitDefEqProofs only [↓b27_0, ↓b27_9, ↓b27_13, ↓b27_22, ↓b27_26, ↓b27_34, ↓b27_40, ↓b27_41, ↓b27_55, ↓b27_64, ↓b27_75, ↓b27_79, ↓b27_82, ↓b27_86, ↓b27_93, ↓b27_100, ↓b27_104, ↓b27_108, ↓b27_120, ↓b27_127, ↓b27_131, ↓b27_132, ↓b27_139, ↓b27_146, ↓b27_153, ↓b27_157, ↓b27_158, ↓b27_163, ↓b27_168, ↓b27_172, ↓b27_176, ↓b27_180, ↓b27_185, ↓b27_189, ↓b27_190, ↓b27_195, ↓b27_199, ↓b27_205, b27_0, b27_9, b27_13, b27_22, b27_26, b27_34, b27_40, b27_41, b27_55, b27_64, b27_75, b27_79, b27_82, b27_86, b27_93, b27_100, b27_104, b27_108, b27_120, b27_127, b27_131, b27_132, b27_139, b27_146, b27_153, b27_157, b27_158, b27_163, b27_168, b27_172, b27_176, b27_180, b27_185, b27_189, b27_190, b27_195, b27_199, b27_205, nLE0, layE2, layE3, hk, n3_28, n3_21, n3_38, n3_29, I32, ↓xb, xb, ps, lpad, lat, aok2, rd2, aaok, aav, alok, alen, aok, akk, csum, isLg, cmpI, clsE, Option.elim, eq_self, List.mem_cons, List.not_mem_nil, or_false, false_or, List.append_nil, List.nil_append, List.cons_append, List.append_eq, List.replicate, List.length_cons, List.length_nil, List.map_cons, List.map_nil, ↓reduceIte, reduceCtorEq, if_true, if_false, true_and, and_true, false_and, and_false, and_self, not_true_eq_false, not_false_eq_true, forall_const, true_implies, false_implies, implies_true, Nat.reduceAdd, Nat.reduceSub, Nat.reduceLT, Nat.reduceLeDiff, Nat.reduceEqDiff, Nat.reduceMul, Nat.reducePow, Nat.add_one_ne_zero, Nat.add_one_sub_one, Nat.add_zero, Nat.zero_add, Int.reduceLT, Int.reduceLE, Int.reduceNeg, Int.reduceAdd, Int.reduceSub, Int.reduceToNat, Int.reduceEq, Int.reduceMul, Int.reducePow, Int.cast_ofNat_Int, Int.toNat_natCast, ne_eq, Bool.false_eq_true, true_or, or_true, or_self, Nat.not_lt_zero, ite_e0, ite_e1, lc_lt, lc_ge, lc_gt, lc_le, lc_eq, Classical.not_not]
      with_reducible repeat' (first | (refine And.intro ?_ ?_) | intro _)
      all_goals try omega
      refine kc_tok af.1 ht (by omega) ter.2.1 af.2 (fun σ3 K3 s3 => ?_)
      have r := putit (1, kd) σ1 σ2 σ3 e g h7 a1 a2 a3 a4 K3 s3
      simp -implicitDefEqProofs only [↓b27_0, ↓b27_9, ↓b27_13, ↓b27_22, ↓b27_26, ↓b27_34, ↓b27_40, ↓b27_41, ↓b27_55, ↓b27_64, ↓b27_75, ↓b27_79, ↓b27_82, ↓b27_86, ↓b27_93, ↓b27_100, ↓b27_104, ↓b27_108, ↓b27_120, ↓b27_127, ↓b27_131, ↓b27_132, ↓b27_139, ↓b27_146, ↓b27_153, ↓b27_157, ↓b27_158, ↓b27_163, ↓b27_168, ↓b27_172, ↓b27_176, ↓b27_180, ↓b27_185, ↓b27_189, ↓b27_190, ↓b27_195, ↓b27_199, ↓b27_205, b27_0, b27_9, b27_13, b27_22, b27_26, b27_34, b27_40, b27_41, b27_55, b27_64, b27_75, b27_79, b27_82, b27_86, b27_93, b27_100, b27_104, b27_108, b27_120, b27_127, b27_131, b27_132, b27_139, b27_146, b27_153, b27_157, b27_158, b27_163, b27_168, b27_172, b27_176, b27_180, b27_185, b27_189, b27_190, b27_195, b27_199, b27_205, nLE0, layE2, layE3, hk, n3_28, n3_21, n3_38, n3_29, I32, ↓xb, xb, ps, lpad, lat, aok2, rd2, aaok, aav, alok, alen, aok, akk, csum, isLg, cmpI, clsE, Option.elim, eq_self, List.mem_cons, List.not_mem_nil, or_false, false_or, List.append_nil, List.nil_append, List.cons_append, List.append_eq, List.replicate, List.length_cons, List.length_nil, List.map_cons, List.map_nil, ↓reduceIte, reduceCtorEq, if_true, if_false, true_and, and_true, false_and, and_false, and_self, not_true_eq_false, not_false_eq_true, forall_const, true_implies, false_implies, implies_true, Nat.reduceAdd, Nat.reduceSub, Nat.reduceLT, Nat.reduceLeDiff, Nat.reduceEqDiff, Nat.reduceMul, Nat.reducePow, Nat.add_one_ne_zero, Nat.add_one_sub_one, Nat.add_zero, Nat.zero_add, Int.reduceLT, Int.reduceLE, Int.reduceNeg, Int.reduceAdd, Int.reduceSub, Int.reduceToNat, Int.reduceEq, Int.reduceMul, Int.reducePow, Int.cast_ofNat_Int, Int.toNat_natCast, ne_eq, Bool.false_eq_true, true_or, or_true, or_self, Nat.not_lt_zero, ite_e0, ite_e1, lc_lt, lc_ge, lc_gt, lc_le, lc_eq, Classical.not_not]
      with_reducible repeat' (first | (refine And.intro ?_ ?_) | intro _)
      all_goals try omega
      all_goals first | omega | exact r
  refine TT_vb ok27 (sm3_ok G w) 60 [34, 41, 86] ?_
  simp -implicitDefEqProofs only [↓b27_0, ↓b27_9, ↓b27_13, ↓b27_22, ↓b27_26, ↓b27_34, ↓b27_40, ↓b27_41, ↓b27_55, ↓b27_64, ↓b27_75, ↓b27_79, ↓b27_82, ↓b27_86, ↓b27_93, ↓b27_100, ↓b27_104, ↓b27_108, ↓b27_120, ↓b27_127, ↓b27_131, ↓b27_132, ↓b27_139, ↓b27_146, ↓b27_153, ↓b27_157, ↓b27_158, ↓b27_163, ↓b27_168, ↓b27_172, ↓b27_176, ↓b27_180, ↓b27_185, ↓b27_189, ↓b27_190, ↓b27_195, ↓b27_199, ↓b27_205, b27_0, b27_9, b27_13, b27_22, b27_26, b27_34, b27_40, b27_41, b27_55, b27_64, b27_75, b27_79, b27_82, b27_86, b27_93, b27_100, b27_104, b27_108, b27_120, b27_127, b27_131, b27_132, b27_139, b27_146, b27_153, b27_157, b27_158, b27_163, b27_168, b27_172, b27_176, b27_180, b27_185, b27_189, b27_190, b27_195, b27_199, b27_205, nLE0, layE2, layE3, hk, n3_28, n3_21, n3_38, n3_29, I32, ↓xb, xb, ps, lpad, lat, aok2, rd2, aaok, aav, alok, alen, aok, akk, csum, isLg, cmpI, clsE, Option.elim, eq_self, List.mem_cons, List.not_mem_nil, or_false, false_or, List.append_nil, List.nil_append, List.cons_append, List.append_eq, List.replicate, List.length_cons, List.length_nil, List.map_cons, List.map_nil, ↓reduceIte, reduceCtorEq, if_true, if_false, true_and, and_true, false_and, and_false, and_self, not_true_eq_false, not_false_eq_true, forall_const, true_implies, false_implies, implies_true, Nat.reduceAdd, Nat.reduceSub, Nat.reduceLT, Nat.reduceLeDiff, Nat.reduceEqDiff, Nat.reduceMul, Nat.reducePow, Nat.add_one_ne_zero, Nat.add_one_sub_one, Nat.add_zero, Nat.zero_add, Int.reduceLT, Int.reduceLE, Int.reduceNeg, Int.reduceAdd, Int.reduceSub, Int.reduceToNat, Int.reduceEq, Int.reduceMul, Int.reducePow, Int.cast_ofNat_Int, Int.toNat_natCast, ne_eq, Bool.false_eq_true, true_or, or_true, or_self, Nat.not_lt_zero, ite_e0, ite_e1, lc_lt, lc_ge, lc_gt, lc_le, lc_eq, Classical.not_not]
  with_reducible repeat' (first | (refine And.intro ?_ ?_) | intro _)
  all_goals try omega
  refine kc_vfault (c := c) k4 c7 (by omega) k6 ?_
  by_cases c1 : kd = 31
  · rw [if_pos c1] at esp ⊢
    by_cases c2 : tv = -1
    · rw [if_pos c2] at esp ⊢
      have r := flt 1 (by omega) (by omega) esp
      simp -implicitDefEqProofs only [↓b27_0, ↓b27_9, ↓b27_13, ↓b27_22, ↓b27_26, ↓b27_34, ↓b27_40, ↓b27_41, ↓b27_55, ↓b27_64, ↓b27_75, ↓b27_79, ↓b27_82, ↓b27_86, ↓b27_93, ↓b27_100, ↓b27_104, ↓b27_108, ↓b27_120, ↓b27_127, ↓b27_131, ↓b27_132, ↓b27_139, ↓b27_146, ↓b27_153, ↓b27_157, ↓b27_158, ↓b27_163, ↓b27_168, ↓b27_172, ↓b27_176, ↓b27_180, ↓b27_185, ↓b27_189, ↓b27_190, ↓b27_195, ↓b27_199, ↓b27_205, b27_0, b27_9, b27_13, b27_22, b27_26, b27_34, b27_40, b27_41, b27_55, b27_64, b27_75, b27_79, b27_82, b27_86, b27_93, b27_100, b27_104, b27_108, b27_120, b27_127, b27_131, b27_132, b27_139, b27_146, b27_153, b27_157, b27_158, b27_163, b27_168, b27_172, b27_176, b27_180, b27_185, b27_189, b27_190, b27_195, b27_199, b27_205, nLE0, layE2, layE3, hk, n3_28, n3_21, n3_38, n3_29, I32, ↓xb, xb, ps, lpad, lat, aok2, rd2, aaok, aav, alok, alen, aok, akk, csum, isLg, cmpI, clsE, Option.elim, eq_self, List.mem_cons, List.not_mem_nil, or_false, false_or, List.append_nil, List.nil_append, List.cons_append, List.append_eq, List.replicate, List.length_cons, List.length_nil, List.map_cons, List.map_nil, ↓reduceIte, reduceCtorEq, if_true, if_false, true_and, and_true, false_and, and_false, and_self, not_true_eq_false, not_false_eq_true, forall_const, true_implies, false_implies, implies_true, Nat.reduceAdd, Nat.reduceSub, Nat.reduceLT, Nat.reduceLeDiff, Nat.reduceEqDiff, Nat.reduceMul, Nat.reducePow, Nat.add_one_ne_zero, Nat.add_one_sub_one, Nat.add_zero, Nat.zero_add, Int.reduceLT, Int.reduceLE, Int.reduceNeg, Int.reduceAdd, Int.reduceSub, Int.reduceToNat, Int.reduceEq, Int.reduceMul, Int.reducePow, Int.cast_ofNat_Int, Int.toNat_natCast, ne_eq, Bool.false_eq_true, true_or, or_true, or_self, Nat.not_lt_zero, ite_e0, ite_e1, lc_lt, lc_ge, lc_gt, lc_le, lc_eq, Classical.not_not]
      with_reducible repeat' (first | (refine And.intro ?_ ?_) | intro _)
      all_goals try omega
      all_goals first | omega | exact r
    · rw [if_neg c2] at esp ⊢
      by_cases c3 : 60 ≤ c
      · rw [if_pos c3] at esp ⊢
        have r := flt 3 (by omega) (by omega) esp
        simp -implicitDefEqProofs only [↓b27_0, ↓b27_9, ↓b27_13, ↓b27_22, ↓b27_26, ↓b27_34, ↓b27_40, ↓b27_41, ↓b27_55, ↓b27_64, ↓b27_75, ↓b27_79, ↓b27_82, ↓b27_86, ↓b27_93, ↓b27_100, ↓b27_104, ↓b27_108, ↓b27_120, ↓b27_127, ↓b27_131, ↓b27_132, ↓b27_139, ↓b27_146, ↓b27_153, ↓b27_157, ↓b27_158, ↓b27_163, ↓b27_168, ↓b27_172, ↓b27_176, ↓b27_180, ↓b27_185, ↓b27_189, ↓b27_190, ↓b27_195, ↓b27_199, ↓b27_205, b27_0, b27_9, b27_13, b27_22, b27_26, b27_34, b27_40, b27_41, b27_55, b27_64, b27_75, b27_79, b27_82, b27_86, b27_93, b27_100, b27_104, b27_108, b27_120, b27_127, b27_131, b27_132, b27_139, b27_146, b27_153, b27_157, b27_158, b27_163, b27_168, b27_172, b27_176, b27_180, b27_185, b27_189, b27_190, b27_195, b27_199, b27_205, nLE0, layE2, layE3, hk, n3_28, n3_21, n3_38, n3_29, I32, ↓xb, xb, ps, lpad, lat, aok2, rd2, aaok, aav, alok, alen, aok, akk, csum, isLg, cmpI, clsE, Option.elim, eq_self, List.mem_cons, List.not_mem_nil, or_false, false_or, List.append_nil, List.nil_append, List.cons_append, List.append_eq, List.replicate, List.length_cons, List.length_nil, List.map_cons, List.map_nil, ↓reduceIte, reduceCtorEq, if_true, if_false, true_and, and_true, false_and, and_false, and_self, not_true_eq_false, not_false_eq_true, forall_const, true_implies, false_implies, implies_true, Nat.reduceAdd, Nat.reduceSub, Nat.reduceLT, Nat.reduceLeDiff, Nat.reduceEqDiff, Nat.reduceMul, Nat.reducePow, Nat.add_one_ne_zero, Nat.add_one_sub_one, Nat.add_zero, Nat.zero_add, Int.reduceLT, Int.reduceLE, Int.reduceNeg, Int.reduceAdd, Int.reduceSub, Int.reduceToNat, Int.reduceEq, Int.reduceMul, Int.reducePow, Int.cast_ofNat_Int, Int.toNat_natCast, ne_eq, Bool.false_eq_true, true_or, or_true, or_self, Nat.not_lt_zero, ite_e0, ite_e1, lc_lt, lc_ge, lc_gt, lc_le, lc_eq, Classical.not_not]
        with_reducible repeat' (first | (refine And.intro ?_ ?_) | intro _)
        all_goals try omega
        all_goals first | omega | exact r
      · rw [if_neg c3] at esp ⊢
        have r := pce (0, tv) esp (fun _ => ⟨rfl, by omega⟩) (fun z => (z c1).elim) (by omega)
        simp -implicitDefEqProofs only [↓b27_0, ↓b27_9, ↓b27_13, ↓b27_22, ↓b27_26, ↓b27_34, ↓b27_40, ↓b27_41, ↓b27_55, ↓b27_64, ↓b27_75, ↓b27_79, ↓b27_82, ↓b27_86, ↓b27_93, ↓b27_100, ↓b27_104, ↓b27_108, ↓b27_120, ↓b27_127, ↓b27_131, ↓b27_132, ↓b27_139, ↓b27_146, ↓b27_153, ↓b27_157, ↓b27_158, ↓b27_163, ↓b27_168, ↓b27_172, ↓b27_176, ↓b27_180, ↓b27_185, ↓b27_189, ↓b27_190, ↓b27_195, ↓b27_199, ↓b27_205, b27_0, b27_9, b27_13, b27_22, b27_26, b27_34, b27_40, b27_41, b27_55, b27_64, b27_75, b27_79, b27_82, b27_86, b27_93, b27_100, b27_104, b27_108, b27_120, b27_127, b27_131, b27_132, b27_139, b27_146, b27_153, b27_157, b27_158, b27_163, b27_168, b27_172, b27_176, b27_180, b27_185, b27_189, b27_190, b27_195, b27_199, b27_205, nLE0, layE2, layE3, hk, n3_28, n3_21, n3_38, n3_29, I32, ↓xb, xb, ps, lpad, lat, aok2, rd2, aaok, aav, alok, alen, aok, akk, csum, isLg, cmpI, clsE, Option.elim, eq_self, List.mem_cons, List.not_mem_nil, or_false, false_or, List.append_nil, List.nil_append, List.cons_append, List.append_eq, List.replicate, List.length_cons, List.length_nil, List.map_cons, List.map_nil, ↓reduceIte, reduceCtorEq, if_true, if_false, true_and, and_true, false_and, and_false, and_self, not_true_eq_false, not_false_eq_true, forall_const, true_implies, false_implies, implies_true, Nat.reduceAdd, Nat.reduceSub, Nat.reduceLT, Nat.reduceLeDiff, Nat.reduceEqDiff, Nat.reduceMul, Nat.reducePow, Nat.add_one_ne_zero, Nat.add_one_sub_one, Nat.add_zero, Nat.zero_add, Int.reduceLT, Int.reduceLE, Int.reduceNeg, Int.reduceAdd, Int.reduceSub, Int.reduceToNat, Int.reduceEq, Int.reduceMul, Int.reducePow, Int.cast_ofNat_Int, Int.toNat_natCast, ne_eq, Bool.false_eq_true, true_or, or_true, or_self, Nat.not_lt_zero, ite_e0, ite_e1, lc_lt, lc_ge, lc_gt, lc_le, lc_eq, Classical.not_not]
        with_reducible repeat' (first | (refine And.intro ?_ ?_) | intro _)
        all_goals try omega
        all_goals first | omega | exact r
  · rw [if_neg c1] at esp ⊢
    by_cases c2 : kd < 15
    · rw [if_pos c2] at esp ⊢
      by_cases c3 : 60 ≤ c
      · rw [if_pos c3] at esp ⊢
        have r := flt 3 (by omega) (by omega) esp
        simp -implicitDefEqProofs only [↓b27_0, ↓b27_9, ↓b27_13, ↓b27_22, ↓b27_26, ↓b27_34, ↓b27_40, ↓b27_41, ↓b27_55, ↓b27_64, ↓b27_75, ↓b27_79, ↓b27_82, ↓b27_86, ↓b27_93, ↓b27_100, ↓b27_104, ↓b27_108, ↓b27_120, ↓b27_127, ↓b27_131, ↓b27_132, ↓b27_139, ↓b27_146, ↓b27_153, ↓b27_157, ↓b27_158, ↓b27_163, ↓b27_168, ↓b27_172, ↓b27_176, ↓b27_180, ↓b27_185, ↓b27_189, ↓b27_190, ↓b27_195, ↓b27_199, ↓b27_205, b27_0, b27_9, b27_13, b27_22, b27_26, b27_34, b27_40, b27_41, b27_55, b27_64, b27_75, b27_79, b27_82, b27_86, b27_93, b27_100, b27_104, b27_108, b27_120, b27_127, b27_131, b27_132, b27_139, b27_146, b27_153, b27_157, b27_158, b27_163, b27_168, b27_172, b27_176, b27_180, b27_185, b27_189, b27_190, b27_195, b27_199, b27_205, nLE0, layE2, layE3, hk, n3_28, n3_21, n3_38, n3_29, I32, ↓xb, xb, ps, lpad, lat, aok2, rd2, aaok, aav, alok, alen, aok, akk, csum, isLg, cmpI, clsE, Option.elim, eq_self, List.mem_cons, List.not_mem_nil, or_false, false_or, List.append_nil, List.nil_append, List.cons_append, List.append_eq, List.replicate, List.length_cons, List.length_nil, List.map_cons, List.map_nil, ↓reduceIte, reduceCtorEq, if_true, if_false, true_and, and_true, false_and, and_false, and_self, not_true_eq_false, not_false_eq_true, forall_const, true_implies, false_implies, implies_true, Nat.reduceAdd, Nat.reduceSub, Nat.reduceLT, Nat.reduceLeDiff, Nat.reduceEqDiff, Nat.reduceMul, Nat.reducePow, Nat.add_one_ne_zero, Nat.add_one_sub_one, Nat.add_zero, Nat.zero_add, Int.reduceLT, Int.reduceLE, Int.reduceNeg, Int.reduceAdd, Int.reduceSub, Int.reduceToNat, Int.reduceEq, Int.reduceMul, Int.reducePow, Int.cast_ofNat_Int, Int.toNat_natCast, ne_eq, Bool.false_eq_true, true_or, or_true, or_self, Nat.not_lt_zero, ite_e0, ite_e1, lc_lt, lc_ge, lc_gt, lc_le, lc_eq, Classical.not_not]
        with_reducible repeat' (first | (refine And.intro ?_ ?_) | intro _)
        all_goals try omega
        all_goals first | omega | exact r
      · rw [if_neg c3] at esp ⊢
        have r := pce (1, kd) esp (fun z => (c1 z).elim) (fun _ => rfl) (by omega)
        simp -implicitDefEqProofs only [↓b27_0, ↓b27_9, ↓b27_13, ↓b27_22, ↓b27_26, ↓b27_34, ↓b27_40, ↓b27_41, ↓b27_55, ↓b27_64, ↓b27_75, ↓b27_79, ↓b27_82, ↓b27_86, ↓b27_93, ↓b27_100, ↓b27_104, ↓b27_108, ↓b27_120, ↓b27_127, ↓b27_131, ↓b27_132, ↓b27_139, ↓b27_146, ↓b27_153, ↓b27_157, ↓b27_158, ↓b27_163, ↓b27_168, ↓b27_172, ↓b27_176, ↓b27_180, ↓b27_185, ↓b27_189, ↓b27_190, ↓b27_195, ↓b27_199, ↓b27_205, b27_0, b27_9, b27_13, b27_22, b27_26, b27_34, b27_40, b27_41, b27_55, b27_64, b27_75, b27_79, b27_82, b27_86, b27_93, b27_100, b27_104, b27_108, b27_120, b27_127, b27_131, b27_132, b27_139, b27_146, b27_153, b27_157, b27_158, b27_163, b27_168, b27_172, b27_176, b27_180, b27_185, b27_189, b27_190, b27_195, b27_199, b27_205, nLE0, layE2, layE3, hk, n3_28, n3_21, n3_38, n3_29, I32, ↓xb, xb, ps, lpad, lat, aok2, rd2, aaok, aav, alok, alen, aok, akk, csum, isLg, cmpI, clsE, Option.elim, eq_self, List.mem_cons, List.not_mem_nil, or_false, false_or, List.append_nil, List.nil_append, List.cons_append, List.append_eq, List.replicate, List.length_cons, List.length_nil, List.map_cons, List.map_nil, ↓reduceIte, reduceCtorEq, if_true, if_false, true_and, and_true, false_and, and_false, and_self, not_true_eq_false, not_false_eq_true, forall_const, true_implies, false_implies, implies_true, Nat.reduceAdd, Nat.reduceSub, Nat.reduceLT, Nat.reduceLeDiff, Nat.reduceEqDiff, Nat.reduceMul, Nat.reducePow, Nat.add_one_ne_zero, Nat.add_one_sub_one, Nat.add_zero, Nat.zero_add, Int.reduceLT, Int.reduceLE, Int.reduceNeg, Int.reduceAdd, Int.reduceSub, Int.reduceToNat, Int.reduceEq, Int.reduceMul, Int.reducePow, Int.cast_ofNat_Int, Int.toNat_natCast, ne_eq, Bool.false_eq_true, true_or, or_true, or_self, Nat.not_lt_zero, ite_e0, ite_e1, lc_lt, lc_ge, lc_gt, lc_le, lc_eq, Classical.not_not]
        with_reducible repeat' (first | (refine And.intro ?_ ?_) | intro _)
        all_goals try omega
        all_goals first | omega | exact r
    · rw [if_neg c2] at esp ⊢
      have r := flt 0 (by omega) (by omega) (by rw [esp]; simp)
      simp -implicitDefEqProofs only [↓b27_0, ↓b27_9, ↓b27_13, ↓b27_22, ↓b27_26, ↓b27_34, ↓b27_40, ↓b27_41, ↓b27_55, ↓b27_64, ↓b27_75, ↓b27_79, ↓b27_82, ↓b27_86, ↓b27_93, ↓b27_100, ↓b27_104, ↓b27_108, ↓b27_120, ↓b27_127, ↓b27_131, ↓b27_132, ↓b27_139, ↓b27_146, ↓b27_153, ↓b27_157, ↓b27_158, ↓b27_163, ↓b27_168, ↓b27_172, ↓b27_176, ↓b27_180, ↓b27_185, ↓b27_189, ↓b27_190, ↓b27_195, ↓b27_199, ↓b27_205, b27_0, b27_9, b27_13, b27_22, b27_26, b27_34, b27_40, b27_41, b27_55, b27_64, b27_75, b27_79, b27_82, b27_86, b27_93, b27_100, b27_104, b27_108, b27_120, b27_127, b27_131, b27_132, b27_139, b27_146, b27_153, b27_157, b27_158, b27_163, b27_168, b27_172, b27_176, b27_180, b27_185, b27_189, b27_190, b27_195, b27_199, b27_205, nLE0, layE2, layE3, hk, n3_28, n3_21, n3_38, n3_29, I32, ↓xb, xb, ps, lpad, lat, aok2, rd2, aaok, aav, alok, alen, aok, akk, csum, isLg, cmpI, clsE, Option.elim, eq_self, List.mem_cons, List.not_mem_nil, or_false, false_or, List.append_nil, List.nil_append, List.cons_append, List.append_eq, List.replicate, List.length_cons, List.length_nil, List.map_cons, List.map_nil, ↓reduceIte, reduceCtorEq, if_true, if_false, true_and, and_true, false_and, and_false, and_self, not_true_eq_false, not_false_eq_true, forall_const, true_implies, false_implies, implies_true, Nat.reduceAdd, Nat.reduceSub, Nat.reduceLT, Nat.reduceLeDiff, Nat.reduceEqDiff, Nat.reduceMul, Nat.reducePow, Nat.add_one_ne_zero, Nat.add_one_sub_one, Nat.add_zero, Nat.zero_add, Int.reduceLT, Int.reduceLE, Int.reduceNeg, Int.reduceAdd, Int.reduceSub, Int.reduceToNat, Int.reduceEq, Int.reduceMul, Int.reducePow, Int.cast_ofNat_Int, Int.toNat_natCast, ne_eq, Bool.false_eq_true, true_or, or_true, or_self, Nat.not_lt_zero, ite_e0, ite_e1, lc_lt, lc_ge, lc_gt, lc_le, lc_eq, Classical.not_not]
      with_reducible repeat' (first | (refine And.intro ?_ ?_) | intro _)
      all_goals try omega
      all_goals first | omega | exact r
end SMC

/-! 9zf.rule91: rule(): the class's method whole, its new rule with it -/
theorem TT_vb0 {G : Gl} {w0 w w2 : Wd} {k ks : Nat} {rc : Nat × Nat} {mi pc : Nat} {ls : List (Option AV)} {st : List AV} {σ : Mem} {Q : Option AV → Mem → Prop} {sm : Sm} (hww0 : ∀ o, born w0 o → born w o) (hM : okM mi = true) (hsm : SmOK G w ks sm) (n : Nat) (cuts : List Nat) (h : vb1 G w w2 k ks sm (CCm G w k) cuts Q (Tk G w0 w w2 k rc mi Q) mi n pc ls st σ) : TT G w0 w w2 k rc mi pc ls st σ Q :=
  vcn_sound hM hsm hww0 (fun pc' ls' st' σ' h' => vb_sound hM hsm hww0 n pc' ls' st' σ' h') _ pc ls st σ h
/-- what rule() makes of the answer of the reader -/
def A91 (o n : Nat) (t : Nat → Int) (N : Nat) (σ : Mem) (Q : Option AV → Mem → Prop) : Prop :=
  (∀ f, pzR t N 13 0 0 [] = .inl f → ∀ σ', same (SRr o) σ σ' → dec (σ' 7 1 0 0) = vr 0 6 0 → dec (σ' 7 9 0 0) = vr o 0 0 → Q (some (vi (-2 - f))) (up σ' 0 7 0 0 0)) ∧
  (∀ Cs, pzR t N 13 0 0 [] = .inr Cs → ∀ σ', RcF σ' o Cs → same (SRr o) σ σ' → dec (σ' 7 1 0 0) = vr 0 6 0 → dec (σ' 7 9 0 0) = vr o 0 0 → Q (some (vi n)) (up (up σ' 0 7 0 0 0) 0 5 0 0 (n + 1)))
section R91
variable {G : Gl} {w0 w : Wd} {k : Nat} {σ : Mem} {Q : Option AV → Mem → Prop} {t : Nat → Int} {N n : Nat}
theorem SRr_0 {o : Nat} (ho : 12 ≤ o) (f : Nat) : SRr o 0 f = false := by
  show ((0 == 7) || (0 == o && (f == 1 || f == 2 || f == 3 || f == 4 || f == 5 || f == 6 || f == 7 || f == 8))) = false
  rw [show (0 == o) = false by simp; omega]
  rfl
set_option maxRecDepth 100000 in
set_option maxHeartbeats 1000000 in
set_option maxRecDepth 100000 in
set_option maxHeartbeats 1000000 in
theorem kc_91b (hww0 : ∀ o, born w0 o → born w o) (ht : TR t) (hn : n < 8) (hw : w (13 + n) = true) (hk : 126 ≤ k) (hN : N ≤ 400) (hf : ∀ f, pzR t N 13 0 0 [] = .inl f → 1 ≤ f ∧ f ≤ 4000) (hb : ∀ i, i < N → σ 0 6 0 i = t i) (h5 : σ 0 5 0 0 = n) (h7 : σ 0 7 0 0 = N) (q : A91 (13 + n) n t N σ Q) {l2 : Option AV} :
    TT G w0 w w k (0, 0) 91 43 [some (vr 0 0 0), some (vr (13 + n) 0 0), l2] [] σ Q := by
  obtain ⟨qf, qk⟩ := q
  have wf9 := wfo (o := 13 + n) (w := w) (by omega) (Or.inr hw)
  have h22 : 13 + n < 22 := by omega
  have hcl := ro_cls (o := 13 + n) (by omega)
  have wf6 : wfv w (vr 0 6 0) := wf06
  refine TT_vb0 hww0 ok91 (sm3_ok G w) 60 [] ?_
  simp -implicitDefEqProofs only [↓b91_0, ↓b91_9, ↓b91_11, ↓b91_20, ↓b91_43, ↓b91_59, ↓b91_69, ↓b91_74, b91_0, b91_9, b91_11, b91_20, b91_43, b91_59, b91_69, b91_74, nLE1, layE7, layE4, layE3, layE2, wf9, wf6, hcl, h22, h7, n3_33, n3_19, I32, ↓xb, xb, ps, lpad, lat, aok2, rd2, aaok, aav, alok, alen, aok, akk, csum, isLg, cmpI, clsE, Option.elim, eq_self, List.mem_cons, List.not_mem_nil, or_false, false_or, List.append_nil, List.nil_append, List.cons_append, List.append_eq, List.replicate, List.length_cons, List.length_nil, List.map_cons, List.map_nil, ↓reduceIte, reduceCtorEq, if_true, if_false, true_and, and_true, false_and, and_false, and_self, not_true_eq_false, not_false_eq_true, forall_const, true_implies, false_implies, implies_true, Nat.reduceAdd, Nat.reduceSub, Nat.reduceLT, Nat.reduceLeDiff, Nat.reduceEqDiff, Nat.reduceMul, Nat.reducePow, Nat.add_one_ne_zero, Nat.add_one_sub_one, Nat.add_zero, Nat.zero_add, Int.reduceLT, Int.reduceLE, Int.reduceNeg, Int.reduceAdd, Int.reduceSub, Int.reduceToNat, Int.reduceEq, Int.reduceMul, Int.reducePow, Int.cast_ofNat_Int, Int.toNat_natCast, ne_eq, Bool.false_eq_true, true_or, or_true, or_self, Nat.not_lt_zero, ite_e0, ite_e1, lc_lt, lc_ge, lc_gt, lc_le, lc_eq, Classical.not_not]
  with_reducible repeat' (first | (refine And.intro ?_ ?_) | intro _)
  all_goals try omega
  all_goals first | omega | assumption | skip
  refine kc_rule (t := t) (N := N) ht (by omega) (Or.inr hw) (by omega) hN hb (fun f ef σ' s1 d1 d9 => ?_) (fun Cs ec σ' R s1 d1 d9 => ?_)
  · have h5' : σ' 0 5 0 0 = n := (s1 0 5 (SRr_0 (by omega) 5) 0 0).trans h5
    have hf0 := hf f ef
    have h7' : ¬ f = 0 := by omega
    simp -implicitDefEqProofs only [↓b91_0, ↓b91_9, ↓b91_11, ↓b91_20, ↓b91_43, ↓b91_59, ↓b91_69, ↓b91_74, b91_0, b91_9, b91_11, b91_20, b91_43, b91_59, b91_69, b91_74, nLE1, layE7, layE4, layE3, layE2, h5', h7', up_rd, n3_33, n3_19, I32, ↓xb, xb, ps, lpad, lat, aok2, rd2, aaok, aav, alok, alen, aok, akk, csum, isLg, cmpI, clsE, Option.elim, eq_self, List.mem_cons, List.not_mem_nil, or_false, false_or, List.append_nil, List.nil_append, List.cons_append, List.append_eq, List.replicate, List.length_cons, List.length_nil, List.map_cons, List.map_nil, ↓reduceIte, reduceCtorEq, if_true, if_false, true_and, and_true, false_and, and_false, and_self, not_true_eq_false, not_false_eq_true, forall_const, true_implies, false_implies, implies_true, Nat.reduceAdd, Nat.reduceSub, Nat.reduceLT, Nat.reduceLeDiff, Nat.reduceEqDiff, Nat.reduceMul, Nat.reducePow, Nat.add_one_ne_zero, Nat.add_one_sub_one, Nat.add_zero, Nat.zero_add, Int.reduceLT, Int.reduceLE, Int.reduceNeg, Int.reduceAdd, Int.reduceSub, Int.reduceToNat, Int.reduceEq, Int.reduceMul, Int.reducePow, Int.cast_ofNat_Int, Int.toNat_natCast, ne_eq, Bool.false_eq_true, true_or, or_true, or_self, Nat.not_lt_zero, ite_e0, ite_e1, lc_lt, lc_ge, lc_gt, lc_le, lc_eq, Classical.not_not]
    with_reducible repeat' (first | (refine And.intro ?_ ?_) | intro _)
    all_goals try omega
    all_goals first | omega | exact qf f ef σ' s1 d1 d9 | skip
  · have h5' : σ' 0 5 0 0 = n := (s1 0 5 (SRr_0 (by omega) 5) 0 0).trans h5
    simp -implicitDefEqProofs only [↓b91_0, ↓b91_9, ↓b91_11, ↓b91_20, ↓b91_43, ↓b91_59, ↓b91_69, ↓b91_74, b91_0, b91_9, b91_11, b91_20, b91_43, b91_59, b91_69, b91_74, nLE1, layE7, layE4, layE3, layE2, h5', up_rd, n3_33, n3_19, I32, ↓xb, xb, ps, lpad, lat, aok2, rd2, aaok, aav, alok, alen, aok, akk, csum, isLg, cmpI, clsE, Option.elim, eq_self, List.mem_cons, List.not_mem_nil, or_false, false_or, List.append_nil, List.nil_append, List.cons_append, List.append_eq, List.replicate, List.length_cons, List.length_nil, List.map_cons, List.map_nil, ↓reduceIte, reduceCtorEq, if_true, if_false, true_and, and_true, false_and, and_false, and_self, not_true_eq_false, not_false_eq_true, forall_const, true_implies, false_implies, implies_true, Nat.reduceAdd, Nat.reduceSub, Nat.reduceLT, Nat.reduceLeDiff, Nat.reduceEqDiff, Nat.reduceMul, Nat.reducePow, Nat.add_one_ne_zero, Nat.add_one_sub_one, Nat.add_zero, Nat.zero_add, Int.reduceLT, Int.reduceLE, Int.reduceNeg, Int.reduceAdd, Int.reduceSub, Int.reduceToNat, Int.reduceEq, Int.reduceMul, Int.reducePow, Int.cast_ofNat_Int, Int.toNat_natCast, ne_eq, Bool.false_eq_true, true_or, or_true, or_self, Nat.not_lt_zero, ite_e0, ite_e1, lc_lt, lc_ge, lc_gt, lc_le, lc_eq, Classical.not_not]
    with_reducible repeat' (first | (refine And.intro ?_ ?_) | intro _)
    all_goals try omega
    all_goals first | omega | (rw [show ((n : Nat) : Int) + 1 - 1 = n by omega]; exact qk Cs ec σ' R s1 d1 d9) | skip
/-! the first part, to the new rule or behind it -/
set_option maxRecDepth 100000 in
set_option maxHeartbeats 1000000 in
set_option maxRecDepth 100000 in
set_option maxHeartbeats 1000000 in
theorem kc_91f {k' : Nat} (h8 : σ 0 5 0 0 = 8) (q : Q (some (vi (-1))) σ) : CC G w w k' (0, 0) 91 [vr 0 0 0] σ Q := by
  refine CC_vb ok91 (by decide) (sm3_ok G w) 60 [] (Nat.le_of_ble_eq_true rfl) ?_
  simp -implicitDefEqProofs only [↓b91_0, ↓b91_9, ↓b91_11, ↓b91_20, ↓b91_43, ↓b91_59, ↓b91_69, ↓b91_74, b91_0, b91_9, b91_11, b91_20, b91_43, b91_59, b91_69, b91_74, nLE1, layE7, layE4, layE3, layE2, h8, n3_33, n3_19, I32, ↓xb, xb, ps, lpad, lat, aok2, rd2, aaok, aav, alok, alen, aok, akk, csum, isLg, cmpI, clsE, Option.elim, eq_self, List.mem_cons, List.not_mem_nil, or_false, false_or, List.append_nil, List.nil_append, List.cons_append, List.append_eq, List.replicate, List.length_cons, List.length_nil, List.map_cons, List.map_nil, ↓reduceIte, reduceCtorEq, if_true, if_false, true_and, and_true, false_and, and_false, and_self, not_true_eq_false, not_false_eq_true, forall_const, true_implies, false_implies, implies_true, Nat.reduceAdd, Nat.reduceSub, Nat.reduceLT, Nat.reduceLeDiff, Nat.reduceEqDiff, Nat.reduceMul, Nat.reducePow, Nat.add_one_ne_zero, Nat.add_one_sub_one, Nat.add_zero, Nat.zero_add, Int.reduceLT, Int.reduceLE, Int.reduceNeg, Int.reduceAdd, Int.reduceSub, Int.reduceToNat, Int.reduceEq, Int.reduceMul, Int.reducePow, Int.cast_ofNat_Int, Int.toNat_natCast, ne_eq, Bool.false_eq_true, true_or, or_true, or_self, Nat.not_lt_zero, ite_e0, ite_e1, lc_lt, lc_ge, lc_gt, lc_le, lc_eq, Classical.not_not]
  with_reducible repeat' (first | (refine And.intro ?_ ?_) | intro _)
  all_goals try omega
  all_goals first | omega | exact q | skip
set_option maxRecDepth 100000 in
set_option maxHeartbeats 1000000 in
set_option maxRecDepth 100000 in
set_option maxHeartbeats 1000000 in
theorem kc_91o (ht : TR t) (hn : n < 8) (hw : w (13 + n) = true) (hr : σ 0 4 0 n = enc (13 + n) 0 0) (hk : 126 ≤ k) (hN : N ≤ 400) (hf : ∀ f, pzR t N 13 0 0 [] = .inl f → 1 ≤ f ∧ f ≤ 4000) (hb : ∀ i, i < N → σ 0 6 0 i = t i) (h5 : σ 0 5 0 0 = n) (h7 : σ 0 7 0 0 = N) (q : A91 (13 + n) n t N σ Q) : CC G w w k (0, 0) 91 [vr 0 0 0] σ Q := by
  have de : dec (enc (13 + n) 0 0) = vr (13 + n) 0 0 := dec_enc (13 + n) 0 0 (by omega) (by omega)
  have wf9 := wfo (o := 13 + n) (w := w) (by omega) (Or.inr hw)
  refine CC_vb ok91 (by decide) (sm3_ok G w) 60 [43] (Nat.le_of_ble_eq_true rfl) ?_
  simp -implicitDefEqProofs only [↓b91_0, ↓b91_9, ↓b91_11, ↓b91_20, ↓b91_43, ↓b91_59, ↓b91_69, ↓b91_74, b91_0, b91_9, b91_11, b91_20, b91_43, b91_59, b91_69, b91_74, nLE1, layE7, layE4, layE3, layE2, h5, hr, de, wf9, Int.toNat_natCast, n3_33, n3_19, I32, ↓xb, xb, ps, lpad, lat, aok2, rd2, aaok, aav, alok, alen, aok, akk, csum, isLg, cmpI, clsE, Option.elim, eq_self, List.mem_cons, List.not_mem_nil, or_false, false_or, List.append_nil, List.nil_append, List.cons_append, List.append_eq, List.replicate, List.length_cons, List.length_nil, List.map_cons, List.map_nil, ↓reduceIte, reduceCtorEq, if_true, if_false, true_and, and_true, false_and, and_false, and_self, not_true_eq_false, not_false_eq_true, forall_const, true_implies, false_implies, implies_true, Nat.reduceAdd, Nat.reduceSub, Nat.reduceLT, Nat.reduceLeDiff, Nat.reduceEqDiff, Nat.reduceMul, Nat.reducePow, Nat.add_one_ne_zero, Nat.add_one_sub_one, Nat.add_zero, Nat.zero_add, Int.reduceLT, Int.reduceLE, Int.reduceNeg, Int.reduceAdd, Int.reduceSub, Int.reduceToNat, Int.reduceEq, Int.reduceMul, Int.reducePow, Int.cast_ofNat_Int, Int.toNat_natCast, ne_eq, Bool.false_eq_true, true_or, or_true, or_self, Nat.not_lt_zero, ite_e0, ite_e1, lc_lt, lc_ge, lc_gt, lc_le, lc_eq, Classical.not_not]
  with_reducible repeat' (first | (refine And.intro ?_ ?_) | intro _)
  all_goals try omega
  all_goals first | omega | exact kc_91b (fun _ z => z) ht hn hw hk hN hf hb h5 h7 q | skip
end R91

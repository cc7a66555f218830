/-! 96.stack: the check's stack of what waits: opens, answers -/
abbrev SXT : Nat → Nat → Bool := fun o f => o == 21 && (f == 40 || f == 41 || f == 44 || f == 45 || f == 46 || f == 47 || f == 50 || f == 51 || f == 58)
/-- what waits, the newest first -/
def STK (σ : Mem) : List Int → Prop
  | [] => True
  | x :: S => σ 21 58 0 S.length = x ∧ STK σ S
def XTt (σ : Mem) (t : Nat → Int) (N s p c : Nat) (LL : List (Nat × Int)) (d : Nat) (S : List Int) : Prop := XSt σ t N s p c LL ∧ σ 21 45 0 0 = ((d : Nat) : Int) ∧ σ 21 47 0 0 = ((S.length : Nat) : Int) ∧ STK σ S
theorem SXq_T {σ σ' : Mem} (h : same SXq σ σ') : same SXT σ σ' := h.mono (fun o f z => by
  have z' : (o == 21 && (f == 40 || f == 41 || f == 44 || f == 46 || f == 50 || f == 51)) = true := z
  show (o == 21 && (f == 40 || f == 41 || f == 44 || f == 45 || f == 46 || f == 47 || f == 50 || f == 51 || f == 58)) = true
  simp only [Bool.and_eq_true, Bool.or_eq_true] at z' ⊢
  refine ⟨z'.1, ?_⟩
  rcases z'.2 with ((((h | h) | h) | h) | h) | h <;> simp [h])
theorem STK.keep {σ σ' : Mem} : ∀ {S : List Int}, (∀ c, c < S.length → σ' 21 58 0 c = σ 21 58 0 c) → STK σ S → STK σ' S
  | [], _, _ => trivial
  | x :: S, h, k => ⟨(h S.length (by simp)).trans k.1, STK.keep (S := S) (fun c hc => h c (by simp; omega)) k.2⟩
section STX
variable {G : Gl} {w : Wd} {k : Nat} {σ : Mem} {Q : Option AV → Mem → Prop} {t : Nat → Int} {N s : Nat}
theorem XTt.of {p c p' c' d : Nat} {LL LL' : List (Nat × Int)} {S : List Int} (X : XTt σ t N s p c LL d S) {σ' : Mem} (h : same SXq σ σ') (Y : XSt σ' t N s p' c' LL') : XTt σ' t N s p' c' LL' d S := by
  obtain ⟨_, e45, e47, st⟩ := X
  exact ⟨Y, (h 21 45 rfl 0 0).trans e45, (h 21 47 rfl 0 0).trans e47, st.keep (fun c _ => h 21 58 rfl 0 c)⟩
/-! only the stack and the depth are changed -/
theorem XSt.kp {p c : Nat} {LL : List (Nat × Int)} (X : XSt σ t N s p c LL) {σ' : Mem} (h : same (fun o f => o == 21 && (f == 45 || f == 47 || f == 58)) σ σ') : XSt σ' t N s p c LL := by
  obtain ⟨T, e40, e41, e42, e44, e46, e48, e5⟩ := X
  exact ⟨T.keep h rfl rfl, (h 21 40 rfl 0 0).trans e40, (h 21 41 rfl 0 0).trans e41, (h 21 42 rfl 0 0).trans e42, (h 21 44 rfl 0 0).trans e44, (h 21 46 rfl 0 0).trans e46, (h 21 48 rfl 0 0).trans e48, fun i hi => by rw [h 21 50 rfl, h 21 51 rfl]; exact e5 i hi⟩
theorem XTt.push {p c d : Nat} {LL : List (Nat × Int)} {S : List Int} {x : Int} (X : XTt σ t N s p c LL d S) : XTt (up (up σ 21 58 0 S.length x) 21 47 0 0 ((S.length : Int) + 1)) t N s p c LL d (x :: S) := by
  obtain ⟨Y, e45, e47, st⟩ := X
  refine ⟨Y.kp ((same.refl.put rfl).put rfl), by rw [upp_nf (by decide), upp_nf (by decide)]; exact e45, by rw [upp_eq, List.length_cons]; omega, ?_, ?_⟩
  · rw [upp_nf (by decide), upp_eq]
  · exact st.keep (fun c hc => by rw [upp_nf (by decide), upp_nc (by omega)])
theorem XTt.dp {p c d d' : Nat} {LL : List (Nat × Int)} {S : List Int} (X : XTt σ t N s p c LL d S) : XTt (up σ 21 45 0 0 ((d' : Nat) : Int)) t N s p c LL d' S := by
  obtain ⟨Y, e45, e47, st⟩ := X
  exact ⟨Y.kp (same.refl.put rfl), upp_eq, by rw [upp_nf (by decide)]; exact e47, st.keep (fun c hc => by rw [upp_nf (by decide)])⟩
theorem XTt.pop {p c d : Nat} {LL : List (Nat × Int)} {S : List Int} {x : Int} (X : XTt σ t N s p c LL d (x :: S)) : XTt (up σ 21 47 0 0 ((S.length : Nat) : Int)) t N s p c LL d S := by
  obtain ⟨Y, e45, e47, st⟩ := X
  exact ⟨Y.kp (same.refl.put rfl), by rw [upp_nf (by decide)]; exact e45, upp_eq, st.2.keep (fun c hc => by rw [upp_nf (by decide)])⟩
set_option maxRecDepth 100000 in
set_option maxHeartbeats 1000000 in
theorem kx_opens (hk : 8 ≤ k) {p c d : Nat} {LL : List (Nat × Int)} {S : List Int} (X : XTt σ t N s p c LL d S) (hp : p ≤ N) (hc : c ≤ 60) (hd : d ≤ 10) (hS : S.length ≤ 400) {x : Nat} (hx : x = 9 ∨ x = 10 ∨ x = 11 ∨ x = 12)
    (q0 : x = 10 ∨ x = 11 → ∀ σ', XTt σ' t N s p c LL d (((x : Nat) : Int) :: S) → same SXT σ σ' → Q none σ')
    (q1 : x = 9 ∨ x = 12 → d < 10 → ∀ σ', XTt σ' t N s p c LL (d + 1) (((x : Nat) : Int) :: S) → same SXT σ σ' → Q none σ')
    (q2 : x = 9 ∨ x = 12 → 10 ≤ d → ∀ σ', XFb σ' t N (1 + 8 * p + 2) 1000 → σ' 21 40 0 0 = ((p : Nat) : Int) → same SXT σ σ' → Q none σ') : CC G w w k (0, 0) 167 [vr 21 0 0, vi x] σ Q := by
  have X' := X
  obtain ⟨Y, e45, e47, st⟩ := X
  have t2 := Y.1.2.1
  have u1 : ∀ v, up σ 21 58 0 S.length v 21 47 0 0 = ((S.length : Nat) : Int) := fun v => (upp_nf (by decide)).trans e47
  have u2 : ∀ v, up σ 21 45 0 0 v 21 47 0 0 = ((S.length : Nat) : Int) := fun v => (upp_nf (by decide)).trans e47
  have u3 : ∀ v y, up (up σ 21 45 0 0 v) 21 58 0 S.length y 21 47 0 0 = ((S.length : Nat) : Int) := fun v y => (upp_nf (by decide)).trans (u2 v)
  have t1 : ∀ v, up σ 21 41 0 0 v 21 45 0 0 = ((d : Nat) : Int) := fun v => (upp_nf (by decide)).trans e45
  have t3 : ∀ v x, up (up σ 21 41 0 0 v) 21 45 0 0 x 21 47 0 0 = ((S.length : Nat) : Int) := fun v x => (upp_nf (by decide)).trans ((upp_nf (by decide)).trans e47)
  have t4 : ∀ v x y, up (up (up σ 21 41 0 0 v) 21 45 0 0 x) 21 58 0 S.length y 21 47 0 0 = ((S.length : Nat) : Int) := fun v x y => (upp_nf (by decide)).trans (t3 v x)
  by_cases c0 : x = 10 ∨ x = 11
  · have r := q0 c0 _ X'.push ((same.refl.put rfl).put rfl)
    have n9 : ¬ ((x : Int) = 9) := by omega
    have n12 : ¬ ((x : Int) = 12) := by omega
    refine CC_vb ok167 (by decide) (sm3_ok G w) 60 [] (Nat.le_of_ble_eq_true rfl) ?_
    simp -implicitDefEqProofs only [↓b167_0, ↓b167_6, ↓b167_12, ↓b167_21, ↓b167_30, ↓b167_40, b167_0, b167_6, b167_12, b167_21, b167_30, b167_40, nLE3, layE8, e45, e47, u1, n9, n12, n3_153, I32, ↓xb, xb, ps, lpad, lat, aok2, rd2, aaok, aav, alok, alen, aok, akk, csum, isLg, cmpI, clsE, Option.elim, eq_self, List.mem_cons, List.not_mem_nil, or_false, false_or, List.append_nil, List.nil_append, List.cons_append, List.append_eq, List.replicate, List.length_cons, List.length_nil, List.map_cons, List.map_nil, ↓reduceIte, reduceCtorEq, if_true, if_false, true_and, and_true, false_and, and_false, and_self, not_true_eq_false, not_false_eq_true, forall_const, true_implies, false_implies, implies_true, Nat.reduceAdd, Nat.reduceSub, Nat.reduceLT, Nat.reduceLeDiff, Nat.reduceEqDiff, Nat.reduceMul, Nat.reducePow, Nat.add_one_ne_zero, Nat.add_one_sub_one, Nat.add_zero, Nat.zero_add, Int.reduceLT, Int.reduceLE, Int.reduceNeg, Int.reduceAdd, Int.reduceSub, Int.reduceToNat, Int.reduceEq, Int.reduceMul, Int.reducePow, Int.cast_ofNat_Int, Int.toNat_natCast, ne_eq, Bool.false_eq_true, true_or, or_true, or_self, Nat.not_lt_zero, ite_e0, ite_e1, lc_lt, lc_ge, lc_gt, lc_le, lc_eq, Classical.not_not]
    with_reducible repeat' (first | (refine And.intro ?_ ?_) | intro _)
    all_goals try omega
    all_goals first | omega | exact r
  · have c1 : x = 9 ∨ x = 12 := by omega
    by_cases cd : d < 10
    · have n10 : ¬ ((d : Int) = 10) := by omega
      have r := q1 c1 cd _ (X'.dp (d' := d + 1)).push (((same.refl.put rfl).put rfl).put rfl)
      rw [show (((d + 1 : Nat) : Int)) = (d : Int) + 1 by omega] at r
      rcases c1 with rfl | rfl
      all_goals refine CC_vb ok167 (by decide) (sm3_ok G w) 60 [] (Nat.le_of_ble_eq_true rfl) ?_
      all_goals simp -implicitDefEqProofs only [↓b167_0, ↓b167_6, ↓b167_12, ↓b167_21, ↓b167_30, ↓b167_40, b167_0, b167_6, b167_12, b167_21, b167_30, b167_40, nLE3, layE8, e45, e47, u2, u3, n10, n3_153, I32, ↓xb, xb, ps, lpad, lat, aok2, rd2, aaok, aav, alok, alen, aok, akk, csum, isLg, cmpI, clsE, Option.elim, eq_self, List.mem_cons, List.not_mem_nil, or_false, false_or, List.append_nil, List.nil_append, List.cons_append, List.append_eq, List.replicate, List.length_cons, List.length_nil, List.map_cons, List.map_nil, ↓reduceIte, reduceCtorEq, if_true, if_false, true_and, and_true, false_and, and_false, and_self, not_true_eq_false, not_false_eq_true, forall_const, true_implies, false_implies, implies_true, Nat.reduceAdd, Nat.reduceSub, Nat.reduceLT, Nat.reduceLeDiff, Nat.reduceEqDiff, Nat.reduceMul, Nat.reducePow, Nat.add_one_ne_zero, Nat.add_one_sub_one, Nat.add_zero, Nat.zero_add, Int.reduceLT, Int.reduceLE, Int.reduceNeg, Int.reduceAdd, Int.reduceSub, Int.reduceToNat, Int.reduceEq, Int.reduceMul, Int.reducePow, Int.cast_ofNat_Int, Int.toNat_natCast, ne_eq, Bool.false_eq_true, true_or, or_true, or_self, Nat.not_lt_zero, ite_e0, ite_e1, lc_lt, lc_ge, lc_gt, lc_le, lc_eq, Classical.not_not]
      all_goals with_reducible repeat' (first | (refine And.intro ?_ ?_) | intro _)
      all_goals first | omega | exact r
    · have d10 : d = 10 := by omega
      subst d10
      have e45' : σ 21 45 0 0 = 10 := e45
      have t1' : ∀ v, up σ 21 41 0 0 v 21 45 0 0 = 10 := t1
      have F : ∀ y, XFb (up (up (up (up σ 21 41 0 0 (1 + 8 * (p : Int) + 2)) 21 45 0 0 (10 + 1)) 21 58 0 S.length y) 21 47 0 0 ((S.length : Int) + 1)) t N (1 + 8 * (p : Int) + 2) 1000 := fun y => by
        refine ⟨Y.1.keep (S := SXl) ((((same.refl.put rfl).put rfl).put rfl).put rfl) rfl rfl, ?_, by omega, ?_, ?_, ?_, ?_⟩
        · rw [upp_nf (by decide), upp_nf (by decide), upp_nf (by decide), upp_eq]
        · rw [upp_nf (by decide), upp_nf (by decide), upp_nf (by decide), upp_nf (by decide), Y.2.1]; omega
        · rw [upp_nf (by decide), upp_nf (by decide), upp_nf (by decide), upp_nf (by decide), Y.2.1]; omega
        · rw [upp_nf (by decide), upp_nf (by decide), upp_nf (by decide), upp_nf (by decide), Y.2.2.2.2.2.1]; omega
        · rw [upp_nf (by decide), upp_nf (by decide), upp_nf (by decide), upp_nf (by decide), Y.2.2.2.2.2.1]; omega
      have r := fun y => q2 c1 (by omega) _ (F y) (by rw [upp_nf (by decide), upp_nf (by decide), upp_nf (by decide), upp_nf (by decide)]; exact Y.2.1) ((((same.refl.put rfl).put rfl).put rfl).put rfl)
      have e40 := Y.2.1
      rcases c1 with rfl | rfl
      all_goals refine CC_vb ok167 (by decide) (sm3_ok G w) 60 [] (Nat.le_of_ble_eq_true rfl) ?_
      all_goals simp -implicitDefEqProofs only [↓b167_0, ↓b167_6, ↓b167_12, ↓b167_21, ↓b167_30, ↓b167_40, b167_0, b167_6, b167_12, b167_21, b167_30, b167_40, nLE3, layE8, e45', e40, n3_153, I32, ↓xb, xb, ps, lpad, lat, aok2, rd2, aaok, aav, alok, alen, aok, akk, csum, isLg, cmpI, clsE, Option.elim, eq_self, List.mem_cons, List.not_mem_nil, or_false, false_or, List.append_nil, List.nil_append, List.cons_append, List.append_eq, List.replicate, List.length_cons, List.length_nil, List.map_cons, List.map_nil, ↓reduceIte, reduceCtorEq, if_true, if_false, true_and, and_true, false_and, and_false, and_self, not_true_eq_false, not_false_eq_true, forall_const, true_implies, false_implies, implies_true, Nat.reduceAdd, Nat.reduceSub, Nat.reduceLT, Nat.reduceLeDiff, Nat.reduceEqDiff, Nat.reduceMul, Nat.reducePow, Nat.add_one_ne_zero, Nat.add_one_sub_one, Nat.add_zero, Nat.zero_add, Int.reduceLT, Int.reduceLE, Int.reduceNeg, Int.reduceAdd, Int.reduceSub, Int.reduceToNat, Int.reduceEq, Int.reduceMul, Int.reducePow, Int.cast_ofNat_Int, Int.toNat_natCast, ne_eq, Bool.false_eq_true, true_or, or_true, or_self, Nat.not_lt_zero, ite_e0, ite_e1, lc_lt, lc_ge, lc_gt, lc_le, lc_eq, Classical.not_not]
      all_goals with_reducible repeat' (first | (refine And.intro ?_ ?_) | intro _)
      all_goals first | omega | skip
      all_goals refine kx_fails0 (by omega) Y.2.2.1 (by omega) (by omega) ?_
      all_goals simp -implicitDefEqProofs only [↓b167_0, ↓b167_6, ↓b167_12, ↓b167_21, ↓b167_30, ↓b167_40, b167_0, b167_6, b167_12, b167_21, b167_30, b167_40, nLE3, layE8, t1', t3, t4, n3_153, I32, ↓xb, xb, ps, lpad, lat, aok2, rd2, aaok, aav, alok, alen, aok, akk, csum, isLg, cmpI, clsE, Option.elim, eq_self, List.mem_cons, List.not_mem_nil, or_false, false_or, List.append_nil, List.nil_append, List.cons_append, List.append_eq, List.replicate, List.length_cons, List.length_nil, List.map_cons, List.map_nil, ↓reduceIte, reduceCtorEq, if_true, if_false, true_and, and_true, false_and, and_false, and_self, not_true_eq_false, not_false_eq_true, forall_const, true_implies, false_implies, implies_true, Nat.reduceAdd, Nat.reduceSub, Nat.reduceLT, Nat.reduceLeDiff, Nat.reduceEqDiff, Nat.reduceMul, Nat.reducePow, Nat.add_one_ne_zero, Nat.add_one_sub_one, Nat.add_zero, Nat.zero_add, Int.reduceLT, Int.reduceLE, Int.reduceNeg, Int.reduceAdd, Int.reduceSub, Int.reduceToNat, Int.reduceEq, Int.reduceMul, Int.reducePow, Int.cast_ofNat_Int, Int.toNat_natCast, ne_eq, Bool.false_eq_true, true_or, or_true, or_self, Nat.not_lt_zero, ite_e0, ite_e1, lc_lt, lc_ge, lc_gt, lc_le, lc_eq, Classical.not_not]
      all_goals with_reducible repeat' (first | (refine And.intro ?_ ?_) | intro _)
      all_goals first | omega | exact r _
/-! answers: the newest that waits is another, or none -/
set_option maxRecDepth 100000 in
set_option maxHeartbeats 1000000 in
theorem kx_ans0 (hk : 8 ≤ k) {p c d : Nat} {LL : List (Nat × Int)} {S : List Int} (X : XTt σ t N s p c LL d S) (hS : S.length ≤ 402) {x : Nat} (hn : ∀ y S', S = y :: S' → y ≠ ((x : Nat) : Int)) (q : Q none σ) : TT G w w w k (0, 0) 168 0 [some (vr 21 0 0), some (vi x)] [] σ Q := by
  obtain ⟨Y, e45, e47, st⟩ := X
  have tp : (if σ 21 47 0 0 = 0 then -1 else σ 21 58 0 (σ 21 47 0 0 - 1).toNat) ≠ ((x : Nat) : Int) := fun z => by
    cases S with
    | nil =>
      rw [e47] at z
      have z' : (-1 : Int) = x := z
      omega
    | cons y S' =>
      rw [e47, if_neg (by rw [List.length_cons]; omega), show (((y :: S').length : Int) - 1).toNat = S'.length by rw [List.length_cons]; omega] at z
      exact hn y S' rfl (st.1.symm.trans z)
  have l0 : 0 ≤ σ 21 47 0 0 := by omega
  have l1 : σ 21 47 0 0 ≤ 402 := by omega
  refine TT_vb ok168 (sm3_ok G w) 60 [] ?_
  simp -implicitDefEqProofs only [↓b168_0, ↓b168_4, ↓b168_8, ↓b168_15, ↓b168_21, ↓b168_42, ↓b168_46, ↓b168_47, ↓b168_54, b168_0, b168_4, b168_8, b168_15, b168_21, b168_42, b168_46, b168_47, b168_54, nLE3, layE8, tp, l0, l1, k3_166, r166, n3_159, I32, ↓xb, xb, ps, lpad, lat, aok2, rd2, aaok, aav, alok, alen, aok, akk, csum, isLg, cmpI, clsE, Option.elim, eq_self, List.mem_cons, List.not_mem_nil, or_false, false_or, List.append_nil, List.nil_append, List.cons_append, List.append_eq, List.replicate, List.length_cons, List.length_nil, List.map_cons, List.map_nil, ↓reduceIte, reduceCtorEq, if_true, if_false, true_and, and_true, false_and, and_false, and_self, not_true_eq_false, not_false_eq_true, forall_const, true_implies, false_implies, implies_true, Nat.reduceAdd, Nat.reduceSub, Nat.reduceLT, Nat.reduceLeDiff, Nat.reduceEqDiff, Nat.reduceMul, Nat.reducePow, Nat.add_one_ne_zero, Nat.add_one_sub_one, Nat.add_zero, Nat.zero_add, Int.reduceLT, Int.reduceLE, Int.reduceNeg, Int.reduceAdd, Int.reduceSub, Int.reduceToNat, Int.reduceEq, Int.reduceMul, Int.reducePow, Int.cast_ofNat_Int, Int.toNat_natCast, ne_eq, Bool.false_eq_true, true_or, or_true, or_self, Nat.not_lt_zero, ite_e0, ite_e1, lc_lt, lc_ge, lc_gt, lc_le, lc_eq, Classical.not_not]
  with_reducible repeat' (first | (refine And.intro ?_ ?_) | intro _)
  all_goals try omega
  all_goals first | omega | exact q
set_option maxRecDepth 100000 in
set_option maxHeartbeats 1000000 in
theorem kx_ans1 (hk : 10 ≤ k) (hs7 : s ≤ 7) {p c d d' : Nat} {LL : List (Nat × Int)} {S : List Int} {x : Nat} (hx : x = 9 ∨ x = 10 ∨ x = 11) (hd : (x = 9 → d = d' + 1) ∧ (x ≠ 9 → d' = d)) (hd10 : d ≤ 11) (X : XTt σ t N s p c LL d (((x : Nat) : Int) :: S)) (hS : S.length ≤ 400) (hl : LL.length < 300)
    (q : ∀ σ', XTt σ' t N s p c (LL ++ [(x, 0)]) d' S → same SXT σ σ' → TT G w w w k (0, 0) 168 0 [some (vr 21 0 0), some (vi x)] [] σ' Q) : TT G w w w k (0, 0) 168 0 [some (vr 21 0 0), some (vi x)] [] σ Q := by
  have X' := X
  obtain ⟨Y, e45, e47, st⟩ := X
  rw [List.length_cons] at e47
  have e41 := Y.2.2.1
  have tp : (if σ 21 47 0 0 = 0 then -1 else σ 21 58 0 (σ 21 47 0 0 - 1).toNat) = ((x : Nat) : Int) := by
    rw [e47, if_neg (by omega), show (((S.length + 1 : Nat) : Int) - 1).toNat = S.length by omega]
    exact st.1
  have l0 : 0 ≤ σ 21 47 0 0 := by omega
  have l1 : σ 21 47 0 0 ≤ 402 := by omega
  have go : ∀ (σ2 : Mem), XSt σ2 t N s p c (LL ++ [(x, 0)]) → same SXq σ σ2 → TT G w w w k (0, 0) 168 21 [some (vr 21 0 0), some (vi x)] [] σ2 Q := fun σ2 Y2 s2 => by
    have X2 := X'.of s2 Y2
    have g45 := X2.2.1
    have g47 := X2.2.2.1
    rw [List.length_cons] at g47
    have u45 : ∀ v, up σ2 21 47 0 0 v 21 45 0 0 = ((d : Nat) : Int) := fun v => (upp_nf (by decide)).trans g45
    have en : ((S.length + 1 : Nat) : Int) - 1 = ((S.length : Nat) : Int) := by omega
    by_cases x9 : x = 9
    · have ed := hd.1 x9
      have r := q _ (X2.pop.dp (d' := d')) ((SXq_T s2).trans ((same.refl.put rfl).put rfl))
      have ed' : ((d : Nat) : Int) - 1 = ((d' : Nat) : Int) := by omega
      subst x9
      refine TT_vb ok168 (sm3_ok G w) 60 [0] ?_
      simp -implicitDefEqProofs only [↓b168_0, ↓b168_4, ↓b168_8, ↓b168_15, ↓b168_21, ↓b168_42, ↓b168_46, ↓b168_47, ↓b168_54, b168_0, b168_4, b168_8, b168_15, b168_21, b168_42, b168_46, b168_47, b168_54, nLE3, layE8, g47, u45, en, ed', k3_166, r166, n3_159, I32, ↓xb, xb, ps, lpad, lat, aok2, rd2, aaok, aav, alok, alen, aok, akk, csum, isLg, cmpI, clsE, Option.elim, eq_self, List.mem_cons, List.not_mem_nil, or_false, false_or, List.append_nil, List.nil_append, List.cons_append, List.append_eq, List.replicate, List.length_cons, List.length_nil, List.map_cons, List.map_nil, ↓reduceIte, reduceCtorEq, if_true, if_false, true_and, and_true, false_and, and_false, and_self, not_true_eq_false, not_false_eq_true, forall_const, true_implies, false_implies, implies_true, Nat.reduceAdd, Nat.reduceSub, Nat.reduceLT, Nat.reduceLeDiff, Nat.reduceEqDiff, Nat.reduceMul, Nat.reducePow, Nat.add_one_ne_zero, Nat.add_one_sub_one, Nat.add_zero, Nat.zero_add, Int.reduceLT, Int.reduceLE, Int.reduceNeg, Int.reduceAdd, Int.reduceSub, Int.reduceToNat, Int.reduceEq, Int.reduceMul, Int.reducePow, Int.cast_ofNat_Int, Int.toNat_natCast, ne_eq, Bool.false_eq_true, true_or, or_true, or_self, Nat.not_lt_zero, ite_e0, ite_e1, lc_lt, lc_ge, lc_gt, lc_le, lc_eq, Classical.not_not]
      with_reducible repeat' (first | (refine And.intro ?_ ?_) | intro _)
      all_goals try omega
      all_goals first | omega | exact r
    · have ed := hd.2 x9
      have r := q _ (X2.pop.dp (d' := d')) ((SXq_T s2).trans ((same.refl.put rfl).put rfl))
      have ed' : ((d : Nat) : Int) - 0 = ((d' : Nat) : Int) := by omega
      have n9 : ¬ ((x : Int) = 9) := by omega
      refine TT_vb ok168 (sm3_ok G w) 60 [0] ?_
      simp -implicitDefEqProofs only [↓b168_0, ↓b168_4, ↓b168_8, ↓b168_15, ↓b168_21, ↓b168_42, ↓b168_46, ↓b168_47, ↓b168_54, b168_0, b168_4, b168_8, b168_15, b168_21, b168_42, b168_46, b168_47, b168_54, nLE3, layE8, g47, u45, en, ed', n9, k3_166, r166, n3_159, I32, ↓xb, xb, ps, lpad, lat, aok2, rd2, aaok, aav, alok, alen, aok, akk, csum, isLg, cmpI, clsE, Option.elim, eq_self, List.mem_cons, List.not_mem_nil, or_false, false_or, List.append_nil, List.nil_append, List.cons_append, List.append_eq, List.replicate, List.length_cons, List.length_nil, List.map_cons, List.map_nil, ↓reduceIte, reduceCtorEq, if_true, if_false, true_and, and_true, false_and, and_false, and_self, not_true_eq_false, not_false_eq_true, forall_const, true_implies, false_implies, implies_true, Nat.reduceAdd, Nat.reduceSub, Nat.reduceLT, Nat.reduceLeDiff, Nat.reduceEqDiff, Nat.reduceMul, Nat.reducePow, Nat.add_one_ne_zero, Nat.add_one_sub_one, Nat.add_zero, Nat.zero_add, Int.reduceLT, Int.reduceLE, Int.reduceNeg, Int.reduceAdd, Int.reduceSub, Int.reduceToNat, Int.reduceEq, Int.reduceMul, Int.reducePow, Int.cast_ofNat_Int, Int.toNat_natCast, ne_eq, Bool.false_eq_true, true_or, or_true, or_self, Nat.not_lt_zero, ite_e0, ite_e1, lc_lt, lc_ge, lc_gt, lc_le, lc_eq, Classical.not_not]
      with_reducible repeat' (first | (refine And.intro ?_ ?_) | intro _)
      all_goals try omega
      all_goals first | omega | exact r
  refine TT_vb ok168 (sm3_ok G w) 60 [21] ?_
  simp -implicitDefEqProofs only [↓b168_0, ↓b168_4, ↓b168_8, ↓b168_15, ↓b168_21, ↓b168_42, ↓b168_46, ↓b168_47, ↓b168_54, b168_0, b168_4, b168_8, b168_15, b168_21, b168_42, b168_46, b168_47, b168_54, nLE3, layE8, tp, l0, l1, e41, k3_166, r166, n3_159, I32, ↓xb, xb, ps, lpad, lat, aok2, rd2, aaok, aav, alok, alen, aok, akk, csum, isLg, cmpI, clsE, Option.elim, eq_self, List.mem_cons, List.not_mem_nil, or_false, false_or, List.append_nil, List.nil_append, List.cons_append, List.append_eq, List.replicate, List.length_cons, List.length_nil, List.map_cons, List.map_nil, ↓reduceIte, reduceCtorEq, if_true, if_false, true_and, and_true, false_and, and_false, and_self, not_true_eq_false, not_false_eq_true, forall_const, true_implies, false_implies, implies_true, Nat.reduceAdd, Nat.reduceSub, Nat.reduceLT, Nat.reduceLeDiff, Nat.reduceEqDiff, Nat.reduceMul, Nat.reducePow, Nat.add_one_ne_zero, Nat.add_one_sub_one, Nat.add_zero, Nat.zero_add, Int.reduceLT, Int.reduceLE, Int.reduceNeg, Int.reduceAdd, Int.reduceSub, Int.reduceToNat, Int.reduceEq, Int.reduceMul, Int.reducePow, Int.cast_ofNat_Int, Int.toNat_natCast, ne_eq, Bool.false_eq_true, true_or, or_true, or_self, Nat.not_lt_zero, ite_e0, ite_e1, lc_lt, lc_ge, lc_gt, lc_le, lc_eq, Classical.not_not]
  with_reducible repeat' (first | (refine And.intro ?_ ?_) | intro _)
  all_goals try omega
  all_goals first | omega | skip
  refine kx_entry (a := x) (by omega) hs7 Y hl (fun σ2 Y2 s2 => ?_)
  have r := go σ2 Y2 s2
  simp -implicitDefEqProofs only [↓b168_0, ↓b168_4, ↓b168_8, ↓b168_15, ↓b168_21, ↓b168_42, ↓b168_46, ↓b168_47, ↓b168_54, b168_0, b168_4, b168_8, b168_15, b168_21, b168_42, b168_46, b168_47, b168_54, nLE3, layE8, hk, k3_166, r166, n3_159, I32, ↓xb, xb, ps, lpad, lat, aok2, rd2, aaok, aav, alok, alen, aok, akk, csum, isLg, cmpI, clsE, Option.elim, eq_self, List.mem_cons, List.not_mem_nil, or_false, false_or, List.append_nil, List.nil_append, List.cons_append, List.append_eq, List.replicate, List.length_cons, List.length_nil, List.map_cons, List.map_nil, ↓reduceIte, reduceCtorEq, if_true, if_false, true_and, and_true, false_and, and_false, and_self, not_true_eq_false, not_false_eq_true, forall_const, true_implies, false_implies, implies_true, Nat.reduceAdd, Nat.reduceSub, Nat.reduceLT, Nat.reduceLeDiff, Nat.reduceEqDiff, Nat.reduceMul, Nat.reducePow, Nat.add_one_ne_zero, Nat.add_one_sub_one, Nat.add_zero, Nat.zero_add, Int.reduceLT, Int.reduceLE, Int.reduceNeg, Int.reduceAdd, Int.reduceSub, Int.reduceToNat, Int.reduceEq, Int.reduceMul, Int.reducePow, Int.cast_ofNat_Int, Int.toNat_natCast, ne_eq, Bool.false_eq_true, true_or, or_true, or_self, Nat.not_lt_zero, ite_e0, ite_e1, lc_lt, lc_ge, lc_gt, lc_le, lc_eq, Classical.not_not]
  with_reducible repeat' (first | (refine And.intro ?_ ?_) | intro _)
  all_goals try omega
  all_goals first | omega | exact r
end STX

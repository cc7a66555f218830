/-! 19.small2: debtor, priceOf, the ends, hasTurners, allHarms, cableOf (by wip/gen/gen19.py) -/
theorem band_nat {a b : Int} (ha : 0 ≤ a ∧ a ≤ 2147483647) (hb : 0 ≤ b ∧ b ≤ 2147483647) : band a b = ((a.toNat &&& b.toNat : Nat) : Int) := by
  have e : ∀ x : Int, 0 ≤ x ∧ x ≤ 2147483647 → (BitVec.ofInt 32 x).toNat = x.toNat := fun x hx => by
    rw [BitVec.toNat_ofInt]; omega
  have h1 : a.toNat &&& b.toNat ≤ a.toNat := Nat.and_le_left
  unfold band
  rw [← Int32.toInt_toBitVec, Int32.toBitVec_and, Int32.toBitVec_ofInt, Int32.toBitVec_ofInt, BitVec.toInt_eq_toNat_of_lt, BitVec.toNat_and, e a ha, e b hb]
  rw [BitVec.toNat_and, e a ha, e b hb]
  omega
theorem band_1 {a : Int} (ha : 0 ≤ a ∧ a ≤ 2147483647) : band a 1 = a % 2 := by
  rw [band_nat ha (by omega), show (1 : Int).toNat = 1 by rfl, Nat.and_one_is_mod]
  omega
theorem w64_w64 {x : Int} : w64 (w64 x) = w64 x := by unfold w64; omega
theorem w64_id {x : Int} (h : I64 x) : w64 x = x := by unfold I64 at h; unfold w64; omega
theorem w64_add {x y : Int} : w64 (w64 x + y) = w64 (x + y) := by unfold w64; omega
theorem w64_add2 {x y : Int} : w64 (x + w64 y) = w64 (x + y) := by unfold w64; omega
/-- houses that there are not gave and got nothing -/
def GZ (P : Pt) : Prop := ∀ a b : Nat, a < 12 → b < 12 → (P 2 0 ≤ (a : Int) ∨ P 2 0 ≤ (b : Int)) → P 38 (12 * a + b) = 0
def dbP (P : Pt) (h : Nat) : Int := iter (gst P h) 12 0
theorem gst_w {P : Pt} {h : Int} : ∀ n : Nat, w64 (iter (gst P h) n 0) = iter (gst P h) n 0
  | 0 => show w64 0 = 0 by decide
  | n + 1 => w64_w64
theorem dbP_eq {P : Pt} (W : WF P) (Z : GZ P) {h : Nat} (hh : h < 12) : iter (gst P h) (P 2 0).toNat 0 = dbP P h := by
  have wh := W.sc.1
  have q : ∀ d : Nat, (P 2 0).toNat + d ≤ 12 → iter (gst P h) ((P 2 0).toNat + d) 0 = iter (gst P h) (P 2 0).toNat 0 := fun d => by
    induction d with
    | zero => intro _; rfl
    | succ d ih =>
      intro hd
      have a := ih (by omega)
      have z1 := Z ((P 2 0).toNat + d) h (by omega) hh (by omega)
      have z2 := Z h ((P 2 0).toNat + d) hh (by omega) (by omega)
      show gst P h ((P 2 0).toNat + d) (iter (gst P h) ((P 2 0).toNat + d) 0) = _
      rw [a]
      have g := gst_w (P := P) (h := h) (P 2 0).toNat
      revert g
      generalize iter (gst P h) (P 2 0).toNat 0 = c
      intro g
      unfold gst
      rw [show (12 * (((P 2 0).toNat + d : Nat) : Int) + (h : Int)).toNat = 12 * ((P 2 0).toNat + d) + h by omega, show (12 * (h : Int) + (((P 2 0).toNat + d : Nat) : Int)).toNat = 12 * h + ((P 2 0).toNat + d) by omega, z1, z2]
      rw [show w64 (0 - 0) = 0 by decide, Int.add_zero, g]
  have := q (12 - (P 2 0).toNat) (by omega)
  rw [show (P 2 0).toNat + (12 - (P 2 0).toNat) = 12 by omega] at this
  exact this.symm
def cmP (P : Pt) (a b : Int) (k : Nat) : Prop := (P 23 k = a ∧ P 24 k = b) ∨ (P 23 k = b ∧ P 24 k = a)
theorem cm_dec (P : Pt) (a b : Int) (k : Nat) : cmP P a b k ∨ ¬ cmP P a b k := Classical.em _
noncomputable def cobP (P : Pt) (a b : Int) : Nat → Int
  | 0 => -1
  | n + 1 => if cobP P a b n ≠ -1 then cobP P a b n else if (P 23 n = a ∧ P 24 n = b) ∨ (P 23 n = b ∧ P 24 n = a) then (n : Int) else -1
theorem cob_stay {P : Pt} {a b : Int} {j : Nat} (h : cobP P a b j ≠ -1) : ∀ d : Nat, cobP P a b (j + d) = cobP P a b j
  | 0 => rfl
  | d + 1 => by
    have ih := cob_stay h d
    show (if cobP P a b (j + d) ≠ -1 then cobP P a b (j + d) else _) = _
    rw [ih, if_pos h]
theorem cob_hit {P : Pt} {a b : Int} {j n : Nat} (h0 : cobP P a b j = -1) (h : (P 23 j = a ∧ P 24 j = b) ∨ (P 23 j = b ∧ P 24 j = a)) (hn : j < n) : cobP P a b n = j := by
  have e : cobP P a b (j + 1) = j := by
    show (if cobP P a b j ≠ -1 then cobP P a b j else if (P 23 j = a ∧ P 24 j = b) ∨ (P 23 j = b ∧ P 24 j = a) then (j : Int) else -1) = _
    rw [if_neg (fun z => z h0), if_pos h]
  have := cob_stay (P := P) (a := a) (b := b) (j := j + 1) (by rw [e]; omega) (n - (j + 1))
  rw [show j + 1 + (n - (j + 1)) = n by omega] at this
  rw [this, e]
theorem cob_miss {P : Pt} {a b : Int} {j : Nat} (h0 : cobP P a b j = -1) (h : ¬ ((P 23 j = a ∧ P 24 j = b) ∨ (P 23 j = b ∧ P 24 j = a))) : cobP P a b (j + 1) = -1 := by
  show (if cobP P a b j ≠ -1 then cobP P a b j else if (P 23 j = a ∧ P 24 j = b) ∨ (P 23 j = b ∧ P 24 j = a) then (j : Int) else -1) = _
  rw [if_neg (fun z => z h0), if_neg h]
def htP (P : Pt) (i : Nat) (c : Int) : Int := if c = 0 ∧ P 34 i ≤ 0 then 0 else 1
theorem htP_b {P : Pt} (n : Nat) : iter (htP P) n 0 = 0 ∨ iter (htP P) n 0 = 1 := by
  refine iter_inv (st := htP P) (I := fun _ c => c = 0 ∨ c = 1) (Or.inl rfl) ?_
  intro i b _ _
  unfold htP
  split <;> omega
theorem est_b {P : Pt} (W : WF P) {s : Int} (n : Nat) (hn : (n : Int) ≤ P 2 5) : 0 ≤ iter (est P s) n 0 ∧ iter (est P s) n 0 ≤ 99999 := by
  have w := W.sc
  refine iter_inv (st := est P s) (I := fun n c => 0 ≤ c ∧ c ≤ 99999) ⟨by simp, by simp⟩ ?_
  intro i b hi hb
  have a := W.en (n := i) (by omega)
  unfold est
  split <;> omega
section SM2
variable {G : Gl} {w : Wd} {k : Nat} {σ : Mem} {Q : Option AV → Mem → Prop} {P : Pt} {g : Prop} {t : Nat}
set_option maxRecDepth 100000 in
set_option maxHeartbeats 1000000 in
theorem kc_more_l (R : RT g σ t P) (W : WF P) (hk : 8 ≤ k) (ht : t = 1) (hg : g) {h : Int} (hh : 0 ≤ h ∧ h < 12) (q : Q (some (vl (iter (gst P h) (P 2 0).toNat 0))) σ) : ∀ (m : Nat) (i c : Int), 0 ≤ i → i ≤ P 2 0 → P 2 0 < i + m → c = iter (gst P h) i.toNat 0 → TT G w w w k (0, 0) 56 5 [some (vr 1 0 0), some (vi h), some (vl c), none, some (vi i)] [] σ Q
  | 0, i, c, h0, h1, h2, _ => by omega
  | m + 1, i, c, h0, h1, h2, hc => by
    have ih := kc_more_l R W hk ht hg hh q m (i + 1)
    rw [iter_toNat _ h0, ← hc] at ih
    obtain ⟨⟨w1, w2⟩, ⟨w3, w4⟩, ⟨w5, w6⟩, ⟨w7, w8⟩, ⟨w9, w10⟩, ⟨w11, w12⟩, w13, ⟨w14, w15⟩⟩ := W.sc
    subst ht
    have e1 := R.houses; have e2 := R.needs; have e3 := R.makers; have e4 := R.cables; have e5 := R.items; have e6 := R.ends; have e7 := R.now; have e8 := R.said
    by_cases hi : i < P 2 0
    · have g1 := R.gaveI hg (a := i) (b := h) (by omega) hh; have g2 := R.gaveI hg (a := h) (b := i) hh (by omega)
      refine TT_vb ok56 (sm3_ok G w) 60 [5] ?_
      simp -implicitDefEqProofs only [↓b56_0, ↓b56_5, ↓b56_14, ↓b56_22, ↓b56_30, ↓b56_42, b56_0, b56_5, b56_14, b56_22, b56_30, b56_42, nLE1, layE4, e1, e2, e3, e4, e5, e6, e7, e8, up_rd, g1, g2, I32, ↓xb, xb, ps, lpad, lat, aok2, rd2, aaok, aav, alok, alen, aok, akk, csum, isLg, cmpI, clsE, Option.elim, eq_self, List.mem_cons, List.not_mem_nil, or_false, false_or, List.append_nil, List.nil_append, List.cons_append, List.append_eq, List.replicate, List.length_cons, List.length_nil, List.map_cons, List.map_nil, ↓reduceIte, reduceCtorEq, if_true, if_false, true_and, and_true, false_and, and_false, and_self, not_true_eq_false, not_false_eq_true, forall_const, true_implies, false_implies, implies_true, Nat.reduceAdd, Nat.reduceSub, Nat.reduceLT, Nat.reduceLeDiff, Nat.reduceEqDiff, Nat.reduceMul, Nat.reducePow, Nat.add_one_ne_zero, Nat.add_one_sub_one, Nat.add_zero, Nat.zero_add, Int.reduceLT, Int.reduceLE, Int.reduceNeg, Int.reduceAdd, Int.reduceSub, Int.reduceToNat, Int.reduceEq, Int.reduceMul, Int.reducePow, Int.cast_ofNat_Int, Int.toNat_natCast, ne_eq, Bool.false_eq_true, true_or, or_true, or_self, Nat.not_lt_zero, ite_e0, ite_e1, lc_lt, lc_ge, lc_gt, lc_le, lc_eq, Classical.not_not]
      with_reducible repeat' (first | (refine And.intro ?_ ?_) | intro _)
      all_goals try omega
      all_goals try (exact ih _ (by omega) (by omega) (by omega) (by unfold gst; rw [show ((i.toNat : Nat) : Int) = i by omega]))
    · refine TT_vb ok56 (sm3_ok G w) 60 [5] ?_
      simp -implicitDefEqProofs only [↓b56_0, ↓b56_5, ↓b56_14, ↓b56_22, ↓b56_30, ↓b56_42, b56_0, b56_5, b56_14, b56_22, b56_30, b56_42, nLE1, layE4, e1, e2, e3, e4, e5, e6, e7, e8, up_rd, I32, ↓xb, xb, ps, lpad, lat, aok2, rd2, aaok, aav, alok, alen, aok, akk, csum, isLg, cmpI, clsE, Option.elim, eq_self, List.mem_cons, List.not_mem_nil, or_false, false_or, List.append_nil, List.nil_append, List.cons_append, List.append_eq, List.replicate, List.length_cons, List.length_nil, List.map_cons, List.map_nil, ↓reduceIte, reduceCtorEq, if_true, if_false, true_and, and_true, false_and, and_false, and_self, not_true_eq_false, not_false_eq_true, forall_const, true_implies, false_implies, implies_true, Nat.reduceAdd, Nat.reduceSub, Nat.reduceLT, Nat.reduceLeDiff, Nat.reduceEqDiff, Nat.reduceMul, Nat.reducePow, Nat.add_one_ne_zero, Nat.add_one_sub_one, Nat.add_zero, Nat.zero_add, Int.reduceLT, Int.reduceLE, Int.reduceNeg, Int.reduceAdd, Int.reduceSub, Int.reduceToNat, Int.reduceEq, Int.reduceMul, Int.reducePow, Int.cast_ofNat_Int, Int.toNat_natCast, ne_eq, Bool.false_eq_true, true_or, or_true, or_self, Nat.not_lt_zero, ite_e0, ite_e1, lc_lt, lc_ge, lc_gt, lc_le, lc_eq, Classical.not_not]
      with_reducible repeat' (first | (refine And.intro ?_ ?_) | intro _)
      all_goals try omega
      have ei : i = P 2 0 := by omega
      subst ei; subst hc; exact q
set_option maxRecDepth 100000 in
set_option maxHeartbeats 1000000 in
theorem kc_more (R : RT g σ 1 P) (W : WF P) (hg : g) (hk : 8 ≤ k) {h : Int} (hh : 0 ≤ h ∧ h < 12) (q : Q (some (vl (iter (gst P h) (P 2 0).toNat 0))) σ) : CC G w w k (0, 0) 56 [vr 1 0 0, vi h] σ Q := by
  have wm := W.sc.1
  refine CC_vb ok56 (by decide) (sm3_ok G w) 60 [5] (Nat.le_of_ble_eq_true rfl) ?_
  simp -implicitDefEqProofs only [↓b56_0, ↓b56_5, ↓b56_14, ↓b56_22, ↓b56_30, ↓b56_42, b56_0, b56_5, b56_14, b56_22, b56_30, b56_42, nLE1, layE4, hk, I32, ↓xb, xb, ps, lpad, lat, aok2, rd2, aaok, aav, alok, alen, aok, akk, csum, isLg, cmpI, clsE, Option.elim, eq_self, List.mem_cons, List.not_mem_nil, or_false, false_or, List.append_nil, List.nil_append, List.cons_append, List.append_eq, List.replicate, List.length_cons, List.length_nil, List.map_cons, List.map_nil, ↓reduceIte, reduceCtorEq, if_true, if_false, true_and, and_true, false_and, and_false, and_self, not_true_eq_false, not_false_eq_true, forall_const, true_implies, false_implies, implies_true, Nat.reduceAdd, Nat.reduceSub, Nat.reduceLT, Nat.reduceLeDiff, Nat.reduceEqDiff, Nat.reduceMul, Nat.reducePow, Nat.add_one_ne_zero, Nat.add_one_sub_one, Nat.add_zero, Nat.zero_add, Int.reduceLT, Int.reduceLE, Int.reduceNeg, Int.reduceAdd, Int.reduceSub, Int.reduceToNat, Int.reduceEq, Int.reduceMul, Int.reducePow, Int.cast_ofNat_Int, Int.toNat_natCast, ne_eq, Bool.false_eq_true, true_or, or_true, or_self, Nat.not_lt_zero, ite_e0, ite_e1, lc_lt, lc_ge, lc_gt, lc_le, lc_eq, Classical.not_not]
  with_reducible repeat' (first | (refine And.intro ?_ ?_) | intro _)
  all_goals try omega
  exact kc_more_l R W hk rfl hg hh q 13 0 0 (by omega) (by omega) (by omega) rfl
set_option maxRecDepth 100000 in
set_option maxHeartbeats 1000000 in
theorem kx_debt_i (M : MR σ P) (W : WF P) (hk : 8 ≤ k) {b v h : Int} (hh : 0 ≤ h ∧ h < 12) (q : ∀ l6, TT G w w w k (0, 0) 233 70 [some (vr 21 0 0), some (vi b), some (vl v), none, some (vi h), some (vl (iter (gst P h) 12 0)), l6, some (vi 12)] [] σ Q) : ∀ (m : Nat) (i c : Int) (l6 : Option AV), 0 ≤ i → i ≤ (12 : Int) → (12 : Int) < i + m → c = iter (gst P h) i.toNat 0 → TT G w w w k (0, 0) 233 25 [some (vr 21 0 0), some (vi b), some (vl v), none, some (vi h), some (vl c), l6, some (vi i)] [] σ Q
  | 0, i, c, l6, h0, h1, h2, _ => by omega
  | m + 1, i, c, l6, h0, h1, h2, hc => by
    have ih := kx_debt_i M W hk hh q m (i + 1)
    rw [iter_toNat _ h0, ← hc] at ih
    obtain ⟨⟨w1, w2⟩, ⟨w3, w4⟩, ⟨w5, w6⟩, ⟨w7, w8⟩, ⟨w9, w10⟩, ⟨w11, w12⟩, w13, ⟨w14, w15⟩⟩ := W.sc
    have hM : ∀ f i, 2 ≤ f → f ≤ 38 → σ 21 f 0 i = P f i := M
    by_cases hi : i < (12 : Int)
    · refine TT_vb ok233 (sm3_ok G w) 60 [25, 70] ?_
      simp -implicitDefEqProofs only [↓b233_0, ↓b233_8, ↓b233_19, ↓b233_25, ↓b233_32, ↓b233_70, ↓b233_76, ↓b233_83, ↓b233_89, ↓b233_95, b233_0, b233_8, b233_19, b233_25, b233_32, b233_70, b233_76, b233_83, b233_89, b233_95, nLE4, layE8, hM, up_rd, I32, ↓xb, xb, ps, lpad, lat, aok2, rd2, aaok, aav, alok, alen, aok, akk, csum, isLg, cmpI, clsE, Option.elim, eq_self, List.mem_cons, List.not_mem_nil, or_false, false_or, List.append_nil, List.nil_append, List.cons_append, List.append_eq, List.replicate, List.length_cons, List.length_nil, List.map_cons, List.map_nil, ↓reduceIte, reduceCtorEq, if_true, if_false, true_and, and_true, false_and, and_false, and_self, not_true_eq_false, not_false_eq_true, forall_const, true_implies, false_implies, implies_true, Nat.reduceAdd, Nat.reduceSub, Nat.reduceLT, Nat.reduceLeDiff, Nat.reduceEqDiff, Nat.reduceMul, Nat.reducePow, Nat.add_one_ne_zero, Nat.add_one_sub_one, Nat.add_zero, Nat.zero_add, Int.reduceLT, Int.reduceLE, Int.reduceNeg, Int.reduceAdd, Int.reduceSub, Int.reduceToNat, Int.reduceEq, Int.reduceMul, Int.reducePow, Int.cast_ofNat_Int, Int.toNat_natCast, ne_eq, Bool.false_eq_true, true_or, or_true, or_self, Nat.not_lt_zero, ite_e0, ite_e1, lc_lt, lc_ge, lc_gt, lc_le, lc_eq, Classical.not_not]
      with_reducible repeat' (first | (refine And.intro ?_ ?_) | intro _)
      all_goals try omega
      all_goals try (exact ih _ _ (by omega) (by omega) (by omega) (by unfold gst; rw [show ((i.toNat : Nat) : Int) = i by omega]))
    · refine TT_vb ok233 (sm3_ok G w) 60 [25, 70] ?_
      simp -implicitDefEqProofs only [↓b233_0, ↓b233_8, ↓b233_19, ↓b233_25, ↓b233_32, ↓b233_70, ↓b233_76, ↓b233_83, ↓b233_89, ↓b233_95, b233_0, b233_8, b233_19, b233_25, b233_32, b233_70, b233_76, b233_83, b233_89, b233_95, nLE4, layE8, hM, up_rd, I32, ↓xb, xb, ps, lpad, lat, aok2, rd2, aaok, aav, alok, alen, aok, akk, csum, isLg, cmpI, clsE, Option.elim, eq_self, List.mem_cons, List.not_mem_nil, or_false, false_or, List.append_nil, List.nil_append, List.cons_append, List.append_eq, List.replicate, List.length_cons, List.length_nil, List.map_cons, List.map_nil, ↓reduceIte, reduceCtorEq, if_true, if_false, true_and, and_true, false_and, and_false, and_self, not_true_eq_false, not_false_eq_true, forall_const, true_implies, false_implies, implies_true, Nat.reduceAdd, Nat.reduceSub, Nat.reduceLT, Nat.reduceLeDiff, Nat.reduceEqDiff, Nat.reduceMul, Nat.reducePow, Nat.add_one_ne_zero, Nat.add_one_sub_one, Nat.add_zero, Nat.zero_add, Int.reduceLT, Int.reduceLE, Int.reduceNeg, Int.reduceAdd, Int.reduceSub, Int.reduceToNat, Int.reduceEq, Int.reduceMul, Int.reducePow, Int.cast_ofNat_Int, Int.toNat_natCast, ne_eq, Bool.false_eq_true, true_or, or_true, or_self, Nat.not_lt_zero, ite_e0, ite_e1, lc_lt, lc_ge, lc_gt, lc_le, lc_eq, Classical.not_not]
      with_reducible repeat' (first | (refine And.intro ?_ ?_) | intro _)
      all_goals try omega
      have ei : i = (12 : Int) := by omega
      subst ei; subst hc; exact q _
set_option maxRecDepth 100000 in
set_option maxHeartbeats 1000000 in
theorem kc_debt_l (R : RT True σ 1 P) (W : WF P) (Z : GZ P) (hk : 20 ≤ k) (q : Q (some (vi (iter (pick (dbP P)) (P 2 0).toNat (-2, 0)).1)) σ) : ∀ (m : Nat) (i b v : Int) (l5 l6 : Option AV), 0 ≤ i → i ≤ P 2 0 → P 2 0 < i + m → (b, v) = iter (pick (dbP P)) i.toNat (-2, 0) → TT G w w w k (0, 0) 119 8 [some (vr 0 0 0), some (vi b), some (vl v), none, some (vi i), l5, l6] [] σ Q
  | 0, i, b, v, l5, l6, h0, h1, h2, _ => by omega
  | m + 1, i, b, v, l5, l6, h0, h1, h2, hc => by
    have ih := kc_debt_l R W Z hk q m (i + 1)
    rw [iter_toNat _ h0, ← hc] at ih
    have wh := W.sc.1
    have pb := pick_b (f := dbP P) i.toNat
    rw [← hc] at pb
    have e1 := R.houses
    by_cases hi : i < P 2 0
    · refine TT_vb ok119 (sm3_ok G w) 60 [8] ?_
      simp -implicitDefEqProofs only [↓b119_0, ↓b119_8, ↓b119_20, ↓b119_29, ↓b119_37, ↓b119_44, ↓b119_50, ↓b119_56, b119_0, b119_8, b119_20, b119_29, b119_37, b119_44, b119_50, b119_56, nLE2, layE7, layE4, layE3, layE2, e1, n3_56, I32, ↓xb, xb, ps, lpad, lat, aok2, rd2, aaok, aav, alok, alen, aok, akk, csum, isLg, cmpI, clsE, Option.elim, eq_self, List.mem_cons, List.not_mem_nil, or_false, false_or, List.append_nil, List.nil_append, List.cons_append, List.append_eq, List.replicate, List.length_cons, List.length_nil, List.map_cons, List.map_nil, ↓reduceIte, reduceCtorEq, if_true, if_false, true_and, and_true, false_and, and_false, and_self, not_true_eq_false, not_false_eq_true, forall_const, true_implies, false_implies, implies_true, Nat.reduceAdd, Nat.reduceSub, Nat.reduceLT, Nat.reduceLeDiff, Nat.reduceEqDiff, Nat.reduceMul, Nat.reducePow, Nat.add_one_ne_zero, Nat.add_one_sub_one, Nat.add_zero, Nat.zero_add, Int.reduceLT, Int.reduceLE, Int.reduceNeg, Int.reduceAdd, Int.reduceSub, Int.reduceToNat, Int.reduceEq, Int.reduceMul, Int.reducePow, Int.cast_ofNat_Int, Int.toNat_natCast, ne_eq, Bool.false_eq_true, true_or, or_true, or_self, Nat.not_lt_zero, ite_e0, ite_e1, lc_lt, lc_ge, lc_gt, lc_le, lc_eq, Classical.not_not]
      with_reducible repeat' (first | (refine And.intro ?_ ?_) | intro _)
      all_goals try omega
      refine kc_more R W trivial (by omega) (by omega) ?_
      simp only [ps]
      have dq := dbP_eq W Z (h := i.toNat) (by omega)
      rw [show ((i.toNat : Nat) : Int) = i by omega] at dq
      rw [dq]
      simp -implicitDefEqProofs only [↓b119_0, ↓b119_8, ↓b119_20, ↓b119_29, ↓b119_37, ↓b119_44, ↓b119_50, ↓b119_56, b119_0, b119_8, b119_20, b119_29, b119_37, b119_44, b119_50, b119_56, nLE2, layE7, layE4, layE3, layE2, e1, n3_56, I32, ↓xb, xb, ps, lpad, lat, aok2, rd2, aaok, aav, alok, alen, aok, akk, csum, isLg, cmpI, clsE, Option.elim, eq_self, List.mem_cons, List.not_mem_nil, or_false, false_or, List.append_nil, List.nil_append, List.cons_append, List.append_eq, List.replicate, List.length_cons, List.length_nil, List.map_cons, List.map_nil, ↓reduceIte, reduceCtorEq, if_true, if_false, true_and, and_true, false_and, and_false, and_self, not_true_eq_false, not_false_eq_true, forall_const, true_implies, false_implies, implies_true, Nat.reduceAdd, Nat.reduceSub, Nat.reduceLT, Nat.reduceLeDiff, Nat.reduceEqDiff, Nat.reduceMul, Nat.reducePow, Nat.add_one_ne_zero, Nat.add_one_sub_one, Nat.add_zero, Nat.zero_add, Int.reduceLT, Int.reduceLE, Int.reduceNeg, Int.reduceAdd, Int.reduceSub, Int.reduceToNat, Int.reduceEq, Int.reduceMul, Int.reducePow, Int.cast_ofNat_Int, Int.toNat_natCast, ne_eq, Bool.false_eq_true, true_or, or_true, or_self, Nat.not_lt_zero, ite_e0, ite_e1, lc_lt, lc_ge, lc_gt, lc_le, lc_eq, Classical.not_not]
      with_reducible repeat' (first | (refine And.intro ?_ ?_) | intro _)
      all_goals try omega
      all_goals refine ih _ _ _ _ (by omega) (by omega) (by omega) ?_
      all_goals unfold pick
      all_goals simp only [show ((i.toNat : Nat) : Int) = i by omega]
      all_goals first | exact (if_pos (by omega)).symm | exact (if_neg (by omega)).symm
    · refine TT_vb ok119 (sm3_ok G w) 60 [8] ?_
      simp -implicitDefEqProofs only [↓b119_0, ↓b119_8, ↓b119_20, ↓b119_29, ↓b119_37, ↓b119_44, ↓b119_50, ↓b119_56, b119_0, b119_8, b119_20, b119_29, b119_37, b119_44, b119_50, b119_56, nLE2, layE7, layE4, layE3, layE2, e1, n3_56, I32, ↓xb, xb, ps, lpad, lat, aok2, rd2, aaok, aav, alok, alen, aok, akk, csum, isLg, cmpI, clsE, Option.elim, eq_self, List.mem_cons, List.not_mem_nil, or_false, false_or, List.append_nil, List.nil_append, List.cons_append, List.append_eq, List.replicate, List.length_cons, List.length_nil, List.map_cons, List.map_nil, ↓reduceIte, reduceCtorEq, if_true, if_false, true_and, and_true, false_and, and_false, and_self, not_true_eq_false, not_false_eq_true, forall_const, true_implies, false_implies, implies_true, Nat.reduceAdd, Nat.reduceSub, Nat.reduceLT, Nat.reduceLeDiff, Nat.reduceEqDiff, Nat.reduceMul, Nat.reducePow, Nat.add_one_ne_zero, Nat.add_one_sub_one, Nat.add_zero, Nat.zero_add, Int.reduceLT, Int.reduceLE, Int.reduceNeg, Int.reduceAdd, Int.reduceSub, Int.reduceToNat, Int.reduceEq, Int.reduceMul, Int.reducePow, Int.cast_ofNat_Int, Int.toNat_natCast, ne_eq, Bool.false_eq_true, true_or, or_true, or_self, Nat.not_lt_zero, ite_e0, ite_e1, lc_lt, lc_ge, lc_gt, lc_le, lc_eq, Classical.not_not]
      with_reducible repeat' (first | (refine And.intro ?_ ?_) | intro _)
      all_goals try omega
      have ei : i = P 2 0 := by omega
      subst ei
      rw [← hc] at q
      exact q
set_option maxRecDepth 100000 in
set_option maxHeartbeats 1000000 in
theorem kc_debt (R : RT True σ 1 P) (W : WF P) (Z : GZ P) (hk : 20 ≤ k) (q : Q (some (vi (iter (pick (dbP P)) (P 2 0).toNat (-2, 0)).1)) σ) : CC G w w k (0, 0) 119 [vr 0 0 0] σ Q := by
  have wm := W.sc.1
  refine CC_vb ok119 (by decide) (sm3_ok G w) 60 [8] (Nat.le_of_ble_eq_true rfl) ?_
  simp -implicitDefEqProofs only [↓b119_0, ↓b119_8, ↓b119_20, ↓b119_29, ↓b119_37, ↓b119_44, ↓b119_50, ↓b119_56, b119_0, b119_8, b119_20, b119_29, b119_37, b119_44, b119_50, b119_56, nLE2, layE7, layE4, layE3, layE2, hk, n3_56, I32, ↓xb, xb, ps, lpad, lat, aok2, rd2, aaok, aav, alok, alen, aok, akk, csum, isLg, cmpI, clsE, Option.elim, eq_self, List.mem_cons, List.not_mem_nil, or_false, false_or, List.append_nil, List.nil_append, List.cons_append, List.append_eq, List.replicate, List.length_cons, List.length_nil, List.map_cons, List.map_nil, ↓reduceIte, reduceCtorEq, if_true, if_false, true_and, and_true, false_and, and_false, and_self, not_true_eq_false, not_false_eq_true, forall_const, true_implies, false_implies, implies_true, Nat.reduceAdd, Nat.reduceSub, Nat.reduceLT, Nat.reduceLeDiff, Nat.reduceEqDiff, Nat.reduceMul, Nat.reducePow, Nat.add_one_ne_zero, Nat.add_one_sub_one, Nat.add_zero, Nat.zero_add, Int.reduceLT, Int.reduceLE, Int.reduceNeg, Int.reduceAdd, Int.reduceSub, Int.reduceToNat, Int.reduceEq, Int.reduceMul, Int.reducePow, Int.cast_ofNat_Int, Int.toNat_natCast, ne_eq, Bool.false_eq_true, true_or, or_true, or_self, Nat.not_lt_zero, ite_e0, ite_e1, lc_lt, lc_ge, lc_gt, lc_le, lc_eq, Classical.not_not]
  with_reducible repeat' (first | (refine And.intro ?_ ?_) | intro _)
  all_goals try omega
  exact kc_debt_l R W Z hk q 13 0 (-2) 0 none none (by omega) (by omega) (by omega) rfl
set_option maxRecDepth 100000 in
set_option maxHeartbeats 1000000 in
theorem kx_debt_l (M : MR σ P) (W : WF P) (Z : GZ P) (hk : 20 ≤ k) (q : Q (some (vi (iter (pick (dbP P)) (P 2 0).toNat (-2, 0)).1)) σ) : ∀ (m : Nat) (i b v : Int) (l5 l6 l7 : Option AV), 0 ≤ i → i ≤ P 2 0 → P 2 0 < i + m → (b, v) = iter (pick (dbP P)) i.toNat (-2, 0) → TT G w w w k (0, 0) 233 8 [some (vr 21 0 0), some (vi b), some (vl v), none, some (vi i), l5, l6, l7] [] σ Q
  | 0, i, b, v, l5, l6, l7, h0, h1, h2, _ => by omega
  | m + 1, i, b, v, l5, l6, l7, h0, h1, h2, hc => by
    have ih := kx_debt_l M W Z hk q m (i + 1)
    rw [iter_toNat _ h0, ← hc] at ih
    have wh := W.sc.1
    have pb := pick_b (f := dbP P) i.toNat
    rw [← hc] at pb
    have e1 := M 2 0 (by decide) (by decide)
    by_cases hi : i < P 2 0
    · refine TT_vb ok233 (sm3_ok G w) 60 [8, 25] ?_
      simp -implicitDefEqProofs only [↓b233_0, ↓b233_8, ↓b233_19, ↓b233_25, ↓b233_32, ↓b233_70, ↓b233_76, ↓b233_83, ↓b233_89, ↓b233_95, b233_0, b233_8, b233_19, b233_25, b233_32, b233_70, b233_76, b233_83, b233_89, b233_95, nLE4, layE8, e1, I32, ↓xb, xb, ps, lpad, lat, aok2, rd2, aaok, aav, alok, alen, aok, akk, csum, isLg, cmpI, clsE, Option.elim, eq_self, List.mem_cons, List.not_mem_nil, or_false, false_or, List.append_nil, List.nil_append, List.cons_append, List.append_eq, List.replicate, List.length_cons, List.length_nil, List.map_cons, List.map_nil, ↓reduceIte, reduceCtorEq, if_true, if_false, true_and, and_true, false_and, and_false, and_self, not_true_eq_false, not_false_eq_true, forall_const, true_implies, false_implies, implies_true, Nat.reduceAdd, Nat.reduceSub, Nat.reduceLT, Nat.reduceLeDiff, Nat.reduceEqDiff, Nat.reduceMul, Nat.reducePow, Nat.add_one_ne_zero, Nat.add_one_sub_one, Nat.add_zero, Nat.zero_add, Int.reduceLT, Int.reduceLE, Int.reduceNeg, Int.reduceAdd, Int.reduceSub, Int.reduceToNat, Int.reduceEq, Int.reduceMul, Int.reducePow, Int.cast_ofNat_Int, Int.toNat_natCast, ne_eq, Bool.false_eq_true, true_or, or_true, or_self, Nat.not_lt_zero, ite_e0, ite_e1, lc_lt, lc_ge, lc_gt, lc_le, lc_eq, Classical.not_not]
      with_reducible repeat' (first | (refine And.intro ?_ ?_) | intro _)
      all_goals try omega
      refine kx_debt_i M W (by omega) (by omega) (fun l6 => ?_) 13 0 0 _ (by omega) (by omega) (by omega) rfl
      have dq : iter (gst P i) 12 0 = dbP P i.toNat := by unfold dbP; rw [show ((i.toNat : Nat) : Int) = i by omega]
      rw [dq]
      refine TT_vb ok233 (sm3_ok G w) 60 [8] ?_
      simp -implicitDefEqProofs only [↓b233_0, ↓b233_8, ↓b233_19, ↓b233_25, ↓b233_32, ↓b233_70, ↓b233_76, ↓b233_83, ↓b233_89, ↓b233_95, b233_0, b233_8, b233_19, b233_25, b233_32, b233_70, b233_76, b233_83, b233_89, b233_95, nLE4, layE8, e1, I32, ↓xb, xb, ps, lpad, lat, aok2, rd2, aaok, aav, alok, alen, aok, akk, csum, isLg, cmpI, clsE, Option.elim, eq_self, List.mem_cons, List.not_mem_nil, or_false, false_or, List.append_nil, List.nil_append, List.cons_append, List.append_eq, List.replicate, List.length_cons, List.length_nil, List.map_cons, List.map_nil, ↓reduceIte, reduceCtorEq, if_true, if_false, true_and, and_true, false_and, and_false, and_self, not_true_eq_false, not_false_eq_true, forall_const, true_implies, false_implies, implies_true, Nat.reduceAdd, Nat.reduceSub, Nat.reduceLT, Nat.reduceLeDiff, Nat.reduceEqDiff, Nat.reduceMul, Nat.reducePow, Nat.add_one_ne_zero, Nat.add_one_sub_one, Nat.add_zero, Nat.zero_add, Int.reduceLT, Int.reduceLE, Int.reduceNeg, Int.reduceAdd, Int.reduceSub, Int.reduceToNat, Int.reduceEq, Int.reduceMul, Int.reducePow, Int.cast_ofNat_Int, Int.toNat_natCast, ne_eq, Bool.false_eq_true, true_or, or_true, or_self, Nat.not_lt_zero, ite_e0, ite_e1, lc_lt, lc_ge, lc_gt, lc_le, lc_eq, Classical.not_not]
      with_reducible repeat' (first | (refine And.intro ?_ ?_) | intro _)
      all_goals try omega
      all_goals refine ih _ _ _ _ _ (by omega) (by omega) (by omega) ?_
      all_goals unfold pick
      all_goals simp only [show ((i.toNat : Nat) : Int) = i by omega]
      all_goals first | exact (if_pos (by omega)).symm | exact (if_neg (by omega)).symm
    · refine TT_vb ok233 (sm3_ok G w) 60 [8] ?_
      simp -implicitDefEqProofs only [↓b233_0, ↓b233_8, ↓b233_19, ↓b233_25, ↓b233_32, ↓b233_70, ↓b233_76, ↓b233_83, ↓b233_89, ↓b233_95, b233_0, b233_8, b233_19, b233_25, b233_32, b233_70, b233_76, b233_83, b233_89, b233_95, nLE4, layE8, e1, I32, ↓xb, xb, ps, lpad, lat, aok2, rd2, aaok, aav, alok, alen, aok, akk, csum, isLg, cmpI, clsE, Option.elim, eq_self, List.mem_cons, List.not_mem_nil, or_false, false_or, List.append_nil, List.nil_append, List.cons_append, List.append_eq, List.replicate, List.length_cons, List.length_nil, List.map_cons, List.map_nil, ↓reduceIte, reduceCtorEq, if_true, if_false, true_and, and_true, false_and, and_false, and_self, not_true_eq_false, not_false_eq_true, forall_const, true_implies, false_implies, implies_true, Nat.reduceAdd, Nat.reduceSub, Nat.reduceLT, Nat.reduceLeDiff, Nat.reduceEqDiff, Nat.reduceMul, Nat.reducePow, Nat.add_one_ne_zero, Nat.add_one_sub_one, Nat.add_zero, Nat.zero_add, Int.reduceLT, Int.reduceLE, Int.reduceNeg, Int.reduceAdd, Int.reduceSub, Int.reduceToNat, Int.reduceEq, Int.reduceMul, Int.reducePow, Int.cast_ofNat_Int, Int.toNat_natCast, ne_eq, Bool.false_eq_true, true_or, or_true, or_self, Nat.not_lt_zero, ite_e0, ite_e1, lc_lt, lc_ge, lc_gt, lc_le, lc_eq, Classical.not_not]
      with_reducible repeat' (first | (refine And.intro ?_ ?_) | intro _)
      all_goals try omega
      have ei : i = P 2 0 := by omega
      subst ei
      rw [← hc] at q
      exact q
set_option maxRecDepth 100000 in
set_option maxHeartbeats 1000000 in
theorem kx_debt (M : MR σ P) (W : WF P) (Z : GZ P) (hk : 20 ≤ k) (q : Q (some (vi (iter (pick (dbP P)) (P 2 0).toNat (-2, 0)).1)) σ) : CC G w w k (0, 0) 233 [vr 21 0 0] σ Q := by
  have wm := W.sc.1
  refine CC_vb ok233 (by decide) (sm3_ok G w) 60 [8] (Nat.le_of_ble_eq_true rfl) ?_
  simp -implicitDefEqProofs only [↓b233_0, ↓b233_8, ↓b233_19, ↓b233_25, ↓b233_32, ↓b233_70, ↓b233_76, ↓b233_83, ↓b233_89, ↓b233_95, b233_0, b233_8, b233_19, b233_25, b233_32, b233_70, b233_76, b233_83, b233_89, b233_95, nLE4, layE8, hk, I32, ↓xb, xb, ps, lpad, lat, aok2, rd2, aaok, aav, alok, alen, aok, akk, csum, isLg, cmpI, clsE, Option.elim, eq_self, List.mem_cons, List.not_mem_nil, or_false, false_or, List.append_nil, List.nil_append, List.cons_append, List.append_eq, List.replicate, List.length_cons, List.length_nil, List.map_cons, List.map_nil, ↓reduceIte, reduceCtorEq, if_true, if_false, true_and, and_true, false_and, and_false, and_self, not_true_eq_false, not_false_eq_true, forall_const, true_implies, false_implies, implies_true, Nat.reduceAdd, Nat.reduceSub, Nat.reduceLT, Nat.reduceLeDiff, Nat.reduceEqDiff, Nat.reduceMul, Nat.reducePow, Nat.add_one_ne_zero, Nat.add_one_sub_one, Nat.add_zero, Nat.zero_add, Int.reduceLT, Int.reduceLE, Int.reduceNeg, Int.reduceAdd, Int.reduceSub, Int.reduceToNat, Int.reduceEq, Int.reduceMul, Int.reducePow, Int.cast_ofNat_Int, Int.toNat_natCast, ne_eq, Bool.false_eq_true, true_or, or_true, or_self, Nat.not_lt_zero, ite_e0, ite_e1, lc_lt, lc_ge, lc_gt, lc_le, lc_eq, Classical.not_not]
  with_reducible repeat' (first | (refine And.intro ?_ ?_) | intro _)
  all_goals try omega
  exact kx_debt_l M W Z hk q 13 0 (-2) 0 none none none (by omega) (by omega) (by omega) rfl
set_option maxRecDepth 100000 in
set_option maxHeartbeats 1000000 in
theorem kc_price_l (R : RT g σ t P) (W : WF P) (hk : 8 ≤ k) (ht : t = 1) {s : Int} (q : Q (some (vi (iter (pst P s) (P 2 4).toNat 0))) σ) : ∀ (m : Nat) (i c : Int), 0 ≤ i → i ≤ P 2 4 → P 2 4 < i + m → c = iter (pst P s) i.toNat 0 → TT G w w w k (0, 0) 57 4 [some (vr 1 0 0), some (vi s), some (vi c), some (vi i)] [] σ Q
  | 0, i, c, h0, h1, h2, _ => by omega
  | m + 1, i, c, h0, h1, h2, hc => by
    have ih := kc_price_l R W hk ht q m (i + 1)
    rw [iter_toNat _ h0, ← hc] at ih
    obtain ⟨⟨w1, w2⟩, ⟨w3, w4⟩, ⟨w5, w6⟩, ⟨w7, w8⟩, ⟨w9, w10⟩, ⟨w11, w12⟩, w13, ⟨w14, w15⟩⟩ := W.sc
    subst ht
    have hb := pst_b W (s := s) i.toNat (by omega); rw [← hc] at hb
    have e1 := R.houses; have e2 := R.needs; have e3 := R.makers; have e4 := R.cables; have e5 := R.items; have e6 := R.ends; have e7 := R.now; have e8 := R.said
    by_cases hi : i < P 2 4
    · obtain ⟨d1, d2, d3, d4⟩ := W.it (n := i.toNat) (by omega)
      have s3 := R.item3 (n := i.toNat) (by omega)
      refine TT_vb ok57 (sm3_ok G w) 60 [4] ?_
      simp -implicitDefEqProofs only [↓b57_0, ↓b57_4, ↓b57_12, ↓b57_21, ↓b57_28, ↓b57_32, ↓b57_38, b57_0, b57_4, b57_12, b57_21, b57_28, b57_32, b57_38, nLE1, layE4, e1, e2, e3, e4, e5, e6, e7, e8, up_rd, s3, I32, ↓xb, xb, ps, lpad, lat, aok2, rd2, aaok, aav, alok, alen, aok, akk, csum, isLg, cmpI, clsE, Option.elim, eq_self, List.mem_cons, List.not_mem_nil, or_false, false_or, List.append_nil, List.nil_append, List.cons_append, List.append_eq, List.replicate, List.length_cons, List.length_nil, List.map_cons, List.map_nil, ↓reduceIte, reduceCtorEq, if_true, if_false, true_and, and_true, false_and, and_false, and_self, not_true_eq_false, not_false_eq_true, forall_const, true_implies, false_implies, implies_true, Nat.reduceAdd, Nat.reduceSub, Nat.reduceLT, Nat.reduceLeDiff, Nat.reduceEqDiff, Nat.reduceMul, Nat.reducePow, Nat.add_one_ne_zero, Nat.add_one_sub_one, Nat.add_zero, Nat.zero_add, Int.reduceLT, Int.reduceLE, Int.reduceNeg, Int.reduceAdd, Int.reduceSub, Int.reduceToNat, Int.reduceEq, Int.reduceMul, Int.reducePow, Int.cast_ofNat_Int, Int.toNat_natCast, ne_eq, Bool.false_eq_true, true_or, or_true, or_self, Nat.not_lt_zero, ite_e0, ite_e1, lc_lt, lc_ge, lc_gt, lc_le, lc_eq, Classical.not_not]
      with_reducible repeat' (first | (refine And.intro ?_ ?_) | intro _)
      all_goals try omega
      all_goals try (exact ih _ (by omega) (by omega) (by omega) (by unfold pst; split <;> omega))
    · refine TT_vb ok57 (sm3_ok G w) 60 [4] ?_
      simp -implicitDefEqProofs only [↓b57_0, ↓b57_4, ↓b57_12, ↓b57_21, ↓b57_28, ↓b57_32, ↓b57_38, b57_0, b57_4, b57_12, b57_21, b57_28, b57_32, b57_38, nLE1, layE4, e1, e2, e3, e4, e5, e6, e7, e8, up_rd, I32, ↓xb, xb, ps, lpad, lat, aok2, rd2, aaok, aav, alok, alen, aok, akk, csum, isLg, cmpI, clsE, Option.elim, eq_self, List.mem_cons, List.not_mem_nil, or_false, false_or, List.append_nil, List.nil_append, List.cons_append, List.append_eq, List.replicate, List.length_cons, List.length_nil, List.map_cons, List.map_nil, ↓reduceIte, reduceCtorEq, if_true, if_false, true_and, and_true, false_and, and_false, and_self, not_true_eq_false, not_false_eq_true, forall_const, true_implies, false_implies, implies_true, Nat.reduceAdd, Nat.reduceSub, Nat.reduceLT, Nat.reduceLeDiff, Nat.reduceEqDiff, Nat.reduceMul, Nat.reducePow, Nat.add_one_ne_zero, Nat.add_one_sub_one, Nat.add_zero, Nat.zero_add, Int.reduceLT, Int.reduceLE, Int.reduceNeg, Int.reduceAdd, Int.reduceSub, Int.reduceToNat, Int.reduceEq, Int.reduceMul, Int.reducePow, Int.cast_ofNat_Int, Int.toNat_natCast, ne_eq, Bool.false_eq_true, true_or, or_true, or_self, Nat.not_lt_zero, ite_e0, ite_e1, lc_lt, lc_ge, lc_gt, lc_le, lc_eq, Classical.not_not]
      with_reducible repeat' (first | (refine And.intro ?_ ?_) | intro _)
      all_goals try omega
      have ei : i = P 2 4 := by omega
      subst ei; subst hc; exact q
set_option maxRecDepth 100000 in
set_option maxHeartbeats 1000000 in
theorem kc_price (R : RT g σ 1 P) (W : WF P) (hk : 8 ≤ k) {s : Int} (q : Q (some (vi (iter (pst P s) (P 2 4).toNat 0))) σ) : CC G w w k (0, 0) 57 [vr 1 0 0, vi s] σ Q := by
  have wm := W.sc.2.2.2.2.1
  refine CC_vb ok57 (by decide) (sm3_ok G w) 60 [4] (Nat.le_of_ble_eq_true rfl) ?_
  simp -implicitDefEqProofs only [↓b57_0, ↓b57_4, ↓b57_12, ↓b57_21, ↓b57_28, ↓b57_32, ↓b57_38, b57_0, b57_4, b57_12, b57_21, b57_28, b57_32, b57_38, nLE1, layE4, hk, I32, ↓xb, xb, ps, lpad, lat, aok2, rd2, aaok, aav, alok, alen, aok, akk, csum, isLg, cmpI, clsE, Option.elim, eq_self, List.mem_cons, List.not_mem_nil, or_false, false_or, List.append_nil, List.nil_append, List.cons_append, List.append_eq, List.replicate, List.length_cons, List.length_nil, List.map_cons, List.map_nil, ↓reduceIte, reduceCtorEq, if_true, if_false, true_and, and_true, false_and, and_false, and_self, not_true_eq_false, not_false_eq_true, forall_const, true_implies, false_implies, implies_true, Nat.reduceAdd, Nat.reduceSub, Nat.reduceLT, Nat.reduceLeDiff, Nat.reduceEqDiff, Nat.reduceMul, Nat.reducePow, Nat.add_one_ne_zero, Nat.add_one_sub_one, Nat.add_zero, Nat.zero_add, Int.reduceLT, Int.reduceLE, Int.reduceNeg, Int.reduceAdd, Int.reduceSub, Int.reduceToNat, Int.reduceEq, Int.reduceMul, Int.reducePow, Int.cast_ofNat_Int, Int.toNat_natCast, ne_eq, Bool.false_eq_true, true_or, or_true, or_self, Nat.not_lt_zero, ite_e0, ite_e1, lc_lt, lc_ge, lc_gt, lc_le, lc_eq, Classical.not_not]
  with_reducible repeat' (first | (refine And.intro ?_ ?_) | intro _)
  all_goals try omega
  exact kc_price_l R W hk rfl q 7 0 0 (by omega) (by omega) (by omega) rfl
/-- behind the items no bit of the set stands -/
theorem bit0 {s : Int} {n i : Nat} (h0 : 0 ≤ s) (h : s < 2 ^ n) (hi : n ≤ i) : s / 2 ^ i = 0 := by
  have : (2 : Int) ^ n ≤ 2 ^ i := by
    have := Nat.pow_le_pow_right (n := 2) (by omega) hi
    exact_mod_cast this
  exact Int.ediv_eq_zero_of_lt h0 (by omega)
def ps6 (P : Pt) (s : Int) (i : Nat) (c : Int) : Int := c + (if band (s / 2 ^ i) 1 = 1 then P 31 i else 0)
theorem ps6_eq {P : Pt} (W : WF P) {s : Int} (h0 : 0 ≤ s) (hs : s < 2 ^ (P 2 4).toNat) : ∀ d : Nat, (P 2 4).toNat + d ≤ 6 → iter (ps6 P s) ((P 2 4).toNat + d) 0 = iter (pst P s) (P 2 4).toNat 0
  | 0, _ => by
    have e : ps6 P s = pst P s := by
      funext i c
      unfold ps6 pst
      split <;> omega
    rw [e]; rfl
  | d + 1, hd => by
    have ih := ps6_eq W h0 hs d (by omega)
    show ps6 P s ((P 2 4).toNat + d) (iter (ps6 P s) ((P 2 4).toNat + d) 0) = _
    rw [ih]
    unfold ps6
    rw [bit0 (n := (P 2 4).toNat) h0 hs (by omega), if_neg (by decide)]
    omega
theorem ps6_b {P : Pt} (W : WF P) {s : Int} (h0 : 0 ≤ s) (hs : s < 2 ^ (P 2 4).toNat) (n : Nat) (hn : n ≤ 6) : 0 ≤ iter (ps6 P s) n 0 ∧ iter (ps6 P s) n 0 ≤ 9999 * n := by
  have w4 := W.sc.2.2.2.2.1
  refine iter_inv (st := ps6 P s) (I := fun n c => 0 ≤ c ∧ c ≤ 9999 * (n : Int)) ⟨by simp, by simp⟩ ?_
  intro i b hi hb
  unfold ps6
  by_cases q : (i : Int) < P 2 4
  · have a := W.it (n := i) q
    split <;> omega
  · rw [bit0 (n := (P 2 4).toNat) h0 hs (by omega), if_neg (by decide)]
    omega
set_option maxRecDepth 100000 in
set_option maxHeartbeats 1000000 in
theorem kx_price_l (M : MR σ P) (W : WF P) (hk : 8 ≤ k) {s : Int} (s0 : 0 ≤ s) (s1 : s < 2 ^ (P 2 4).toNat) (q : Q (some (vi (iter (ps6 P s) ((6 : Int)).toNat 0))) σ) : ∀ (m : Nat) (i c : Int), 0 ≤ i → i ≤ (6 : Int) → (6 : Int) < i + m → c = iter (ps6 P s) i.toNat 0 → TT G w w w k (0, 0) 214 4 [some (vr 21 0 0), some (vi s), some (vi c), some (vi i)] [] σ Q
  | 0, i, c, h0, h1, h2, _ => by omega
  | m + 1, i, c, h0, h1, h2, hc => by
    have ih := kx_price_l M W hk s0 s1 q m (i + 1)
    rw [iter_toNat _ h0, ← hc] at ih
    obtain ⟨⟨w1, w2⟩, ⟨w3, w4⟩, ⟨w5, w6⟩, ⟨w7, w8⟩, ⟨w9, w10⟩, ⟨w11, w12⟩, w13, ⟨w14, w15⟩⟩ := W.sc
    have hb := ps6_b W s0 s1 i.toNat (by omega); rw [← hc] at hb
    have hM : ∀ f i, 2 ≤ f → f ≤ 38 → σ 21 f 0 i = P f i := M
    by_cases hi : i < (6 : Int)
    · have hz : ¬ i < P 2 4 → s / 2 ^ i.toNat = 0 := fun z => bit0 (n := (P 2 4).toNat) s0 s1 (by omega)
      have h6 : ¬ i < P 2 4 → ¬ band (s / 2 ^ i.toNat) 1 = 1 := fun z y => by rw [hz z] at y; exact absurd y (by decide)
      have hp : i < P 2 4 → 0 ≤ P 31 i.toNat ∧ P 31 i.toNat ≤ 9999 := fun z => (W.it (n := i.toNat) (by omega)).2.2.2
      refine TT_vb ok214 (sm3_ok G w) 60 [4] ?_
      simp -implicitDefEqProofs only [↓b214_0, ↓b214_4, ↓b214_10, ↓b214_20, ↓b214_29, ↓b214_30, ↓b214_38, b214_0, b214_4, b214_10, b214_20, b214_29, b214_30, b214_38, nLE4, layE8, hM, up_rd, I32, ↓xb, xb, ps, lpad, lat, aok2, rd2, aaok, aav, alok, alen, aok, akk, csum, isLg, cmpI, clsE, Option.elim, eq_self, List.mem_cons, List.not_mem_nil, or_false, false_or, List.append_nil, List.nil_append, List.cons_append, List.append_eq, List.replicate, List.length_cons, List.length_nil, List.map_cons, List.map_nil, ↓reduceIte, reduceCtorEq, if_true, if_false, true_and, and_true, false_and, and_false, and_self, not_true_eq_false, not_false_eq_true, forall_const, true_implies, false_implies, implies_true, Nat.reduceAdd, Nat.reduceSub, Nat.reduceLT, Nat.reduceLeDiff, Nat.reduceEqDiff, Nat.reduceMul, Nat.reducePow, Nat.add_one_ne_zero, Nat.add_one_sub_one, Nat.add_zero, Nat.zero_add, Int.reduceLT, Int.reduceLE, Int.reduceNeg, Int.reduceAdd, Int.reduceSub, Int.reduceToNat, Int.reduceEq, Int.reduceMul, Int.reducePow, Int.cast_ofNat_Int, Int.toNat_natCast, ne_eq, Bool.false_eq_true, true_or, or_true, or_self, Nat.not_lt_zero, ite_e0, ite_e1, lc_lt, lc_ge, lc_gt, lc_le, lc_eq, Classical.not_not]
      with_reducible repeat' (first | (refine And.intro ?_ ?_) | intro _)
      all_goals try omega
      all_goals try (exact ih _ (by omega) (by omega) (by omega) (by unfold ps6; first | rw [if_pos (by assumption)] | rw [if_neg (by assumption)]))
    · refine TT_vb ok214 (sm3_ok G w) 60 [4] ?_
      simp -implicitDefEqProofs only [↓b214_0, ↓b214_4, ↓b214_10, ↓b214_20, ↓b214_29, ↓b214_30, ↓b214_38, b214_0, b214_4, b214_10, b214_20, b214_29, b214_30, b214_38, nLE4, layE8, hM, up_rd, I32, ↓xb, xb, ps, lpad, lat, aok2, rd2, aaok, aav, alok, alen, aok, akk, csum, isLg, cmpI, clsE, Option.elim, eq_self, List.mem_cons, List.not_mem_nil, or_false, false_or, List.append_nil, List.nil_append, List.cons_append, List.append_eq, List.replicate, List.length_cons, List.length_nil, List.map_cons, List.map_nil, ↓reduceIte, reduceCtorEq, if_true, if_false, true_and, and_true, false_and, and_false, and_self, not_true_eq_false, not_false_eq_true, forall_const, true_implies, false_implies, implies_true, Nat.reduceAdd, Nat.reduceSub, Nat.reduceLT, Nat.reduceLeDiff, Nat.reduceEqDiff, Nat.reduceMul, Nat.reducePow, Nat.add_one_ne_zero, Nat.add_one_sub_one, Nat.add_zero, Nat.zero_add, Int.reduceLT, Int.reduceLE, Int.reduceNeg, Int.reduceAdd, Int.reduceSub, Int.reduceToNat, Int.reduceEq, Int.reduceMul, Int.reducePow, Int.cast_ofNat_Int, Int.toNat_natCast, ne_eq, Bool.false_eq_true, true_or, or_true, or_self, Nat.not_lt_zero, ite_e0, ite_e1, lc_lt, lc_ge, lc_gt, lc_le, lc_eq, Classical.not_not]
      with_reducible repeat' (first | (refine And.intro ?_ ?_) | intro _)
      all_goals try omega
      have ei : i = (6 : Int) := by omega
      subst ei; subst hc; exact q
set_option maxRecDepth 100000 in
set_option maxHeartbeats 1000000 in
theorem kx_price (M : MR σ P) (W : WF P) (hk : 8 ≤ k) {s : Int} (s0 : 0 ≤ s) (s1 : s < 2 ^ (P 2 4).toNat) (q : Q (some (vi (iter (pst P s) (P 2 4).toNat 0))) σ) : CC G w w k (0, 0) 214 [vr 21 0 0, vi s] σ Q := by
  have wm := W.sc.2.2.2.2.1
  have e := ps6_eq W s0 s1 (6 - (P 2 4).toNat) (by omega)
  rw [show (P 2 4).toNat + (6 - (P 2 4).toNat) = 6 by omega] at e
  rw [← e] at q
  refine CC_vb ok214 (by decide) (sm3_ok G w) 60 [4] (Nat.le_of_ble_eq_true rfl) ?_
  simp -implicitDefEqProofs only [↓b214_0, ↓b214_4, ↓b214_10, ↓b214_20, ↓b214_29, ↓b214_30, ↓b214_38, b214_0, b214_4, b214_10, b214_20, b214_29, b214_30, b214_38, nLE4, layE8, hk, I32, ↓xb, xb, ps, lpad, lat, aok2, rd2, aaok, aav, alok, alen, aok, akk, csum, isLg, cmpI, clsE, Option.elim, eq_self, List.mem_cons, List.not_mem_nil, or_false, false_or, List.append_nil, List.nil_append, List.cons_append, List.append_eq, List.replicate, List.length_cons, List.length_nil, List.map_cons, List.map_nil, ↓reduceIte, reduceCtorEq, if_true, if_false, true_and, and_true, false_and, and_false, and_self, not_true_eq_false, not_false_eq_true, forall_const, true_implies, false_implies, implies_true, Nat.reduceAdd, Nat.reduceSub, Nat.reduceLT, Nat.reduceLeDiff, Nat.reduceEqDiff, Nat.reduceMul, Nat.reducePow, Nat.add_one_ne_zero, Nat.add_one_sub_one, Nat.add_zero, Nat.zero_add, Int.reduceLT, Int.reduceLE, Int.reduceNeg, Int.reduceAdd, Int.reduceSub, Int.reduceToNat, Int.reduceEq, Int.reduceMul, Int.reducePow, Int.cast_ofNat_Int, Int.toNat_natCast, ne_eq, Bool.false_eq_true, true_or, or_true, or_self, Nat.not_lt_zero, ite_e0, ite_e1, lc_lt, lc_ge, lc_gt, lc_le, lc_eq, Classical.not_not]
  with_reducible repeat' (first | (refine And.intro ?_ ?_) | intro _)
  all_goals try omega
  exact kx_price_l M W hk s0 s1 q 7 0 0 (by omega) (by omega) (by omega) rfl
set_option maxRecDepth 100000 in
set_option maxHeartbeats 1000000 in
theorem kc_last_l (R : RT g σ t P) (W : WF P) (hk : 8 ≤ k) (ht : t = 1) {s : Int} (hn : P 2 6 ≤ 99999) (q : Q (some (vi (iter (est P s) (P 2 5).toNat 0))) σ) : ∀ (m : Nat) (i c : Int) (l4 : Option AV), 0 ≤ i → i ≤ P 2 5 → P 2 5 < i + m → c = iter (est P s) i.toNat 0 → TT G w w w k (0, 0) 59 4 [some (vr 1 0 0), some (vi s), some (vi c), some (vi i), l4] [] σ Q
  | 0, i, c, l4, h0, h1, h2, _ => by omega
  | m + 1, i, c, l4, h0, h1, h2, hc => by
    have ih := kc_last_l R W hk ht hn q m (i + 1)
    rw [iter_toNat _ h0, ← hc] at ih
    obtain ⟨⟨w1, w2⟩, ⟨w3, w4⟩, ⟨w5, w6⟩, ⟨w7, w8⟩, ⟨w9, w10⟩, ⟨w11, w12⟩, w13, ⟨w14, w15⟩⟩ := W.sc
    subst ht
    have hb := est_b W (s := s) i.toNat (by omega); rw [← hc] at hb
    have e1 := R.houses; have e2 := R.needs; have e3 := R.makers; have e4 := R.cables; have e5 := R.items; have e6 := R.ends; have e7 := R.now; have e8 := R.said
    by_cases hi : i < P 2 5
    · obtain ⟨d1, d2⟩ := W.en (n := i.toNat) (by omega)
      have s0 := R.end0 (n := i.toNat) (by omega)
      refine TT_vb ok59 (sm3_ok G w) 60 [4] ?_
      simp -implicitDefEqProofs only [↓b59_0, ↓b59_4, ↓b59_12, ↓b59_18, ↓b59_33, ↓b59_39, ↓b59_40, ↓b59_46, b59_0, b59_4, b59_12, b59_18, b59_33, b59_39, b59_40, b59_46, nLE1, layE4, e1, e2, e3, e4, e5, e6, e7, e8, up_rd, s0, I32, ↓xb, xb, ps, lpad, lat, aok2, rd2, aaok, aav, alok, alen, aok, akk, csum, isLg, cmpI, clsE, Option.elim, eq_self, List.mem_cons, List.not_mem_nil, or_false, false_or, List.append_nil, List.nil_append, List.cons_append, List.append_eq, List.replicate, List.length_cons, List.length_nil, List.map_cons, List.map_nil, ↓reduceIte, reduceCtorEq, if_true, if_false, true_and, and_true, false_and, and_false, and_self, not_true_eq_false, not_false_eq_true, forall_const, true_implies, false_implies, implies_true, Nat.reduceAdd, Nat.reduceSub, Nat.reduceLT, Nat.reduceLeDiff, Nat.reduceEqDiff, Nat.reduceMul, Nat.reducePow, Nat.add_one_ne_zero, Nat.add_one_sub_one, Nat.add_zero, Nat.zero_add, Int.reduceLT, Int.reduceLE, Int.reduceNeg, Int.reduceAdd, Int.reduceSub, Int.reduceToNat, Int.reduceEq, Int.reduceMul, Int.reducePow, Int.cast_ofNat_Int, Int.toNat_natCast, ne_eq, Bool.false_eq_true, true_or, or_true, or_self, Nat.not_lt_zero, ite_e0, ite_e1, lc_lt, lc_ge, lc_gt, lc_le, lc_eq, Classical.not_not]
      with_reducible repeat' (first | (refine And.intro ?_ ?_) | intro _)
      all_goals try omega
      all_goals try (exact ih _ _ (by omega) (by omega) (by omega) (by unfold est; split <;> omega))
    · refine TT_vb ok59 (sm3_ok G w) 60 [4] ?_
      simp -implicitDefEqProofs only [↓b59_0, ↓b59_4, ↓b59_12, ↓b59_18, ↓b59_33, ↓b59_39, ↓b59_40, ↓b59_46, b59_0, b59_4, b59_12, b59_18, b59_33, b59_39, b59_40, b59_46, nLE1, layE4, e1, e2, e3, e4, e5, e6, e7, e8, up_rd, I32, ↓xb, xb, ps, lpad, lat, aok2, rd2, aaok, aav, alok, alen, aok, akk, csum, isLg, cmpI, clsE, Option.elim, eq_self, List.mem_cons, List.not_mem_nil, or_false, false_or, List.append_nil, List.nil_append, List.cons_append, List.append_eq, List.replicate, List.length_cons, List.length_nil, List.map_cons, List.map_nil, ↓reduceIte, reduceCtorEq, if_true, if_false, true_and, and_true, false_and, and_false, and_self, not_true_eq_false, not_false_eq_true, forall_const, true_implies, false_implies, implies_true, Nat.reduceAdd, Nat.reduceSub, Nat.reduceLT, Nat.reduceLeDiff, Nat.reduceEqDiff, Nat.reduceMul, Nat.reducePow, Nat.add_one_ne_zero, Nat.add_one_sub_one, Nat.add_zero, Nat.zero_add, Int.reduceLT, Int.reduceLE, Int.reduceNeg, Int.reduceAdd, Int.reduceSub, Int.reduceToNat, Int.reduceEq, Int.reduceMul, Int.reducePow, Int.cast_ofNat_Int, Int.toNat_natCast, ne_eq, Bool.false_eq_true, true_or, or_true, or_self, Nat.not_lt_zero, ite_e0, ite_e1, lc_lt, lc_ge, lc_gt, lc_le, lc_eq, Classical.not_not]
      with_reducible repeat' (first | (refine And.intro ?_ ?_) | intro _)
      all_goals try omega
      have ei : i = P 2 5 := by omega
      subst ei; subst hc; exact q
set_option maxRecDepth 100000 in
set_option maxHeartbeats 1000000 in
theorem kc_last (R : RT g σ 1 P) (W : WF P) (hk : 8 ≤ k) {s : Int} (hn : P 2 6 ≤ 99999) (q : Q (some (vi (iter (est P s) (P 2 5).toNat 0))) σ) : CC G w w k (0, 0) 59 [vr 1 0 0, vi s] σ Q := by
  have wm := W.sc.2.2.2.2.2.1
  refine CC_vb ok59 (by decide) (sm3_ok G w) 60 [4] (Nat.le_of_ble_eq_true rfl) ?_
  simp -implicitDefEqProofs only [↓b59_0, ↓b59_4, ↓b59_12, ↓b59_18, ↓b59_33, ↓b59_39, ↓b59_40, ↓b59_46, b59_0, b59_4, b59_12, b59_18, b59_33, b59_39, b59_40, b59_46, nLE1, layE4, hk, I32, ↓xb, xb, ps, lpad, lat, aok2, rd2, aaok, aav, alok, alen, aok, akk, csum, isLg, cmpI, clsE, Option.elim, eq_self, List.mem_cons, List.not_mem_nil, or_false, false_or, List.append_nil, List.nil_append, List.cons_append, List.append_eq, List.replicate, List.length_cons, List.length_nil, List.map_cons, List.map_nil, ↓reduceIte, reduceCtorEq, if_true, if_false, true_and, and_true, false_and, and_false, and_self, not_true_eq_false, not_false_eq_true, forall_const, true_implies, false_implies, implies_true, Nat.reduceAdd, Nat.reduceSub, Nat.reduceLT, Nat.reduceLeDiff, Nat.reduceEqDiff, Nat.reduceMul, Nat.reducePow, Nat.add_one_ne_zero, Nat.add_one_sub_one, Nat.add_zero, Nat.zero_add, Int.reduceLT, Int.reduceLE, Int.reduceNeg, Int.reduceAdd, Int.reduceSub, Int.reduceToNat, Int.reduceEq, Int.reduceMul, Int.reducePow, Int.cast_ofNat_Int, Int.toNat_natCast, ne_eq, Bool.false_eq_true, true_or, or_true, or_self, Nat.not_lt_zero, ite_e0, ite_e1, lc_lt, lc_ge, lc_gt, lc_le, lc_eq, Classical.not_not]
  with_reducible repeat' (first | (refine And.intro ?_ ?_) | intro _)
  all_goals try omega
  exact kc_last_l R W hk rfl hn q 7 0 0 none (by omega) (by omega) (by omega) rfl
set_option maxRecDepth 100000 in
set_option maxHeartbeats 1000000 in
theorem kc_weight_l (R : RT g σ t P) (W : WF P) (hk : 8 ≤ k) (ht : t = 1) {s : Int} (q : Q (some (vl (iter (wst P s) (P 2 5).toNat 0))) σ) : ∀ (m : Nat) (i c : Int), 0 ≤ i → i ≤ P 2 5 → P 2 5 < i + m → c = iter (wst P s) i.toNat 0 → TT G w w w k (0, 0) 60 5 [some (vr 1 0 0), some (vi s), some (vl c), none, some (vi i)] [] σ Q
  | 0, i, c, h0, h1, h2, _ => by omega
  | m + 1, i, c, h0, h1, h2, hc => by
    have ih := kc_weight_l R W hk ht q m (i + 1)
    rw [iter_toNat _ h0, ← hc] at ih
    obtain ⟨⟨w1, w2⟩, ⟨w3, w4⟩, ⟨w5, w6⟩, ⟨w7, w8⟩, ⟨w9, w10⟩, ⟨w11, w12⟩, w13, ⟨w14, w15⟩⟩ := W.sc
    subst ht
    have e1 := R.houses; have e2 := R.needs; have e3 := R.makers; have e4 := R.cables; have e5 := R.items; have e6 := R.ends; have e7 := R.now; have e8 := R.said
    by_cases hi : i < P 2 5
    · obtain ⟨d1, d2⟩ := W.en (n := i.toNat) (by omega)
      have s0 := R.end0 (n := i.toNat) (by omega); have s1 := R.end1 (n := i.toNat) (by omega)
      refine TT_vb ok60 (sm3_ok G w) 60 [5] ?_
      simp -implicitDefEqProofs only [↓b60_0, ↓b60_5, ↓b60_14, ↓b60_21, ↓b60_27, ↓b60_35, ↓b60_40, ↓b60_46, b60_0, b60_5, b60_14, b60_21, b60_27, b60_35, b60_40, b60_46, nLE1, layE4, e1, e2, e3, e4, e5, e6, e7, e8, up_rd, s0, s1, I32, ↓xb, xb, ps, lpad, lat, aok2, rd2, aaok, aav, alok, alen, aok, akk, csum, isLg, cmpI, clsE, Option.elim, eq_self, List.mem_cons, List.not_mem_nil, or_false, false_or, List.append_nil, List.nil_append, List.cons_append, List.append_eq, List.replicate, List.length_cons, List.length_nil, List.map_cons, List.map_nil, ↓reduceIte, reduceCtorEq, if_true, if_false, true_and, and_true, false_and, and_false, and_self, not_true_eq_false, not_false_eq_true, forall_const, true_implies, false_implies, implies_true, Nat.reduceAdd, Nat.reduceSub, Nat.reduceLT, Nat.reduceLeDiff, Nat.reduceEqDiff, Nat.reduceMul, Nat.reducePow, Nat.add_one_ne_zero, Nat.add_one_sub_one, Nat.add_zero, Nat.zero_add, Int.reduceLT, Int.reduceLE, Int.reduceNeg, Int.reduceAdd, Int.reduceSub, Int.reduceToNat, Int.reduceEq, Int.reduceMul, Int.reducePow, Int.cast_ofNat_Int, Int.toNat_natCast, ne_eq, Bool.false_eq_true, true_or, or_true, or_self, Nat.not_lt_zero, ite_e0, ite_e1, lc_lt, lc_ge, lc_gt, lc_le, lc_eq, Classical.not_not]
      with_reducible repeat' (first | (refine And.intro ?_ ?_) | intro _)
      all_goals try omega
      all_goals try (exact ih _ (by omega) (by omega) (by omega) (by unfold wst; first | rw [if_pos (by omega)] | rw [if_neg (by omega)]))
    · refine TT_vb ok60 (sm3_ok G w) 60 [5] ?_
      simp -implicitDefEqProofs only [↓b60_0, ↓b60_5, ↓b60_14, ↓b60_21, ↓b60_27, ↓b60_35, ↓b60_40, ↓b60_46, b60_0, b60_5, b60_14, b60_21, b60_27, b60_35, b60_40, b60_46, nLE1, layE4, e1, e2, e3, e4, e5, e6, e7, e8, up_rd, I32, ↓xb, xb, ps, lpad, lat, aok2, rd2, aaok, aav, alok, alen, aok, akk, csum, isLg, cmpI, clsE, Option.elim, eq_self, List.mem_cons, List.not_mem_nil, or_false, false_or, List.append_nil, List.nil_append, List.cons_append, List.append_eq, List.replicate, List.length_cons, List.length_nil, List.map_cons, List.map_nil, ↓reduceIte, reduceCtorEq, if_true, if_false, true_and, and_true, false_and, and_false, and_self, not_true_eq_false, not_false_eq_true, forall_const, true_implies, false_implies, implies_true, Nat.reduceAdd, Nat.reduceSub, Nat.reduceLT, Nat.reduceLeDiff, Nat.reduceEqDiff, Nat.reduceMul, Nat.reducePow, Nat.add_one_ne_zero, Nat.add_one_sub_one, Nat.add_zero, Nat.zero_add, Int.reduceLT, Int.reduceLE, Int.reduceNeg, Int.reduceAdd, Int.reduceSub, Int.reduceToNat, Int.reduceEq, Int.reduceMul, Int.reducePow, Int.cast_ofNat_Int, Int.toNat_natCast, ne_eq, Bool.false_eq_true, true_or, or_true, or_self, Nat.not_lt_zero, ite_e0, ite_e1, lc_lt, lc_ge, lc_gt, lc_le, lc_eq, Classical.not_not]
      with_reducible repeat' (first | (refine And.intro ?_ ?_) | intro _)
      all_goals try omega
      have ei : i = P 2 5 := by omega
      subst ei; subst hc; exact q
set_option maxRecDepth 100000 in
set_option maxHeartbeats 1000000 in
theorem kc_weight (R : RT g σ 1 P) (W : WF P) (hk : 8 ≤ k) {s : Int} (q : Q (some (vl (iter (wst P s) (P 2 5).toNat 0))) σ) : CC G w w k (0, 0) 60 [vr 1 0 0, vi s] σ Q := by
  have wm := W.sc.2.2.2.2.2.1
  refine CC_vb ok60 (by decide) (sm3_ok G w) 60 [5] (Nat.le_of_ble_eq_true rfl) ?_
  simp -implicitDefEqProofs only [↓b60_0, ↓b60_5, ↓b60_14, ↓b60_21, ↓b60_27, ↓b60_35, ↓b60_40, ↓b60_46, b60_0, b60_5, b60_14, b60_21, b60_27, b60_35, b60_40, b60_46, nLE1, layE4, hk, I32, ↓xb, xb, ps, lpad, lat, aok2, rd2, aaok, aav, alok, alen, aok, akk, csum, isLg, cmpI, clsE, Option.elim, eq_self, List.mem_cons, List.not_mem_nil, or_false, false_or, List.append_nil, List.nil_append, List.cons_append, List.append_eq, List.replicate, List.length_cons, List.length_nil, List.map_cons, List.map_nil, ↓reduceIte, reduceCtorEq, if_true, if_false, true_and, and_true, false_and, and_false, and_self, not_true_eq_false, not_false_eq_true, forall_const, true_implies, false_implies, implies_true, Nat.reduceAdd, Nat.reduceSub, Nat.reduceLT, Nat.reduceLeDiff, Nat.reduceEqDiff, Nat.reduceMul, Nat.reducePow, Nat.add_one_ne_zero, Nat.add_one_sub_one, Nat.add_zero, Nat.zero_add, Int.reduceLT, Int.reduceLE, Int.reduceNeg, Int.reduceAdd, Int.reduceSub, Int.reduceToNat, Int.reduceEq, Int.reduceMul, Int.reducePow, Int.cast_ofNat_Int, Int.toNat_natCast, ne_eq, Bool.false_eq_true, true_or, or_true, or_self, Nat.not_lt_zero, ite_e0, ite_e1, lc_lt, lc_ge, lc_gt, lc_le, lc_eq, Classical.not_not]
  with_reducible repeat' (first | (refine And.intro ?_ ?_) | intro _)
  all_goals try omega
  exact kc_weight_l R W hk rfl q 7 0 0 (by omega) (by omega) (by omega) rfl
set_option maxRecDepth 100000 in
set_option maxHeartbeats 1000000 in
theorem kc_has_l (R : RT g σ t P) (W : WF P) (hk : 8 ≤ k) (ht : t = 1) (q : Q (some (vi (iter (htP P) ((5 : Int)).toNat 0))) σ) : ∀ (m : Nat) (i c : Int), 0 ≤ i → i ≤ (5 : Int) → (5 : Int) < i + m → c = iter (htP P) i.toNat 0 → TT G w w w k (0, 0) 61 4 [some (vr 1 0 0), some (vi c), some (vi i)] [] σ Q
  | 0, i, c, h0, h1, h2, _ => by omega
  | m + 1, i, c, h0, h1, h2, hc => by
    have ih := kc_has_l R W hk ht q m (i + 1)
    rw [iter_toNat _ h0, ← hc] at ih
    obtain ⟨⟨w1, w2⟩, ⟨w3, w4⟩, ⟨w5, w6⟩, ⟨w7, w8⟩, ⟨w9, w10⟩, ⟨w11, w12⟩, w13, ⟨w14, w15⟩⟩ := W.sc
    subst ht
    have hb := htP_b (P := P) i.toNat; rw [← hc] at hb
    have e1 := R.houses; have e2 := R.needs; have e3 := R.makers; have e4 := R.cables; have e5 := R.items; have e6 := R.ends; have e7 := R.now; have e8 := R.said
    by_cases hi : i < (5 : Int)
    · have s0 := R.turner0 (n := i.toNat) (by omega)
      refine TT_vb ok61 (sm3_ok G w) 60 [4] ?_
      simp -implicitDefEqProofs only [↓b61_0, ↓b61_4, ↓b61_9, ↓b61_13, ↓b61_19, ↓b61_24, ↓b61_28, ↓b61_29, ↓b61_36, b61_0, b61_4, b61_9, b61_13, b61_19, b61_24, b61_28, b61_29, b61_36, nLE1, layE4, e1, e2, e3, e4, e5, e6, e7, e8, up_rd, s0, I32, ↓xb, xb, ps, lpad, lat, aok2, rd2, aaok, aav, alok, alen, aok, akk, csum, isLg, cmpI, clsE, Option.elim, eq_self, List.mem_cons, List.not_mem_nil, or_false, false_or, List.append_nil, List.nil_append, List.cons_append, List.append_eq, List.replicate, List.length_cons, List.length_nil, List.map_cons, List.map_nil, ↓reduceIte, reduceCtorEq, if_true, if_false, true_and, and_true, false_and, and_false, and_self, not_true_eq_false, not_false_eq_true, forall_const, true_implies, false_implies, implies_true, Nat.reduceAdd, Nat.reduceSub, Nat.reduceLT, Nat.reduceLeDiff, Nat.reduceEqDiff, Nat.reduceMul, Nat.reducePow, Nat.add_one_ne_zero, Nat.add_one_sub_one, Nat.add_zero, Nat.zero_add, Int.reduceLT, Int.reduceLE, Int.reduceNeg, Int.reduceAdd, Int.reduceSub, Int.reduceToNat, Int.reduceEq, Int.reduceMul, Int.reducePow, Int.cast_ofNat_Int, Int.toNat_natCast, ne_eq, Bool.false_eq_true, true_or, or_true, or_self, Nat.not_lt_zero, ite_e0, ite_e1, lc_lt, lc_ge, lc_gt, lc_le, lc_eq, Classical.not_not]
      with_reducible repeat' (first | (refine And.intro ?_ ?_) | intro _)
      all_goals try omega
      all_goals try (exact ih _ (by omega) (by omega) (by omega) (by unfold htP; first | exact (if_pos (by omega)).symm | exact (if_neg (by omega)).symm))
    · refine TT_vb ok61 (sm3_ok G w) 60 [4] ?_
      simp -implicitDefEqProofs only [↓b61_0, ↓b61_4, ↓b61_9, ↓b61_13, ↓b61_19, ↓b61_24, ↓b61_28, ↓b61_29, ↓b61_36, b61_0, b61_4, b61_9, b61_13, b61_19, b61_24, b61_28, b61_29, b61_36, nLE1, layE4, e1, e2, e3, e4, e5, e6, e7, e8, up_rd, I32, ↓xb, xb, ps, lpad, lat, aok2, rd2, aaok, aav, alok, alen, aok, akk, csum, isLg, cmpI, clsE, Option.elim, eq_self, List.mem_cons, List.not_mem_nil, or_false, false_or, List.append_nil, List.nil_append, List.cons_append, List.append_eq, List.replicate, List.length_cons, List.length_nil, List.map_cons, List.map_nil, ↓reduceIte, reduceCtorEq, if_true, if_false, true_and, and_true, false_and, and_false, and_self, not_true_eq_false, not_false_eq_true, forall_const, true_implies, false_implies, implies_true, Nat.reduceAdd, Nat.reduceSub, Nat.reduceLT, Nat.reduceLeDiff, Nat.reduceEqDiff, Nat.reduceMul, Nat.reducePow, Nat.add_one_ne_zero, Nat.add_one_sub_one, Nat.add_zero, Nat.zero_add, Int.reduceLT, Int.reduceLE, Int.reduceNeg, Int.reduceAdd, Int.reduceSub, Int.reduceToNat, Int.reduceEq, Int.reduceMul, Int.reducePow, Int.cast_ofNat_Int, Int.toNat_natCast, ne_eq, Bool.false_eq_true, true_or, or_true, or_self, Nat.not_lt_zero, ite_e0, ite_e1, lc_lt, lc_ge, lc_gt, lc_le, lc_eq, Classical.not_not]
      with_reducible repeat' (first | (refine And.intro ?_ ?_) | intro _)
      all_goals try omega
      have ei : i = (5 : Int) := by omega
      subst ei; subst hc; exact q
set_option maxRecDepth 100000 in
set_option maxHeartbeats 1000000 in
theorem kc_has (R : RT g σ 1 P) (W : WF P) (hk : 8 ≤ k) (q : Q (some (vi (iter (htP P) 5 0))) σ) : CC G w w k (0, 0) 61 [vr 1 0 0] σ Q := by
  refine CC_vb ok61 (by decide) (sm3_ok G w) 60 [4] (Nat.le_of_ble_eq_true rfl) ?_
  simp -implicitDefEqProofs only [↓b61_0, ↓b61_4, ↓b61_9, ↓b61_13, ↓b61_19, ↓b61_24, ↓b61_28, ↓b61_29, ↓b61_36, b61_0, b61_4, b61_9, b61_13, b61_19, b61_24, b61_28, b61_29, b61_36, nLE1, layE4, hk, I32, ↓xb, xb, ps, lpad, lat, aok2, rd2, aaok, aav, alok, alen, aok, akk, csum, isLg, cmpI, clsE, Option.elim, eq_self, List.mem_cons, List.not_mem_nil, or_false, false_or, List.append_nil, List.nil_append, List.cons_append, List.append_eq, List.replicate, List.length_cons, List.length_nil, List.map_cons, List.map_nil, ↓reduceIte, reduceCtorEq, if_true, if_false, true_and, and_true, false_and, and_false, and_self, not_true_eq_false, not_false_eq_true, forall_const, true_implies, false_implies, implies_true, Nat.reduceAdd, Nat.reduceSub, Nat.reduceLT, Nat.reduceLeDiff, Nat.reduceEqDiff, Nat.reduceMul, Nat.reducePow, Nat.add_one_ne_zero, Nat.add_one_sub_one, Nat.add_zero, Nat.zero_add, Int.reduceLT, Int.reduceLE, Int.reduceNeg, Int.reduceAdd, Int.reduceSub, Int.reduceToNat, Int.reduceEq, Int.reduceMul, Int.reducePow, Int.cast_ofNat_Int, Int.toNat_natCast, ne_eq, Bool.false_eq_true, true_or, or_true, or_self, Nat.not_lt_zero, ite_e0, ite_e1, lc_lt, lc_ge, lc_gt, lc_le, lc_eq, Classical.not_not]
  with_reducible repeat' (first | (refine And.intro ?_ ?_) | intro _)
  all_goals try omega
  exact kc_has_l R W hk rfl q 6 0 0 (by omega) (by omega) (by omega) rfl
set_option maxRecDepth 100000 in
set_option maxHeartbeats 1000000 in
theorem kx_all_l (M : MR σ P) (W : WF P) (hk : 8 ≤ k)  (q : Q (some (vl (iter (ahst P) ((12 : Int)).toNat 0))) σ) : ∀ (m : Nat) (i c : Int) (l2 : Option AV), 0 ≤ i → i ≤ (12 : Int) → (12 : Int) < i + m → c = iter (ahst P) i.toNat 0 → TT G w w w k (0, 0) 193 4 [some (vr 21 0 0), some (vl c), l2, some (vi i)] [] σ Q
  | 0, i, c, l2, h0, h1, h2, _ => by omega
  | m + 1, i, c, l2, h0, h1, h2, hc => by
    have ih := kx_all_l M W hk  q m (i + 1)
    rw [iter_toNat _ h0, ← hc] at ih
    obtain ⟨⟨w1, w2⟩, ⟨w3, w4⟩, ⟨w5, w6⟩, ⟨w7, w8⟩, ⟨w9, w10⟩, ⟨w11, w12⟩, w13, ⟨w14, w15⟩⟩ := W.sc
    have hM : ∀ f i, 2 ≤ f → f ≤ 38 → σ 21 f 0 i = P f i := M
    by_cases hi : i < (12 : Int)
    · refine TT_vb ok193 (sm3_ok G w) 60 [4] ?_
      simp -implicitDefEqProofs only [↓b193_0, ↓b193_4, ↓b193_10, ↓b193_25, b193_0, b193_4, b193_10, b193_25, nLE3, layE8, hM, up_rd, I32, ↓xb, xb, ps, lpad, lat, aok2, rd2, aaok, aav, alok, alen, aok, akk, csum, isLg, cmpI, clsE, Option.elim, eq_self, List.mem_cons, List.not_mem_nil, or_false, false_or, List.append_nil, List.nil_append, List.cons_append, List.append_eq, List.replicate, List.length_cons, List.length_nil, List.map_cons, List.map_nil, ↓reduceIte, reduceCtorEq, if_true, if_false, true_and, and_true, false_and, and_false, and_self, not_true_eq_false, not_false_eq_true, forall_const, true_implies, false_implies, implies_true, Nat.reduceAdd, Nat.reduceSub, Nat.reduceLT, Nat.reduceLeDiff, Nat.reduceEqDiff, Nat.reduceMul, Nat.reducePow, Nat.add_one_ne_zero, Nat.add_one_sub_one, Nat.add_zero, Nat.zero_add, Int.reduceLT, Int.reduceLE, Int.reduceNeg, Int.reduceAdd, Int.reduceSub, Int.reduceToNat, Int.reduceEq, Int.reduceMul, Int.reducePow, Int.cast_ofNat_Int, Int.toNat_natCast, ne_eq, Bool.false_eq_true, true_or, or_true, or_self, Nat.not_lt_zero, ite_e0, ite_e1, lc_lt, lc_ge, lc_gt, lc_le, lc_eq, Classical.not_not]
      with_reducible repeat' (first | (refine And.intro ?_ ?_) | intro _)
      all_goals try omega
      all_goals try (exact ih _ _ (by omega) (by omega) (by omega) (rfl))
    · refine TT_vb ok193 (sm3_ok G w) 60 [4] ?_
      simp -implicitDefEqProofs only [↓b193_0, ↓b193_4, ↓b193_10, ↓b193_25, b193_0, b193_4, b193_10, b193_25, nLE3, layE8, hM, up_rd, I32, ↓xb, xb, ps, lpad, lat, aok2, rd2, aaok, aav, alok, alen, aok, akk, csum, isLg, cmpI, clsE, Option.elim, eq_self, List.mem_cons, List.not_mem_nil, or_false, false_or, List.append_nil, List.nil_append, List.cons_append, List.append_eq, List.replicate, List.length_cons, List.length_nil, List.map_cons, List.map_nil, ↓reduceIte, reduceCtorEq, if_true, if_false, true_and, and_true, false_and, and_false, and_self, not_true_eq_false, not_false_eq_true, forall_const, true_implies, false_implies, implies_true, Nat.reduceAdd, Nat.reduceSub, Nat.reduceLT, Nat.reduceLeDiff, Nat.reduceEqDiff, Nat.reduceMul, Nat.reducePow, Nat.add_one_ne_zero, Nat.add_one_sub_one, Nat.add_zero, Nat.zero_add, Int.reduceLT, Int.reduceLE, Int.reduceNeg, Int.reduceAdd, Int.reduceSub, Int.reduceToNat, Int.reduceEq, Int.reduceMul, Int.reducePow, Int.cast_ofNat_Int, Int.toNat_natCast, ne_eq, Bool.false_eq_true, true_or, or_true, or_self, Nat.not_lt_zero, ite_e0, ite_e1, lc_lt, lc_ge, lc_gt, lc_le, lc_eq, Classical.not_not]
      with_reducible repeat' (first | (refine And.intro ?_ ?_) | intro _)
      all_goals try omega
      have ei : i = (12 : Int) := by omega
      subst ei; subst hc; exact q
def ahP (P : Pt) : Int := iter (ahst P) 12 0
set_option maxRecDepth 100000 in
set_option maxHeartbeats 1000000 in
theorem kx_all (M : MR σ P) (W : WF P) (hk : 8 ≤ k) (q : Q (some (vl (ahP P))) σ) : CC G w w k (0, 0) 193 [vr 21 0 0] σ Q := by
  refine CC_vb ok193 (by decide) (sm3_ok G w) 60 [4] (Nat.le_of_ble_eq_true rfl) ?_
  simp -implicitDefEqProofs only [↓b193_0, ↓b193_4, ↓b193_10, ↓b193_25, b193_0, b193_4, b193_10, b193_25, nLE3, layE8, hk, I32, ↓xb, xb, ps, lpad, lat, aok2, rd2, aaok, aav, alok, alen, aok, akk, csum, isLg, cmpI, clsE, Option.elim, eq_self, List.mem_cons, List.not_mem_nil, or_false, false_or, List.append_nil, List.nil_append, List.cons_append, List.append_eq, List.replicate, List.length_cons, List.length_nil, List.map_cons, List.map_nil, ↓reduceIte, reduceCtorEq, if_true, if_false, true_and, and_true, false_and, and_false, and_self, not_true_eq_false, not_false_eq_true, forall_const, true_implies, false_implies, implies_true, Nat.reduceAdd, Nat.reduceSub, Nat.reduceLT, Nat.reduceLeDiff, Nat.reduceEqDiff, Nat.reduceMul, Nat.reducePow, Nat.add_one_ne_zero, Nat.add_one_sub_one, Nat.add_zero, Nat.zero_add, Int.reduceLT, Int.reduceLE, Int.reduceNeg, Int.reduceAdd, Int.reduceSub, Int.reduceToNat, Int.reduceEq, Int.reduceMul, Int.reducePow, Int.cast_ofNat_Int, Int.toNat_natCast, ne_eq, Bool.false_eq_true, true_or, or_true, or_self, Nat.not_lt_zero, ite_e0, ite_e1, lc_lt, lc_ge, lc_gt, lc_le, lc_eq, Classical.not_not]
  with_reducible repeat' (first | (refine And.intro ?_ ?_) | intro _)
  all_goals try omega
  exact kx_all_l M W hk q 13 0 0 none (by omega) (by omega) (by omega) rfl
set_option maxRecDepth 100000 in
set_option maxHeartbeats 1000000 in
theorem kx_cob_l (M : MR σ P) (W : WF P) (hk : 8 ≤ k) {a b : Int} (q : Q (some (vi (cobP P a b (P 2 3).toNat))) σ) : ∀ (m : Nat) (i : Int), 0 ≤ i → i ≤ P 2 3 → P 2 3 < i + m → cobP P a b i.toNat = -1 → TT G w w w k (0, 0) 141 2 [some (vr 21 0 0), some (vi a), some (vi b), some (vi i)] [] σ Q
  | 0, i, h0, h1, h2, _ => by omega
  | m + 1, i, h0, h1, h2, hc => by
    have ih := kx_cob_l M W hk q m (i + 1)
    have wm := W.sc.2.2.2.1
    have hM : ∀ f i, 2 ≤ f → f ≤ 38 → σ 21 f 0 i = P f i := M
    have hit : i < P 2 3 → ((P 23 i.toNat = a ∧ P 24 i.toNat = b) ∨ (P 23 i.toNat = b ∧ P 24 i.toNat = a)) → cobP P a b (P 2 3).toNat = i := fun z y => by
      rw [cob_hit hc y (by omega)]; omega
    have miss : ¬ ((P 23 i.toNat = a ∧ P 24 i.toNat = b) ∨ (P 23 i.toNat = b ∧ P 24 i.toNat = a)) → cobP P a b (i + 1).toNat = -1 := fun y => by
      rw [show (i + 1).toNat = i.toNat + 1 by omega]; exact cob_miss hc y
    refine TT_vb ok141 (sm3_ok G w) 60 [2] ?_
    simp -implicitDefEqProofs only [↓b141_0, ↓b141_2, ↓b141_12, ↓b141_22, ↓b141_32, ↓b141_42, ↓b141_52, ↓b141_54, ↓b141_60, b141_0, b141_2, b141_12, b141_22, b141_32, b141_42, b141_52, b141_54, b141_60, nLE2, layE8, hM, I32, ↓xb, xb, ps, lpad, lat, aok2, rd2, aaok, aav, alok, alen, aok, akk, csum, isLg, cmpI, clsE, Option.elim, eq_self, List.mem_cons, List.not_mem_nil, or_false, false_or, List.append_nil, List.nil_append, List.cons_append, List.append_eq, List.replicate, List.length_cons, List.length_nil, List.map_cons, List.map_nil, ↓reduceIte, reduceCtorEq, if_true, if_false, true_and, and_true, false_and, and_false, and_self, not_true_eq_false, not_false_eq_true, forall_const, true_implies, false_implies, implies_true, Nat.reduceAdd, Nat.reduceSub, Nat.reduceLT, Nat.reduceLeDiff, Nat.reduceEqDiff, Nat.reduceMul, Nat.reducePow, Nat.add_one_ne_zero, Nat.add_one_sub_one, Nat.add_zero, Nat.zero_add, Int.reduceLT, Int.reduceLE, Int.reduceNeg, Int.reduceAdd, Int.reduceSub, Int.reduceToNat, Int.reduceEq, Int.reduceMul, Int.reducePow, Int.cast_ofNat_Int, Int.toNat_natCast, ne_eq, Bool.false_eq_true, true_or, or_true, or_self, Nat.not_lt_zero, ite_e0, ite_e1, lc_lt, lc_ge, lc_gt, lc_le, lc_eq, Classical.not_not]
    with_reducible repeat' (first | (refine And.intro ?_ ?_) | intro _)
    all_goals try omega
    all_goals first | exact ih (by omega) (by omega) (by omega) (miss (by omega)) | exact qvi q (hit (by omega) (by omega)) | skip
    all_goals (have ei : i = P 2 3 := by omega); subst ei; exact qvi q hc
set_option maxRecDepth 100000 in
set_option maxHeartbeats 1000000 in
theorem kx_cob (M : MR σ P) (W : WF P) (hk : 8 ≤ k) {a b : Int} (q : Q (some (vi (cobP P a b (P 2 3).toNat))) σ) : CC G w w k (0, 0) 141 [vr 21 0 0, vi a, vi b] σ Q := by
  have wm := W.sc.2.2.2.1
  refine CC_vb ok141 (by decide) (sm3_ok G w) 60 [2] (Nat.le_of_ble_eq_true rfl) ?_
  simp -implicitDefEqProofs only [↓b141_0, ↓b141_2, ↓b141_12, ↓b141_22, ↓b141_32, ↓b141_42, ↓b141_52, ↓b141_54, ↓b141_60, b141_0, b141_2, b141_12, b141_22, b141_32, b141_42, b141_52, b141_54, b141_60, nLE2, layE8, hk, I32, ↓xb, xb, ps, lpad, lat, aok2, rd2, aaok, aav, alok, alen, aok, akk, csum, isLg, cmpI, clsE, Option.elim, eq_self, List.mem_cons, List.not_mem_nil, or_false, false_or, List.append_nil, List.nil_append, List.cons_append, List.append_eq, List.replicate, List.length_cons, List.length_nil, List.map_cons, List.map_nil, ↓reduceIte, reduceCtorEq, if_true, if_false, true_and, and_true, false_and, and_false, and_self, not_true_eq_false, not_false_eq_true, forall_const, true_implies, false_implies, implies_true, Nat.reduceAdd, Nat.reduceSub, Nat.reduceLT, Nat.reduceLeDiff, Nat.reduceEqDiff, Nat.reduceMul, Nat.reducePow, Nat.add_one_ne_zero, Nat.add_one_sub_one, Nat.add_zero, Nat.zero_add, Int.reduceLT, Int.reduceLE, Int.reduceNeg, Int.reduceAdd, Int.reduceSub, Int.reduceToNat, Int.reduceEq, Int.reduceMul, Int.reducePow, Int.cast_ofNat_Int, Int.toNat_natCast, ne_eq, Bool.false_eq_true, true_or, or_true, or_self, Nat.not_lt_zero, ite_e0, ite_e1, lc_lt, lc_ge, lc_gt, lc_le, lc_eq, Classical.not_not]
  with_reducible repeat' (first | (refine And.intro ?_ ?_) | intro _)
  all_goals try omega
  exact kx_cob_l M W hk q 21 0 (by omega) (by omega) (by omega) rfl
end SM2

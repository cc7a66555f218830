/-! 56.doors: the doors' order, its sum (class) -/
def dlS (s : Int) (h : Nat) (b : (Nat → Int) × Nat) : (Nat → Int) × Nat := if band (s / 2 ^ h) 1 = 1 then (upd1 b.1 b.2 h, b.2 + 1) else b
def dlP (s : Int) (n : Nat) : (Nat → Int) × Nat := iter (dlS s) n (fun _ => 0, 0)
theorem dl_r {s : Int} (n : Nat) : (dlP s n).2 ≤ n ∧ (∀ c, c < (dlP s n).2 → 0 ≤ (dlP s n).1 c ∧ (dlP s n).1 c < n) ∧ ∀ i j, i < j → j < (dlP s n).2 → (dlP s n).1 i < (dlP s n).1 j := by
  refine iter_inv (st := dlS s) (I := fun n b => b.2 ≤ n ∧ (∀ c, c < b.2 → 0 ≤ b.1 c ∧ b.1 c < (n : Nat)) ∧ ∀ i j, i < j → j < b.2 → b.1 i < b.1 j) ⟨Nat.le_refl 0, fun c hc => absurd hc (Nat.not_lt_zero c), fun i j _ hj => absurd hj (Nat.not_lt_zero j)⟩ (fun h b _ hb => ?_)
  obtain ⟨b1, b2, b3⟩ := hb
  unfold dlS
  split
  · refine ⟨by show b.2 + 1 ≤ h + 1; omega, fun c hc => ?_, fun i j hij hj => ?_⟩
    · have hc' : c < b.2 + 1 := hc
      show 0 ≤ upd1 b.1 b.2 h c ∧ upd1 b.1 b.2 h c < ((h + 1 : Nat) : Int)
      by_cases e : c = b.2
      · subst e; rw [upd1_eq]; omega
      · rw [upd1_ne e]; have := b2 c (by omega); omega
    · have hj' : j < b.2 + 1 := hj
      show upd1 b.1 b.2 h i < upd1 b.1 b.2 h j
      rw [upd1_ne (show i ≠ b.2 by omega)]
      by_cases e : j = b.2
      · subst e; rw [upd1_eq]; exact (b2 i (by omega)).2
      · rw [upd1_ne e]; exact b3 i j hij (by omega)
  · exact ⟨by omega, fun c hc => by have := b2 c hc; omega, b3⟩
theorem dl_full {s : Int} {h : Nat} : ∀ d : Nat, (dlP s h).2 ≤ (dlP s (h + d)).2 ∧ ((dlP s (h + d)).2 = (dlP s h).2 → dlP s (h + d) = dlP s h)
  | 0 => ⟨Nat.le_refl _, fun _ => rfl⟩
  | d + 1 => by
    obtain ⟨i1, i2⟩ := dl_full (s := s) (h := h) d
    have e : dlP s (h + (d + 1)) = dlS s (h + d) (dlP s (h + d)) := rfl
    rw [e]
    unfold dlS
    split
    · refine ⟨by show (dlP s h).2 ≤ (dlP s (h + d)).2 + 1; omega, fun z => ?_⟩
      have z' : (dlP s (h + d)).2 + 1 = (dlP s h).2 := z
      omega
    · exact ⟨i1, i2⟩
theorem band_bit {s : Int} (h0 : 0 ≤ s ∧ s ≤ 2147483647) (h : Nat) : band (s / 2 ^ h) 1 = 1 ↔ s.toNat / 2 ^ h % 2 = 1 := by
  have e : s / 2 ^ h = ((s.toNat / 2 ^ h : Nat) : Int) := by
    have : s = ((s.toNat : Nat) : Int) := by omega
    rw [this]
    simp
  have le : s.toNat / 2 ^ h ≤ s.toNat := Nat.div_le_self _ _
  rw [e]
  revert le
  generalize s.toNat / 2 ^ h = x
  intro le
  rw [band_1 (by omega)]
  omega
theorem dl_pc {s : Int} (h0 : 0 ≤ s ∧ s ≤ 2147483647) : ∀ n : Nat, (dlP s n).2 = iter (pcS s.toNat) n 0
  | 0 => rfl
  | n + 1 => by
    have ih := dl_pc h0 n
    show (dlS s n (dlP s n)).2 = pcS s.toNat n (iter (pcS s.toNat) n 0)
    rw [← ih]
    unfold dlS pcS
    by_cases c : s.toNat / 2 ^ n % 2 = 1
    · rw [if_pos ((band_bit h0 n).mpr c), if_pos c]
    · rw [if_neg (fun z => c ((band_bit h0 n).mp z)), if_neg c]
theorem dl_hs {s : Int} {H : Nat} (h0 : 0 ≤ s) (hs : s < 2 ^ H) : ∀ d : Nat, dlP s (H + d) = dlP s H
  | 0 => rfl
  | d + 1 => by
    have ih := dl_hs h0 hs d
    show dlS s (H + d) (dlP s (H + d)) = _
    rw [ih]
    unfold dlS
    rw [bit0 h0 hs (by omega), if_neg (by decide)]
/-- the sum of an order -/
def wkS (P : Pt) (a : Nat → Int) (i : Nat) (t : Int × Int × Int) : Int × Int × Int := (t.1 + farP P t.2.1 (a i), a i, t.2.2 + (t.1 + farP P t.2.1 (a i)) * P 7 (a i).toNat)
def wkR (P : Pt) (f : Int) (a : Nat → Int) (n : Nat) : Int × Int × Int := iter (wkS P a) n (0, f, 0)
theorem wk_r {P : Pt} (W : WF P) {f : Int} (hf : 0 ≤ f ∧ f < 12) {a : Nat → Int} (n : Nat) (hn : n ≤ 6) (ha : ∀ c, c < n → 0 ≤ a c ∧ a c < 12) : (0 ≤ (wkR P f a n).1 ∧ (wkR P f a n).1 ≤ 198 * n) ∧ (0 ≤ (wkR P f a n).2.1 ∧ (wkR P f a n).2.1 < 12) ∧ (0 ≤ (wkR P f a n).2.2 ∧ (wkR P f a n).2.2 ≤ 1188000 * n) := by
  refine iter_inv (st := wkS P a) (I := fun n t => (0 ≤ t.1 ∧ t.1 ≤ 198 * (n : Nat)) ∧ (0 ≤ t.2.1 ∧ t.2.1 < 12) ∧ (0 ≤ t.2.2 ∧ t.2.2 ≤ 1188000 * (n : Nat))) ⟨by simp, hf, by simp⟩ (fun i t hi ht => ?_)
  obtain ⟨t1, t2, t3⟩ := ht
  have hai := ha i hi
  have fr := farP_r W (a := t.2.1) (b := a i) t2 hai
  have od := (W.hs (n := (a i).toNat) (by omega)).2.2.2.2
  have m1 : 0 ≤ (t.1 + farP P t.2.1 (a i)) * P 7 (a i).toNat := Int.mul_nonneg (by omega) od.1
  have m2 : (t.1 + farP P t.2.1 (a i)) * P 7 (a i).toNat ≤ 1188 * 1000 := Int.mul_le_mul (by omega) od.2 od.1 (by omega)
  refine ⟨?_, hai, ?_⟩
  · show 0 ≤ t.1 + farP P t.2.1 (a i) ∧ t.1 + farP P t.2.1 (a i) ≤ 198 * ((i + 1 : Nat) : Int); omega
  · show 0 ≤ t.2.2 + (t.1 + farP P t.2.1 (a i)) * P 7 (a i).toNat ∧ t.2.2 + (t.1 + farP P t.2.1 (a i)) * P 7 (a i).toNat ≤ 1188000 * ((i + 1 : Nat) : Int); omega
theorem wk_c {P : Pt} {f : Int} {a b : Nat → Int} (n : Nat) (h : ∀ c, c < n → a c = b c) : wkR P f a n = wkR P f b n := iter_congr n (fun i t hi => by unfold wkS; rw [h i hi])
def dwF (P : Pt) (f : Int) (n : Nat) : Nat → (Nat → Int) → (Nat → Int) → Int → (Nat → Int) × Int
  | 0, _, b, l => (b, l)
  | m + 1, a, b, l => if ptF a (n - 1) = 0 then (b, l) else if (wkR P f (nxF n a) n).2.2 < l then dwF P f n m (nxF n a) (nxF n a) (wkR P f (nxF n a) n).2.2 else dwF P f n m (nxF n a) b l
def doP (P : Pt) (f s : Int) : (Nat → Int) × Int := dwF P f (dlP s 12).2 720 (dlP s 12).1 (dlP s 12).1 (wkR P f (dlP s 12).1 (dlP s 12).2).2.2
theorem eq_rel : SRel (fun x y => x = y) := fun x y x' y' h h' => by rw [h, h']
theorem nx_r {a : Nat → Int} {n : Nat} (hn : 1 ≤ n) (h : ∀ c, c < n → 0 ≤ a c ∧ a c < 12) : ∀ c, c < n → 0 ≤ nxF n a c ∧ nxF n a c < 12 := fun c hc => by
  have l1 := pt_le (a := a) (n - 1)
  have l2 := ot_r (a := a) (p := ptF a (n - 1) - 1) (n - 1) (by omega)
  unfold nxF
  exact rv_rel (S := fun x _ => 0 ≤ x ∧ x < 12) 6 _ _ _ (fun _ => 0) (sw_rel (S := fun x _ => 0 ≤ x ∧ x < 12) (b := fun _ => 0) h (by omega) (by omega)) (by omega) c hc
section DRS
variable {G : Gl} {w : Wd} {k : Nat} {σ : Mem} {Q : Option AV → Mem → Prop} {P : Pt}
set_option maxRecDepth 100000 in
set_option maxHeartbeats 1000000 in
theorem kc_isSet (R : RT True σ 1 P) (W : WF P) (hk : 6 ≤ k) {s : Int} (q : Q (some (vi (if 0 ≤ s ∧ s < 2 ^ (P 2 0).toNat then 1 else 0))) σ) : CC G w w k (0, 0) 47 [vr 1 0 0, vi s] σ Q := by
  have w1 := W.sc.1
  have e0 := R.houses
  have p2 : (1 : Int) ≤ 2 ^ (P 2 0).toNat ∧ (2 : Int) ^ (P 2 0).toNat ≤ 4096 := by
    have : P 2 0 = 0 ∨ P 2 0 = 1 ∨ P 2 0 = 2 ∨ P 2 0 = 3 ∨ P 2 0 = 4 ∨ P 2 0 = 5 ∨ P 2 0 = 6 ∨ P 2 0 = 7 ∨ P 2 0 = 8 ∨ P 2 0 = 9 ∨ P 2 0 = 10 ∨ P 2 0 = 11 ∨ P 2 0 = 12 := by omega
    rcases this with e | e | e | e | e | e | e | e | e | e | e | e | e <;> rw [e] <;> decide
  refine CC_vb ok47 (by decide) (sm3_ok G w) 60 [] (Nat.le_of_ble_eq_true rfl) ?_
  simp -implicitDefEqProofs only [↓b47_0, ↓b47_4, ↓b47_14, ↓b47_18, ↓b47_19, b47_0, b47_4, b47_14, b47_18, b47_19, nLE0, layE4, e0, I32, ↓xb, xb, ps, lpad, lat, aok2, rd2, aaok, aav, alok, alen, aok, akk, csum, isLg, cmpI, clsE, Option.elim, eq_self, List.mem_cons, List.not_mem_nil, or_false, false_or, List.append_nil, List.nil_append, List.cons_append, List.append_eq, List.replicate, List.length_cons, List.length_nil, List.map_cons, List.map_nil, ↓reduceIte, reduceCtorEq, if_true, if_false, true_and, and_true, false_and, and_false, and_self, not_true_eq_false, not_false_eq_true, forall_const, true_implies, false_implies, implies_true, Nat.reduceAdd, Nat.reduceSub, Nat.reduceLT, Nat.reduceLeDiff, Nat.reduceEqDiff, Nat.reduceMul, Nat.reducePow, Nat.add_one_ne_zero, Nat.add_one_sub_one, Nat.add_zero, Nat.zero_add, Int.reduceLT, Int.reduceLE, Int.reduceNeg, Int.reduceAdd, Int.reduceSub, Int.reduceToNat, Int.reduceEq, Int.reduceMul, Int.reducePow, Int.cast_ofNat_Int, Int.toNat_natCast, ne_eq, Bool.false_eq_true, true_or, or_true, or_self, Nat.not_lt_zero, ite_e0, ite_e1, lc_lt, lc_ge, lc_gt, lc_le, lc_eq, Classical.not_not]
  with_reducible repeat' (first | (refine And.intro ?_ ?_) | intro _)
  all_goals try omega
  all_goals first | omega | (rw [if_pos (by omega)] at q; exact q) | (rw [if_neg (by omega)] at q; exact q)
set_option maxRecDepth 100000 in
set_option maxHeartbeats 1000000 in
theorem kc_wk_l (R : RT True σ 1 P) (W : WF P) (hk : 8 ≤ k) {f : Int} (hf : 0 ≤ f ∧ f < 12) {n : Nat} (hn : n ≤ 6) {a : Nat → Int} (ha : ∀ c, c < n → 0 ≤ a c ∧ a c < 12) (hm : ∀ c, c < n → σ 9 2 0 c = a c) {v2 : Int}
    (q : Q (some (vi (wkR P f a n).2.2)) σ) : ∀ (m : Nat) (i : Int), 0 ≤ i → i ≤ n → n < i + m → TT G w w w k (0, 0) 72 12 [some (vr 9 0 0), some (vr 1 0 0), some (vi v2), some (vi n), some (vi (wkR P f a i.toNat).2.2), some (vi (wkR P f a i.toNat).1), some (vi (wkR P f a i.toNat).2.1), some (vi i)] [] σ Q
  | 0, i, h0, h1, h2 => by omega
  | m + 1, i, h0, h1, h2 => by
    have ih := kc_wk_l R W hk hf hn ha hm (v2 := v2) q m (i + 1)
    have st : wkR P f a (i + 1).toNat = wkS P a i.toNat (wkR P f a i.toNat) := by unfold wkR; exact iter_toNat _ h0 _
    have stv : wkS P a i.toNat (wkR P f a i.toNat) = ((wkR P f a i.toNat).1 + farP P (wkR P f a i.toNat).2.1 (a i.toNat), a i.toNat, (wkR P f a i.toNat).2.2 + ((wkR P f a i.toNat).1 + farP P (wkR P f a i.toNat).2.1 (a i.toNat)) * P 7 (a i.toNat).toNat) := rfl
    rw [st, stv] at ih
    have rr := wk_r W hf i.toNat (by omega) (fun c hc => ha c (by omega))
    by_cases hi : i < n
    · have hai := ha i.toNat (by omega)
      have hmi := hm i.toNat (by omega)
      have rn := wk_r W hf (i + 1).toNat (by omega) (fun c hc => ha c (by omega))
      rw [st, stv] at rn
      revert ih rr rn
      generalize wkR P f a i.toNat = t
      intro ih rr rn
      obtain ⟨t1, t2, t3⟩ := rr
      obtain ⟨u1, u2, u3⟩ := rn
      have fr := farP_r W (a := t.2.1) (b := a i.toNat) t2 hai
      have x1 := R.xy W (a := t.2.1) t2
      have x2 := R.xy W (a := a i.toNat) hai
      have x3 := R.far_t (a := t.2.1) (b := a i.toNat) t2 hai
      have so := R.odds (h := (a i.toNat).toNat) (by omega)
      have od := (W.hs (n := (a i.toNat).toNat) (by omega)).2.2.2.2
      have m1 : 0 ≤ (t.1 + farP P t.2.1 (a i.toNat)) * P 7 (a i.toNat).toNat := Int.mul_nonneg (by omega) od.1
      have m2 : (t.1 + farP P t.2.1 (a i.toNat)) * P 7 (a i.toNat).toNat ≤ 1188 * 1000 := Int.mul_le_mul (by omega) od.2 od.1 (by omega)
      refine TT_vb ok72 (sm3_ok G w) 60 [12] ?_
      simp -implicitDefEqProofs only [↓b72_0, ↓b72_12, ↓b72_18, ↓b72_33, ↓b72_56, ↓b72_69, b72_0, b72_12, b72_18, b72_33, b72_56, b72_69, nLE1, layE6, layE4, hmi, x1, x2, x3, so, k3_51, r51, I32, ↓xb, xb, ps, lpad, lat, aok2, rd2, aaok, aav, alok, alen, aok, akk, csum, isLg, cmpI, clsE, Option.elim, eq_self, List.mem_cons, List.not_mem_nil, or_false, false_or, List.append_nil, List.nil_append, List.cons_append, List.append_eq, List.replicate, List.length_cons, List.length_nil, List.map_cons, List.map_nil, ↓reduceIte, reduceCtorEq, if_true, if_false, true_and, and_true, false_and, and_false, and_self, not_true_eq_false, not_false_eq_true, forall_const, true_implies, false_implies, implies_true, Nat.reduceAdd, Nat.reduceSub, Nat.reduceLT, Nat.reduceLeDiff, Nat.reduceEqDiff, Nat.reduceMul, Nat.reducePow, Nat.add_one_ne_zero, Nat.add_one_sub_one, Nat.add_zero, Nat.zero_add, Int.reduceLT, Int.reduceLE, Int.reduceNeg, Int.reduceAdd, Int.reduceSub, Int.reduceToNat, Int.reduceEq, Int.reduceMul, Int.reducePow, Int.cast_ofNat_Int, Int.toNat_natCast, ne_eq, Bool.false_eq_true, true_or, or_true, or_self, Nat.not_lt_zero, ite_e0, ite_e1, lc_lt, lc_ge, lc_gt, lc_le, lc_eq, Classical.not_not]
      generalize (t.1 + farP P t.2.1 (a i.toNat)) * P 7 (a i.toNat).toNat = mm at m1 m2 ih u3 ⊢
      with_reducible repeat' (first | (refine And.intro ?_ ?_) | intro _)
      all_goals try omega
      all_goals first | omega | exact ih (by omega) (by omega) (by omega)
    · have e : i = n := by omega
      have en : i.toNat = n := by omega
      rw [en]
      refine TT_vb ok72 (sm3_ok G w) 60 [12] ?_
      simp -implicitDefEqProofs only [↓b72_0, ↓b72_12, ↓b72_18, ↓b72_33, ↓b72_56, ↓b72_69, b72_0, b72_12, b72_18, b72_33, b72_56, b72_69, nLE1, layE6, layE4, hk, k3_51, r51, I32, ↓xb, xb, ps, lpad, lat, aok2, rd2, aaok, aav, alok, alen, aok, akk, csum, isLg, cmpI, clsE, Option.elim, eq_self, List.mem_cons, List.not_mem_nil, or_false, false_or, List.append_nil, List.nil_append, List.cons_append, List.append_eq, List.replicate, List.length_cons, List.length_nil, List.map_cons, List.map_nil, ↓reduceIte, reduceCtorEq, if_true, if_false, true_and, and_true, false_and, and_false, and_self, not_true_eq_false, not_false_eq_true, forall_const, true_implies, false_implies, implies_true, Nat.reduceAdd, Nat.reduceSub, Nat.reduceLT, Nat.reduceLeDiff, Nat.reduceEqDiff, Nat.reduceMul, Nat.reducePow, Nat.add_one_ne_zero, Nat.add_one_sub_one, Nat.add_zero, Nat.zero_add, Int.reduceLT, Int.reduceLE, Int.reduceNeg, Int.reduceAdd, Int.reduceSub, Int.reduceToNat, Int.reduceEq, Int.reduceMul, Int.reducePow, Int.cast_ofNat_Int, Int.toNat_natCast, ne_eq, Bool.false_eq_true, true_or, or_true, or_self, Nat.not_lt_zero, ite_e0, ite_e1, lc_lt, lc_ge, lc_gt, lc_le, lc_eq, Classical.not_not]
      with_reducible repeat' (first | (refine And.intro ?_ ?_) | intro _)
      all_goals try omega
      all_goals first | omega | exact q
set_option maxRecDepth 100000 in
set_option maxHeartbeats 1000000 in
theorem kc_wk (R : RT True σ 1 P) (W : WF P) (hk : 8 ≤ k) {f : Int} (hf : 0 ≤ f ∧ f < 12) {n : Nat} (hn : n ≤ 6) {a : Nat → Int} (ha : ∀ c, c < n → 0 ≤ a c ∧ a c < 12) (hm : ∀ c, c < n → σ 9 2 0 c = a c)
    (q : Q (some (vi (wkR P f a n).2.2)) σ) : CC G w w k (0, 0) 72 [vr 9 0 0, vr 1 0 0, vi f, vi n] σ Q := by
  refine CC_vb ok72 (by decide) (sm3_ok G w) 60 [12] (Nat.le_of_ble_eq_true rfl) ?_
  simp -implicitDefEqProofs only [↓b72_0, ↓b72_12, ↓b72_18, ↓b72_33, ↓b72_56, ↓b72_69, b72_0, b72_12, b72_18, b72_33, b72_56, b72_69, nLE1, layE6, layE4, hk, k3_51, r51, I32, ↓xb, xb, ps, lpad, lat, aok2, rd2, aaok, aav, alok, alen, aok, akk, csum, isLg, cmpI, clsE, Option.elim, eq_self, List.mem_cons, List.not_mem_nil, or_false, false_or, List.append_nil, List.nil_append, List.cons_append, List.append_eq, List.replicate, List.length_cons, List.length_nil, List.map_cons, List.map_nil, ↓reduceIte, reduceCtorEq, if_true, if_false, true_and, and_true, false_and, and_false, and_self, not_true_eq_false, not_false_eq_true, forall_const, true_implies, false_implies, implies_true, Nat.reduceAdd, Nat.reduceSub, Nat.reduceLT, Nat.reduceLeDiff, Nat.reduceEqDiff, Nat.reduceMul, Nat.reducePow, Nat.add_one_ne_zero, Nat.add_one_sub_one, Nat.add_zero, Nat.zero_add, Int.reduceLT, Int.reduceLE, Int.reduceNeg, Int.reduceAdd, Int.reduceSub, Int.reduceToNat, Int.reduceEq, Int.reduceMul, Int.reducePow, Int.cast_ofNat_Int, Int.toNat_natCast, ne_eq, Bool.false_eq_true, true_or, or_true, or_self, Nat.not_lt_zero, ite_e0, ite_e1, lc_lt, lc_ge, lc_gt, lc_le, lc_eq, Classical.not_not]
  with_reducible repeat' (first | (refine And.intro ?_ ?_) | intro _)
  all_goals try omega
  all_goals first | omega | exact kc_wk_l R W hk hf hn ha hm q 7 0 (by omega) (by omega) (by omega)
end DRS

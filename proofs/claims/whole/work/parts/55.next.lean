/-! 55.next: the next order (both) (by wip/gen/gen55.py) -/
theorem pt_le {a : Nat → Int} : ∀ j : Nat, ptF a j ≤ j
  | 0 => Nat.le_refl 0
  | j + 1 => by
    have ih := pt_le (a := a) j
    show (if a j > a (j + 1) then ptF a j else j + 1) ≤ j + 1
    split <;> omega
theorem ot_r {a : Nat → Int} {p : Nat} : ∀ j : Nat, p ≤ j → otF a p j ≤ j ∧ p ≤ otF a p j
  | 0, h => ⟨Nat.le_refl 0, h⟩
  | j + 1, h => by
    show (if p < j + 1 ∧ a (j + 1) < a p then otF a p j else j + 1) ≤ j + 1 ∧ p ≤ (if p < j + 1 ∧ a (j + 1) < a p then otF a p j else j + 1)
    split
    · have ih := ot_r (a := a) (p := p) j (by omega)
      omega
    · omega
def SRel (S : Int → Int → Prop) : Prop := ∀ x y x' y', S x y → S x' y' → (x < x' ↔ y < y')
theorem pt_rel {S : Int → Int → Prop} (hS : SRel S) {a b : Nat → Int} : ∀ j : Nat, (∀ i, i ≤ j → S (a i) (b i)) → ptF a j = ptF b j
  | 0, _ => rfl
  | j + 1, h => by
    have ih := pt_rel hS j (fun i hi => h i (by omega))
    show (if a j > a (j + 1) then ptF a j else j + 1) = (if b j > b (j + 1) then ptF b j else j + 1)
    have e := hS _ _ _ _ (h (j + 1) (by omega)) (h j (by omega))
    by_cases c : b (j + 1) < b j
    · rw [if_pos (e.mpr c), if_pos c, ih]
    · rw [if_neg (fun z => c (e.mp z)), if_neg c]
theorem ot_rel {S : Int → Int → Prop} (hS : SRel S) {a b : Nat → Int} {p n : Nat} (h : ∀ i, i < n → S (a i) (b i)) (hp : p < n) : ∀ j : Nat, j < n → otF a p j = otF b p j
  | 0, _ => rfl
  | j + 1, hj => by
    have ih := ot_rel hS h hp j (by omega)
    show (if p < j + 1 ∧ a (j + 1) < a p then otF a p j else j + 1) = (if p < j + 1 ∧ b (j + 1) < b p then otF b p j else j + 1)
    have e := hS _ _ _ _ (h (j + 1) hj) (h p hp)
    by_cases c : p < j + 1 ∧ b (j + 1) < b p
    · rw [if_pos ⟨c.1, e.mpr c.2⟩, if_pos c, ih]
    · rw [if_neg (fun z => c ⟨z.1, e.mp z.2⟩), if_neg c]
theorem sw_rel {S : Int → Int → Prop} {a b : Nat → Int} {n i j : Nat} (h : ∀ i, i < n → S (a i) (b i)) (hi : i < n) (hj : j < n) : ∀ c, c < n → S (swF a i j c) (swF b i j c) := fun c hc => by
  unfold swF
  split
  · exact h i hi
  · split
    · exact h j hj
    · exact h c hc
theorem rv_rel {S : Int → Int → Prop} {n : Nat} : ∀ (m i j : Nat) (a b : Nat → Int), (∀ i, i < n → S (a i) (b i)) → j < n → ∀ c, c < n → S (rvF m i j a c) (rvF m i j b c)
  | 0, i, j, a, b, h, _, c, hc => h c hc
  | m + 1, i, j, a, b, h, hj, c, hc => by
    show S ((if i < j then rvF m (i + 1) (j - 1) (swF a i j) else a) c) ((if i < j then rvF m (i + 1) (j - 1) (swF b i j) else b) c)
    split
    · exact rv_rel m (i + 1) (j - 1) _ _ (sw_rel h (by omega) hj) (by omega) c hc
    · exact h c hc
theorem nx_rel {S : Int → Int → Prop} (hS : SRel S) {a b : Nat → Int} {n : Nat} (hn : 1 ≤ n) (h : ∀ i, i < n → S (a i) (b i)) : ∀ c, c < n → S (nxF n a c) (nxF n b c) := fun c hc => by
  have e1 := pt_rel hS (n - 1) (fun i hi => h i (by omega))
  have l1 := pt_le (a := b) (n - 1)
  have e2 := ot_rel hS h (p := ptF b (n - 1) - 1) (by omega) (n - 1) (by omega)
  have l2 := ot_r (a := b) (p := ptF b (n - 1) - 1) (n - 1) (by omega)
  unfold nxF
  rw [e1, e2]
  exact rv_rel 6 _ _ _ _ (sw_rel h (by omega) (by omega)) (by omega) c hc
theorem sw_8 {b : Nat → Int} {i j : Nat} (h : ∀ i, 0 ≤ b i ∧ b i < 8) : ∀ c, 0 ≤ swF b i j c ∧ swF b i j c < 8 := fun c => by
  unfold swF
  (repeat' split) <;> exact h _
theorem rv_8 : ∀ (m i j : Nat) (b : Nat → Int), (∀ i, 0 ≤ b i ∧ b i < 8) → ∀ c, 0 ≤ rvF m i j b c ∧ rvF m i j b c < 8
  | 0, i, j, b, h, c => h c
  | m + 1, i, j, b, h, c => by
    show 0 ≤ (if i < j then rvF m (i + 1) (j - 1) (swF b i j) else b) c ∧ (if i < j then rvF m (i + 1) (j - 1) (swF b i j) else b) c < 8
    split
    · exact rv_8 m _ _ _ (sw_8 h) c
    · exact h c
theorem dc_ec {b : Nat → Int} (h : ∀ i, 0 ≤ b i ∧ b i < 8) {i : Nat} (hi : i < 6) : (dcN (ecN b) i : Int) = b i := by
  have h0 := h 0; have h1 := h 1; have h2 := h 2; have h3 := h 3; have h4 := h 4; have h5 := h 5
  have e : i = 0 ∨ i = 1 ∨ i = 2 ∨ i = 3 ∨ i = 4 ∨ i = 5 := by omega
  unfold dcN ecN
  rcases e with rfl | rfl | rfl | rfl | rfl | rfl <;> simp only [Nat.reducePow] <;> omega
theorem rn_tm {S : Int → Int → Prop} (hS : SRel S) {n : Nat} (hn : 1 ≤ n ∧ n ≤ 6) : ∀ (m c : Nat) (a : Nat → Int), (∀ i, i < n → S (a i) (dcN c i : Int)) → rnB n m c = true → Tm n m a
  | 0, c, a, h, z => by
    have e := pt_rel hS (n - 1) (fun i hi => h i (by omega))
    exact e.trans (of_decide_eq_true z)
  | m + 1, c, a, h, z => by
    have e := pt_rel hS (n - 1) (fun i hi => h i (by omega))
    by_cases p : ptF (fun i => (dcN c i : Int)) (n - 1) = 0
    · exact Or.inl (e.trans p)
    · have z' : (if ptF (fun i => (dcN c i : Int)) (n - 1) = 0 then true else rnB n m (ecN (nxF n (fun i => (dcN c i : Int))))) = true := z
      rw [if_neg p] at z'
      have r := nx_rel hS (b := fun i => (dcN c i : Int)) hn.1 h
      have d8 : ∀ i, 0 ≤ nxF n (fun i => (dcN c i : Int)) i ∧ nxF n (fun i => (dcN c i : Int)) i < 8 := rv_8 _ _ _ _ (sw_8 (fun i => by unfold dcN; omega))
      exact Or.inr (rn_tm hS hn m _ _ (fun i hi => by rw [dc_ec d8 (by omega)]; exact r i hi) z')
theorem Tm_up {n : Nat} {a : Nat → Int} (hn : n ≤ 6) (h : ∀ i j, i < j → j < n → a i < a j) : Tm n 719 a := by
  by_cases n0 : n = 0
  · subst n0
    exact Or.inl rfl
  · have mono : ∀ i j, i < n → j < n → (a i < a j ↔ (i : Int) < j) := fun i j hi hj => by
      rcases Nat.lt_trichotomy i j with l | l | l
      · exact ⟨fun _ => by omega, fun _ => h i j l hj⟩
      · subst l; constructor <;> intro z <;> omega
      · have := h j i l hi
        constructor <;> intro z <;> omega
    refine rn_tm (S := fun x y => ∃ i : Nat, i < n ∧ x = a i ∧ y = i) ?_ ⟨by omega, hn⟩ 719 _ a (fun i hi => ⟨i, hi, rfl, ?_⟩) (rn_all n (by omega))
    · rintro x y x' y' ⟨i, hi, rfl, rfl⟩ ⟨j, hj, rfl, rfl⟩
      exact mono i j hi hj
    · have e : i = 0 ∨ i = 1 ∨ i = 2 ∨ i = 3 ∨ i = 4 ∨ i = 5 := by omega
      rcases e with rfl | rfl | rfl | rfl | rfl | rfl <;> rfl
section NXT
variable {G : Gl} {w : Wd} {k : Nat} {σ : Mem} {Q : Option AV → Mem → Prop}
theorem sw_mem {σ : Mem} {ob f : Nat} {i j : Int} : (fun c => up (up σ ob f 0 i.toNat (σ ob f 0 j.toNat)) ob f 0 j.toNat (σ ob f 0 i.toNat) ob f 0 c) = swF (fun c => σ ob f 0 c) i.toNat j.toNat := by
  funext c
  unfold swF
  simp only [up_rd, true_and]
  
abbrev S92 : Nat → Nat → Bool := fun o f => o == 9 && f == 2
set_option maxRecDepth 100000 in
set_option maxHeartbeats 1000000 in
theorem kc_sw (hk : 6 ≤ k) {i j : Int} (hi : 0 ≤ i ∧ i < 6) (hj : 0 ≤ j ∧ j < 6) (q : Q none (up (up σ 9 2 0 i.toNat (σ 9 2 0 j.toNat)) 9 2 0 j.toNat (σ 9 2 0 i.toNat))) : CC G w w k (0, 0) 74 [vr 9 0 0, vi i, vi j] σ Q := by
  refine CC_vb ok74 (by decide) (sm3_ok G w) 60 [] (Nat.le_of_ble_eq_true rfl) ?_
  simp -implicitDefEqProofs only [↓b74_0, b74_0, nLE1, layE6, layE4, up_rd, I32, ↓xb, xb, ps, lpad, lat, aok2, rd2, aaok, aav, alok, alen, aok, akk, csum, isLg, cmpI, clsE, Option.elim, eq_self, List.mem_cons, List.not_mem_nil, or_false, false_or, List.append_nil, List.nil_append, List.cons_append, List.append_eq, List.replicate, List.length_cons, List.length_nil, List.map_cons, List.map_nil, ↓reduceIte, reduceCtorEq, if_true, if_false, true_and, and_true, false_and, and_false, and_self, not_true_eq_false, not_false_eq_true, forall_const, true_implies, false_implies, implies_true, Nat.reduceAdd, Nat.reduceSub, Nat.reduceLT, Nat.reduceLeDiff, Nat.reduceEqDiff, Nat.reduceMul, Nat.reducePow, Nat.add_one_ne_zero, Nat.add_one_sub_one, Nat.add_zero, Nat.zero_add, Int.reduceLT, Int.reduceLE, Int.reduceNeg, Int.reduceAdd, Int.reduceSub, Int.reduceToNat, Int.reduceEq, Int.reduceMul, Int.reducePow, Int.cast_ofNat_Int, Int.toNat_natCast, ne_eq, Bool.false_eq_true, true_or, or_true, or_self, Nat.not_lt_zero, ite_e0, ite_e1, lc_lt, lc_ge, lc_gt, lc_le, lc_eq, Classical.not_not]
  with_reducible repeat' (first | (refine And.intro ?_ ?_) | intro _)
  all_goals try omega
  all_goals first | omega | exact q
set_option maxRecDepth 100000 in
set_option maxHeartbeats 1000000 in
theorem kc_nx_p (hk : 8 ≤ k) {n : Nat} (hn : n ≤ 6) {l3 l4 l5 : Option AV} (q : TT G w w w k (0, 0) 73 31 [some (vr 9 0 0), some (vi n), some (vi ((ptF (fun c => σ 9 2 0 c) (n - 1) : Nat) - 1 : Int)), l3, l4, l5] [] σ Q) :
    ∀ (i : Nat), i ≤ n - 1 → ptF (fun c => σ 9 2 0 c) (n - 1) = ptF (fun c => σ 9 2 0 c) i → TT G w w w k (0, 0) 73 4 [some (vr 9 0 0), some (vi n), some (vi ((i : Int) - 1)), l3, l4, l5] [] σ Q
  | 0, h1, hp => by
    have e : ptF (fun c => σ 9 2 0 c) (n - 1) = 0 := hp
    rw [e] at q
    refine TT_vb ok73 (sm3_ok G w) 60 [4, 31] ?_
    simp -implicitDefEqProofs only [↓b73_0, ↓b73_4, ↓b73_8, ↓b73_25, ↓b73_31, ↓b73_35, ↓b73_37, ↓b73_41, ↓b73_46, ↓b73_61, ↓b73_67, ↓b73_73, ↓b73_83, ↓b73_90, ↓b73_98, ↓b73_107, b73_0, b73_4, b73_8, b73_25, b73_31, b73_35, b73_37, b73_41, b73_46, b73_61, b73_67, b73_73, b73_83, b73_90, b73_98, b73_107, nLE1, layE6, layE4, hk, n3_74, I32, ↓xb, xb, ps, lpad, lat, aok2, rd2, aaok, aav, alok, alen, aok, akk, csum, isLg, cmpI, clsE, Option.elim, eq_self, List.mem_cons, List.not_mem_nil, or_false, false_or, List.append_nil, List.nil_append, List.cons_append, List.append_eq, List.replicate, List.length_cons, List.length_nil, List.map_cons, List.map_nil, ↓reduceIte, reduceCtorEq, if_true, if_false, true_and, and_true, false_and, and_false, and_self, not_true_eq_false, not_false_eq_true, forall_const, true_implies, false_implies, implies_true, Nat.reduceAdd, Nat.reduceSub, Nat.reduceLT, Nat.reduceLeDiff, Nat.reduceEqDiff, Nat.reduceMul, Nat.reducePow, Nat.add_one_ne_zero, Nat.add_one_sub_one, Nat.add_zero, Nat.zero_add, Int.reduceLT, Int.reduceLE, Int.reduceNeg, Int.reduceAdd, Int.reduceSub, Int.reduceToNat, Int.reduceEq, Int.reduceMul, Int.reducePow, Int.cast_ofNat_Int, Int.toNat_natCast, ne_eq, Bool.false_eq_true, true_or, or_true, or_self, Nat.not_lt_zero, ite_e0, ite_e1, lc_lt, lc_ge, lc_gt, lc_le, lc_eq, Classical.not_not]
    with_reducible repeat' (first | (refine And.intro ?_ ?_) | intro _)
    all_goals try omega
    all_goals first | omega | exact q
  | i + 1, h1, hp => by
    have ih := kc_nx_p hk hn q i (by omega)
    have e : ptF (fun c => σ 9 2 0 c) (n - 1) = if σ 9 2 0 i > σ 9 2 0 (i + 1) then ptF (fun c => σ 9 2 0 c) i else i + 1 := hp
    have e1 : ((i + 1 : Nat) : Int) - 1 = (i : Int) := by omega
    rw [e1]
    refine TT_vb ok73 (sm3_ok G w) 60 [4, 31] ?_
    simp -implicitDefEqProofs only [↓b73_0, ↓b73_4, ↓b73_8, ↓b73_25, ↓b73_31, ↓b73_35, ↓b73_37, ↓b73_41, ↓b73_46, ↓b73_61, ↓b73_67, ↓b73_73, ↓b73_83, ↓b73_90, ↓b73_98, ↓b73_107, b73_0, b73_4, b73_8, b73_25, b73_31, b73_35, b73_37, b73_41, b73_46, b73_61, b73_67, b73_73, b73_83, b73_90, b73_98, b73_107, nLE1, layE6, layE4, hk, n3_74, I32, ↓xb, xb, ps, lpad, lat, aok2, rd2, aaok, aav, alok, alen, aok, akk, csum, isLg, cmpI, clsE, Option.elim, eq_self, List.mem_cons, List.not_mem_nil, or_false, false_or, List.append_nil, List.nil_append, List.cons_append, List.append_eq, List.replicate, List.length_cons, List.length_nil, List.map_cons, List.map_nil, ↓reduceIte, reduceCtorEq, if_true, if_false, true_and, and_true, false_and, and_false, and_self, not_true_eq_false, not_false_eq_true, forall_const, true_implies, false_implies, implies_true, Nat.reduceAdd, Nat.reduceSub, Nat.reduceLT, Nat.reduceLeDiff, Nat.reduceEqDiff, Nat.reduceMul, Nat.reducePow, Nat.add_one_ne_zero, Nat.add_one_sub_one, Nat.add_zero, Nat.zero_add, Int.reduceLT, Int.reduceLE, Int.reduceNeg, Int.reduceAdd, Int.reduceSub, Int.reduceToNat, Int.reduceEq, Int.reduceMul, Int.reducePow, Int.cast_ofNat_Int, Int.toNat_natCast, ne_eq, Bool.false_eq_true, true_or, or_true, or_self, Nat.not_lt_zero, ite_e0, ite_e1, lc_lt, lc_ge, lc_gt, lc_le, lc_eq, Classical.not_not]
    with_reducible repeat' (first | (refine And.intro ?_ ?_) | intro _)
    all_goals try omega
    all_goals first | omega | skip
    · rename_i c
      have c' : ¬ σ 9 2 0 i > σ 9 2 0 (i + 1) := by
        have z := c
        rw [show ((i : Int) + 1).toNat = i + 1 by omega] at z
        omega
      rw [if_neg c'] at e
      rw [e] at q
      rw [show ((i + 1 : Nat) : Int) - 1 = (i : Int) by omega] at q
      exact q
    · rename_i c
      have c' : σ 9 2 0 i > σ 9 2 0 (i + 1) := by
        have z := c
        rw [show ((i : Int) + 1).toNat = i + 1 by omega] at z
        omega
      rw [if_pos c'] at e
      exact ih e
set_option maxRecDepth 100000 in
set_option maxHeartbeats 1000000 in
theorem kc_nx_o (hk : 8 ≤ k) {n p : Nat} (hn : n ≤ 6) (hp : p < n) {l4 l5 : Option AV} (q : TT G w w w k (0, 0) 73 67 [some (vr 9 0 0), some (vi n), some (vi p), some (vi (otF (fun c => σ 9 2 0 c) p (n - 1) : Nat)), l4, l5] [] σ Q) :
    ∀ (j : Nat), j ≤ n - 1 → p ≤ j → otF (fun c => σ 9 2 0 c) p (n - 1) = otF (fun c => σ 9 2 0 c) p j → TT G w w w k (0, 0) 73 41 [some (vr 9 0 0), some (vi n), some (vi p), some (vi j), l4, l5] [] σ Q
  | 0, h1, h2, he => by
    have e : otF (fun c => σ 9 2 0 c) p (n - 1) = 0 := he
    rw [e] at q
    have p0 : p = 0 := by omega
    subst p0
    refine TT_vb ok73 (sm3_ok G w) 60 [41, 67] ?_
    simp -implicitDefEqProofs only [↓b73_0, ↓b73_4, ↓b73_8, ↓b73_25, ↓b73_31, ↓b73_35, ↓b73_37, ↓b73_41, ↓b73_46, ↓b73_61, ↓b73_67, ↓b73_73, ↓b73_83, ↓b73_90, ↓b73_98, ↓b73_107, b73_0, b73_4, b73_8, b73_25, b73_31, b73_35, b73_37, b73_41, b73_46, b73_61, b73_67, b73_73, b73_83, b73_90, b73_98, b73_107, nLE1, layE6, layE4, hk, n3_74, I32, ↓xb, xb, ps, lpad, lat, aok2, rd2, aaok, aav, alok, alen, aok, akk, csum, isLg, cmpI, clsE, Option.elim, eq_self, List.mem_cons, List.not_mem_nil, or_false, false_or, List.append_nil, List.nil_append, List.cons_append, List.append_eq, List.replicate, List.length_cons, List.length_nil, List.map_cons, List.map_nil, ↓reduceIte, reduceCtorEq, if_true, if_false, true_and, and_true, false_and, and_false, and_self, not_true_eq_false, not_false_eq_true, forall_const, true_implies, false_implies, implies_true, Nat.reduceAdd, Nat.reduceSub, Nat.reduceLT, Nat.reduceLeDiff, Nat.reduceEqDiff, Nat.reduceMul, Nat.reducePow, Nat.add_one_ne_zero, Nat.add_one_sub_one, Nat.add_zero, Nat.zero_add, Int.reduceLT, Int.reduceLE, Int.reduceNeg, Int.reduceAdd, Int.reduceSub, Int.reduceToNat, Int.reduceEq, Int.reduceMul, Int.reducePow, Int.cast_ofNat_Int, Int.toNat_natCast, ne_eq, Bool.false_eq_true, true_or, or_true, or_self, Nat.not_lt_zero, ite_e0, ite_e1, lc_lt, lc_ge, lc_gt, lc_le, lc_eq, Classical.not_not]
    with_reducible repeat' (first | (refine And.intro ?_ ?_) | intro _)
    all_goals try omega
    all_goals first | omega | exact q
  | j + 1, h1, h2, he => by
    have ih := kc_nx_o hk hn hp q j (by omega)
    have e : otF (fun c => σ 9 2 0 c) p (n - 1) = if p < j + 1 ∧ σ 9 2 0 (j + 1) < σ 9 2 0 p then otF (fun c => σ 9 2 0 c) p j else j + 1 := he
    by_cases c : p < j + 1 ∧ σ 9 2 0 (j + 1) < σ 9 2 0 p
    · rw [if_pos c] at e
      refine TT_vb ok73 (sm3_ok G w) 60 [41, 67] ?_
      simp -implicitDefEqProofs only [↓b73_0, ↓b73_4, ↓b73_8, ↓b73_25, ↓b73_31, ↓b73_35, ↓b73_37, ↓b73_41, ↓b73_46, ↓b73_61, ↓b73_67, ↓b73_73, ↓b73_83, ↓b73_90, ↓b73_98, ↓b73_107, b73_0, b73_4, b73_8, b73_25, b73_31, b73_35, b73_37, b73_41, b73_46, b73_61, b73_67, b73_73, b73_83, b73_90, b73_98, b73_107, nLE1, layE6, layE4, hk, n3_74, I32, ↓xb, xb, ps, lpad, lat, aok2, rd2, aaok, aav, alok, alen, aok, akk, csum, isLg, cmpI, clsE, Option.elim, eq_self, List.mem_cons, List.not_mem_nil, or_false, false_or, List.append_nil, List.nil_append, List.cons_append, List.append_eq, List.replicate, List.length_cons, List.length_nil, List.map_cons, List.map_nil, ↓reduceIte, reduceCtorEq, if_true, if_false, true_and, and_true, false_and, and_false, and_self, not_true_eq_false, not_false_eq_true, forall_const, true_implies, false_implies, implies_true, Nat.reduceAdd, Nat.reduceSub, Nat.reduceLT, Nat.reduceLeDiff, Nat.reduceEqDiff, Nat.reduceMul, Nat.reducePow, Nat.add_one_ne_zero, Nat.add_one_sub_one, Nat.add_zero, Nat.zero_add, Int.reduceLT, Int.reduceLE, Int.reduceNeg, Int.reduceAdd, Int.reduceSub, Int.reduceToNat, Int.reduceEq, Int.reduceMul, Int.reducePow, Int.cast_ofNat_Int, Int.toNat_natCast, ne_eq, Bool.false_eq_true, true_or, or_true, or_self, Nat.not_lt_zero, ite_e0, ite_e1, lc_lt, lc_ge, lc_gt, lc_le, lc_eq, Classical.not_not]
      with_reducible repeat' (first | (refine And.intro ?_ ?_) | intro _)
      all_goals try omega
      all_goals first | omega | (rw [show ((j + 1 : Nat) : Int) + -1 = (j : Int) by omega]; exact ih (by omega) e)
    · rw [if_neg c] at e
      rw [e] at q
      by_cases ep : p = j + 1
      · subst ep
        refine TT_vb ok73 (sm3_ok G w) 60 [41, 67] ?_
        simp -implicitDefEqProofs only [↓b73_0, ↓b73_4, ↓b73_8, ↓b73_25, ↓b73_31, ↓b73_35, ↓b73_37, ↓b73_41, ↓b73_46, ↓b73_61, ↓b73_67, ↓b73_73, ↓b73_83, ↓b73_90, ↓b73_98, ↓b73_107, b73_0, b73_4, b73_8, b73_25, b73_31, b73_35, b73_37, b73_41, b73_46, b73_61, b73_67, b73_73, b73_83, b73_90, b73_98, b73_107, nLE1, layE6, layE4, hk, n3_74, I32, ↓xb, xb, ps, lpad, lat, aok2, rd2, aaok, aav, alok, alen, aok, akk, csum, isLg, cmpI, clsE, Option.elim, eq_self, List.mem_cons, List.not_mem_nil, or_false, false_or, List.append_nil, List.nil_append, List.cons_append, List.append_eq, List.replicate, List.length_cons, List.length_nil, List.map_cons, List.map_nil, ↓reduceIte, reduceCtorEq, if_true, if_false, true_and, and_true, false_and, and_false, and_self, not_true_eq_false, not_false_eq_true, forall_const, true_implies, false_implies, implies_true, Nat.reduceAdd, Nat.reduceSub, Nat.reduceLT, Nat.reduceLeDiff, Nat.reduceEqDiff, Nat.reduceMul, Nat.reducePow, Nat.add_one_ne_zero, Nat.add_one_sub_one, Nat.add_zero, Nat.zero_add, Int.reduceLT, Int.reduceLE, Int.reduceNeg, Int.reduceAdd, Int.reduceSub, Int.reduceToNat, Int.reduceEq, Int.reduceMul, Int.reducePow, Int.cast_ofNat_Int, Int.toNat_natCast, ne_eq, Bool.false_eq_true, true_or, or_true, or_self, Nat.not_lt_zero, ite_e0, ite_e1, lc_lt, lc_ge, lc_gt, lc_le, lc_eq, Classical.not_not]
        with_reducible repeat' (first | (refine And.intro ?_ ?_) | intro _)
        all_goals try omega
        all_goals first | omega | exact q
      · have c' : ¬ σ 9 2 0 (j + 1) < σ 9 2 0 p := fun z => c ⟨by omega, z⟩
        refine TT_vb ok73 (sm3_ok G w) 60 [41, 67] ?_
        simp -implicitDefEqProofs only [↓b73_0, ↓b73_4, ↓b73_8, ↓b73_25, ↓b73_31, ↓b73_35, ↓b73_37, ↓b73_41, ↓b73_46, ↓b73_61, ↓b73_67, ↓b73_73, ↓b73_83, ↓b73_90, ↓b73_98, ↓b73_107, b73_0, b73_4, b73_8, b73_25, b73_31, b73_35, b73_37, b73_41, b73_46, b73_61, b73_67, b73_73, b73_83, b73_90, b73_98, b73_107, nLE1, layE6, layE4, hk, n3_74, I32, ↓xb, xb, ps, lpad, lat, aok2, rd2, aaok, aav, alok, alen, aok, akk, csum, isLg, cmpI, clsE, Option.elim, eq_self, List.mem_cons, List.not_mem_nil, or_false, false_or, List.append_nil, List.nil_append, List.cons_append, List.append_eq, List.replicate, List.length_cons, List.length_nil, List.map_cons, List.map_nil, ↓reduceIte, reduceCtorEq, if_true, if_false, true_and, and_true, false_and, and_false, and_self, not_true_eq_false, not_false_eq_true, forall_const, true_implies, false_implies, implies_true, Nat.reduceAdd, Nat.reduceSub, Nat.reduceLT, Nat.reduceLeDiff, Nat.reduceEqDiff, Nat.reduceMul, Nat.reducePow, Nat.add_one_ne_zero, Nat.add_one_sub_one, Nat.add_zero, Nat.zero_add, Int.reduceLT, Int.reduceLE, Int.reduceNeg, Int.reduceAdd, Int.reduceSub, Int.reduceToNat, Int.reduceEq, Int.reduceMul, Int.reducePow, Int.cast_ofNat_Int, Int.toNat_natCast, ne_eq, Bool.false_eq_true, true_or, or_true, or_self, Nat.not_lt_zero, ite_e0, ite_e1, lc_lt, lc_ge, lc_gt, lc_le, lc_eq, Classical.not_not]
        with_reducible repeat' (first | (refine And.intro ?_ ?_) | intro _)
        all_goals try omega
        all_goals first | omega | exact q
set_option maxRecDepth 100000 in
set_option maxHeartbeats 1000000 in
theorem kc_nx_r (hk : 8 ≤ k) {n : Nat} (hn : n ≤ 6) {l2 : Option AV} {v3 : Int} {b : Nat → Int} (q : ∀ σ', (∀ c, σ' 9 2 0 c = b c) → same S92 σ σ' → Q (some (vi 1)) σ') :
    ∀ (m : Nat) (i j : Nat) (σ' : Mem), j < i + 2 * m → j < n → b = rvF m i j (fun c => σ' 9 2 0 c) → same S92 σ σ' → TT G w w w k (0, 0) 73 83 [some (vr 9 0 0), some (vi n), l2, some (vi v3), some (vi i), some (vi j)] [] σ' Q
  | 0, i, j, σ', h1, h2, e, hs => by
    have e' : b = fun c => σ' 9 2 0 c := e
    refine TT_vb ok73 (sm3_ok G w) 60 [83] ?_
    simp -implicitDefEqProofs only [↓b73_0, ↓b73_4, ↓b73_8, ↓b73_25, ↓b73_31, ↓b73_35, ↓b73_37, ↓b73_41, ↓b73_46, ↓b73_61, ↓b73_67, ↓b73_73, ↓b73_83, ↓b73_90, ↓b73_98, ↓b73_107, b73_0, b73_4, b73_8, b73_25, b73_31, b73_35, b73_37, b73_41, b73_46, b73_61, b73_67, b73_73, b73_83, b73_90, b73_98, b73_107, nLE1, layE6, layE4, hk, n3_74, I32, ↓xb, xb, ps, lpad, lat, aok2, rd2, aaok, aav, alok, alen, aok, akk, csum, isLg, cmpI, clsE, Option.elim, eq_self, List.mem_cons, List.not_mem_nil, or_false, false_or, List.append_nil, List.nil_append, List.cons_append, List.append_eq, List.replicate, List.length_cons, List.length_nil, List.map_cons, List.map_nil, ↓reduceIte, reduceCtorEq, if_true, if_false, true_and, and_true, false_and, and_false, and_self, not_true_eq_false, not_false_eq_true, forall_const, true_implies, false_implies, implies_true, Nat.reduceAdd, Nat.reduceSub, Nat.reduceLT, Nat.reduceLeDiff, Nat.reduceEqDiff, Nat.reduceMul, Nat.reducePow, Nat.add_one_ne_zero, Nat.add_one_sub_one, Nat.add_zero, Nat.zero_add, Int.reduceLT, Int.reduceLE, Int.reduceNeg, Int.reduceAdd, Int.reduceSub, Int.reduceToNat, Int.reduceEq, Int.reduceMul, Int.reducePow, Int.cast_ofNat_Int, Int.toNat_natCast, ne_eq, Bool.false_eq_true, true_or, or_true, or_self, Nat.not_lt_zero, ite_e0, ite_e1, lc_lt, lc_ge, lc_gt, lc_le, lc_eq, Classical.not_not]
    with_reducible repeat' (first | (refine And.intro ?_ ?_) | intro _)
    all_goals try omega
    all_goals first | omega | exact q σ' (fun c => (congrFun e' c).symm) hs
  | m + 1, i, j, σ', h1, h2, e, hs => by
    have ih := kc_nx_r hk hn (l2 := l2) (v3 := v3) q m (i + 1) (j - 1)
    have e' : b = if i < j then rvF m (i + 1) (j - 1) (swF (fun c => σ' 9 2 0 c) i j) else (fun c => σ' 9 2 0 c) := e
    by_cases c : i < j
    · rw [if_pos c] at e'
      refine TT_vb ok73 (sm3_ok G w) 60 [83] ?_
      simp -implicitDefEqProofs only [↓b73_0, ↓b73_4, ↓b73_8, ↓b73_25, ↓b73_31, ↓b73_35, ↓b73_37, ↓b73_41, ↓b73_46, ↓b73_61, ↓b73_67, ↓b73_73, ↓b73_83, ↓b73_90, ↓b73_98, ↓b73_107, b73_0, b73_4, b73_8, b73_25, b73_31, b73_35, b73_37, b73_41, b73_46, b73_61, b73_67, b73_73, b73_83, b73_90, b73_98, b73_107, nLE1, layE6, layE4, hk, n3_74, I32, ↓xb, xb, ps, lpad, lat, aok2, rd2, aaok, aav, alok, alen, aok, akk, csum, isLg, cmpI, clsE, Option.elim, eq_self, List.mem_cons, List.not_mem_nil, or_false, false_or, List.append_nil, List.nil_append, List.cons_append, List.append_eq, List.replicate, List.length_cons, List.length_nil, List.map_cons, List.map_nil, ↓reduceIte, reduceCtorEq, if_true, if_false, true_and, and_true, false_and, and_false, and_self, not_true_eq_false, not_false_eq_true, forall_const, true_implies, false_implies, implies_true, Nat.reduceAdd, Nat.reduceSub, Nat.reduceLT, Nat.reduceLeDiff, Nat.reduceEqDiff, Nat.reduceMul, Nat.reducePow, Nat.add_one_ne_zero, Nat.add_one_sub_one, Nat.add_zero, Nat.zero_add, Int.reduceLT, Int.reduceLE, Int.reduceNeg, Int.reduceAdd, Int.reduceSub, Int.reduceToNat, Int.reduceEq, Int.reduceMul, Int.reducePow, Int.cast_ofNat_Int, Int.toNat_natCast, ne_eq, Bool.false_eq_true, true_or, or_true, or_self, Nat.not_lt_zero, ite_e0, ite_e1, lc_lt, lc_ge, lc_gt, lc_le, lc_eq, Classical.not_not]
      with_reducible repeat' (first | (refine And.intro ?_ ?_) | intro _)
      all_goals try omega
      all_goals first | omega | skip
      refine kc_sw (by omega) (by omega) (by omega) ?_
      simp -implicitDefEqProofs only [↓b73_0, ↓b73_4, ↓b73_8, ↓b73_25, ↓b73_31, ↓b73_35, ↓b73_37, ↓b73_41, ↓b73_46, ↓b73_61, ↓b73_67, ↓b73_73, ↓b73_83, ↓b73_90, ↓b73_98, ↓b73_107, b73_0, b73_4, b73_8, b73_25, b73_31, b73_35, b73_37, b73_41, b73_46, b73_61, b73_67, b73_73, b73_83, b73_90, b73_98, b73_107, nLE1, layE6, layE4, hk, n3_74, I32, ↓xb, xb, ps, lpad, lat, aok2, rd2, aaok, aav, alok, alen, aok, akk, csum, isLg, cmpI, clsE, Option.elim, eq_self, List.mem_cons, List.not_mem_nil, or_false, false_or, List.append_nil, List.nil_append, List.cons_append, List.append_eq, List.replicate, List.length_cons, List.length_nil, List.map_cons, List.map_nil, ↓reduceIte, reduceCtorEq, if_true, if_false, true_and, and_true, false_and, and_false, and_self, not_true_eq_false, not_false_eq_true, forall_const, true_implies, false_implies, implies_true, Nat.reduceAdd, Nat.reduceSub, Nat.reduceLT, Nat.reduceLeDiff, Nat.reduceEqDiff, Nat.reduceMul, Nat.reducePow, Nat.add_one_ne_zero, Nat.add_one_sub_one, Nat.add_zero, Nat.zero_add, Int.reduceLT, Int.reduceLE, Int.reduceNeg, Int.reduceAdd, Int.reduceSub, Int.reduceToNat, Int.reduceEq, Int.reduceMul, Int.reducePow, Int.cast_ofNat_Int, Int.toNat_natCast, ne_eq, Bool.false_eq_true, true_or, or_true, or_self, Nat.not_lt_zero, ite_e0, ite_e1, lc_lt, lc_ge, lc_gt, lc_le, lc_eq, Classical.not_not]
      with_reducible repeat' (first | (refine And.intro ?_ ?_) | intro _)
      all_goals try omega
      all_goals first | omega | skip
      rw [show ((i : Nat) : Int) + 1 = ((i + 1 : Nat) : Int) by omega, show ((j : Nat) : Int) + -1 = ((j - 1 : Nat) : Int) by omega]
      refine ih _ (by omega) (by omega) ?_ ((hs.put rfl).put rfl)
      have sm := sw_mem (σ := σ') (ob := 9) (f := 2) (i := (i : Int)) (j := (j : Int))
      rw [show ((i : Nat) : Int).toNat = i by omega, show ((j : Nat) : Int).toNat = j by omega] at sm
      rw [e', ← sm]
    · rw [if_neg c] at e'
      refine TT_vb ok73 (sm3_ok G w) 60 [83] ?_
      simp -implicitDefEqProofs only [↓b73_0, ↓b73_4, ↓b73_8, ↓b73_25, ↓b73_31, ↓b73_35, ↓b73_37, ↓b73_41, ↓b73_46, ↓b73_61, ↓b73_67, ↓b73_73, ↓b73_83, ↓b73_90, ↓b73_98, ↓b73_107, b73_0, b73_4, b73_8, b73_25, b73_31, b73_35, b73_37, b73_41, b73_46, b73_61, b73_67, b73_73, b73_83, b73_90, b73_98, b73_107, nLE1, layE6, layE4, hk, n3_74, I32, ↓xb, xb, ps, lpad, lat, aok2, rd2, aaok, aav, alok, alen, aok, akk, csum, isLg, cmpI, clsE, Option.elim, eq_self, List.mem_cons, List.not_mem_nil, or_false, false_or, List.append_nil, List.nil_append, List.cons_append, List.append_eq, List.replicate, List.length_cons, List.length_nil, List.map_cons, List.map_nil, ↓reduceIte, reduceCtorEq, if_true, if_false, true_and, and_true, false_and, and_false, and_self, not_true_eq_false, not_false_eq_true, forall_const, true_implies, false_implies, implies_true, Nat.reduceAdd, Nat.reduceSub, Nat.reduceLT, Nat.reduceLeDiff, Nat.reduceEqDiff, Nat.reduceMul, Nat.reducePow, Nat.add_one_ne_zero, Nat.add_one_sub_one, Nat.add_zero, Nat.zero_add, Int.reduceLT, Int.reduceLE, Int.reduceNeg, Int.reduceAdd, Int.reduceSub, Int.reduceToNat, Int.reduceEq, Int.reduceMul, Int.reducePow, Int.cast_ofNat_Int, Int.toNat_natCast, ne_eq, Bool.false_eq_true, true_or, or_true, or_self, Nat.not_lt_zero, ite_e0, ite_e1, lc_lt, lc_ge, lc_gt, lc_le, lc_eq, Classical.not_not]
      with_reducible repeat' (first | (refine And.intro ?_ ?_) | intro _)
      all_goals try omega
      all_goals first | omega | exact q σ' (fun c => (congrFun e' c).symm) hs
set_option maxRecDepth 100000 in
set_option maxHeartbeats 1000000 in
theorem kc_next (hk : 12 ≤ k) {n : Nat} (hn : n ≤ 6) (q0 : ptF (fun c => σ 9 2 0 c) (n - 1) = 0 → Q (some (vi 0)) σ)
    (q1 : ptF (fun c => σ 9 2 0 c) (n - 1) ≠ 0 → ∀ σ', (∀ c, σ' 9 2 0 c = nxF n (fun c => σ 9 2 0 c) c) → same S92 σ σ' → Q (some (vi 1)) σ') : CC G w w k (0, 0) 73 [vr 9 0 0, vi n] σ Q := by
  have l1 := pt_le (a := fun c => σ 9 2 0 c) (n - 1)
  refine CC_vb ok73 (by decide) (sm3_ok G w) 60 [4] (Nat.le_of_ble_eq_true rfl) ?_
  simp -implicitDefEqProofs only [↓b73_0, ↓b73_4, ↓b73_8, ↓b73_25, ↓b73_31, ↓b73_35, ↓b73_37, ↓b73_41, ↓b73_46, ↓b73_61, ↓b73_67, ↓b73_73, ↓b73_83, ↓b73_90, ↓b73_98, ↓b73_107, b73_0, b73_4, b73_8, b73_25, b73_31, b73_35, b73_37, b73_41, b73_46, b73_61, b73_67, b73_73, b73_83, b73_90, b73_98, b73_107, nLE1, layE6, layE4, hk, n3_74, I32, ↓xb, xb, ps, lpad, lat, aok2, rd2, aaok, aav, alok, alen, aok, akk, csum, isLg, cmpI, clsE, Option.elim, eq_self, List.mem_cons, List.not_mem_nil, or_false, false_or, List.append_nil, List.nil_append, List.cons_append, List.append_eq, List.replicate, List.length_cons, List.length_nil, List.map_cons, List.map_nil, ↓reduceIte, reduceCtorEq, if_true, if_false, true_and, and_true, false_and, and_false, and_self, not_true_eq_false, not_false_eq_true, forall_const, true_implies, false_implies, implies_true, Nat.reduceAdd, Nat.reduceSub, Nat.reduceLT, Nat.reduceLeDiff, Nat.reduceEqDiff, Nat.reduceMul, Nat.reducePow, Nat.add_one_ne_zero, Nat.add_one_sub_one, Nat.add_zero, Nat.zero_add, Int.reduceLT, Int.reduceLE, Int.reduceNeg, Int.reduceAdd, Int.reduceSub, Int.reduceToNat, Int.reduceEq, Int.reduceMul, Int.reducePow, Int.cast_ofNat_Int, Int.toNat_natCast, ne_eq, Bool.false_eq_true, true_or, or_true, or_self, Nat.not_lt_zero, ite_e0, ite_e1, lc_lt, lc_ge, lc_gt, lc_le, lc_eq, Classical.not_not]
  with_reducible repeat' (first | (refine And.intro ?_ ?_) | intro _)
  all_goals try omega
  all_goals first | omega | skip
  have fin : TT G w w w k (0, 0) 73 31 [some (vr 9 0 0), some (vi n), some (vi ((ptF (fun c => σ 9 2 0 c) (n - 1) : Nat) - 1 : Int)), none, none, none] [] σ Q := by
    by_cases c : ptF (fun c => σ 9 2 0 c) (n - 1) = 0
    · have z := q0 c
      rw [c]
      refine TT_vb ok73 (sm3_ok G w) 60 [41] ?_
      simp -implicitDefEqProofs only [↓b73_0, ↓b73_4, ↓b73_8, ↓b73_25, ↓b73_31, ↓b73_35, ↓b73_37, ↓b73_41, ↓b73_46, ↓b73_61, ↓b73_67, ↓b73_73, ↓b73_83, ↓b73_90, ↓b73_98, ↓b73_107, b73_0, b73_4, b73_8, b73_25, b73_31, b73_35, b73_37, b73_41, b73_46, b73_61, b73_67, b73_73, b73_83, b73_90, b73_98, b73_107, nLE1, layE6, layE4, hk, n3_74, I32, ↓xb, xb, ps, lpad, lat, aok2, rd2, aaok, aav, alok, alen, aok, akk, csum, isLg, cmpI, clsE, Option.elim, eq_self, List.mem_cons, List.not_mem_nil, or_false, false_or, List.append_nil, List.nil_append, List.cons_append, List.append_eq, List.replicate, List.length_cons, List.length_nil, List.map_cons, List.map_nil, ↓reduceIte, reduceCtorEq, if_true, if_false, true_and, and_true, false_and, and_false, and_self, not_true_eq_false, not_false_eq_true, forall_const, true_implies, false_implies, implies_true, Nat.reduceAdd, Nat.reduceSub, Nat.reduceLT, Nat.reduceLeDiff, Nat.reduceEqDiff, Nat.reduceMul, Nat.reducePow, Nat.add_one_ne_zero, Nat.add_one_sub_one, Nat.add_zero, Nat.zero_add, Int.reduceLT, Int.reduceLE, Int.reduceNeg, Int.reduceAdd, Int.reduceSub, Int.reduceToNat, Int.reduceEq, Int.reduceMul, Int.reducePow, Int.cast_ofNat_Int, Int.toNat_natCast, ne_eq, Bool.false_eq_true, true_or, or_true, or_self, Nat.not_lt_zero, ite_e0, ite_e1, lc_lt, lc_ge, lc_gt, lc_le, lc_eq, Classical.not_not]
      with_reducible repeat' (first | (refine And.intro ?_ ?_) | intro _)
      all_goals try omega
      all_goals first | omega | exact z
    · have q2 := q1 c
      have nd : nxF n (fun c => σ 9 2 0 c) = rvF 6 (ptF (fun c => σ 9 2 0 c) (n - 1)) (n - 1) (swF (fun c => σ 9 2 0 c) (ptF (fun c => σ 9 2 0 c) (n - 1) - 1) (otF (fun c => σ 9 2 0 c) (ptF (fun c => σ 9 2 0 c) (n - 1) - 1) (n - 1))) := rfl
      have l2 := ot_r (a := fun c => σ 9 2 0 c) (p := ptF (fun c => σ 9 2 0 c) (n - 1) - 1) (n - 1) (by omega)
      revert c l1 nd l2
      generalize ep : ptF (fun c => σ 9 2 0 c) (n - 1) = p
      intro l1 c nd l2
      refine TT_vb ok73 (sm3_ok G w) 60 [41] ?_
      simp -implicitDefEqProofs only [↓b73_0, ↓b73_4, ↓b73_8, ↓b73_25, ↓b73_31, ↓b73_35, ↓b73_37, ↓b73_41, ↓b73_46, ↓b73_61, ↓b73_67, ↓b73_73, ↓b73_83, ↓b73_90, ↓b73_98, ↓b73_107, b73_0, b73_4, b73_8, b73_25, b73_31, b73_35, b73_37, b73_41, b73_46, b73_61, b73_67, b73_73, b73_83, b73_90, b73_98, b73_107, nLE1, layE6, layE4, hk, n3_74, I32, ↓xb, xb, ps, lpad, lat, aok2, rd2, aaok, aav, alok, alen, aok, akk, csum, isLg, cmpI, clsE, Option.elim, eq_self, List.mem_cons, List.not_mem_nil, or_false, false_or, List.append_nil, List.nil_append, List.cons_append, List.append_eq, List.replicate, List.length_cons, List.length_nil, List.map_cons, List.map_nil, ↓reduceIte, reduceCtorEq, if_true, if_false, true_and, and_true, false_and, and_false, and_self, not_true_eq_false, not_false_eq_true, forall_const, true_implies, false_implies, implies_true, Nat.reduceAdd, Nat.reduceSub, Nat.reduceLT, Nat.reduceLeDiff, Nat.reduceEqDiff, Nat.reduceMul, Nat.reducePow, Nat.add_one_ne_zero, Nat.add_one_sub_one, Nat.add_zero, Nat.zero_add, Int.reduceLT, Int.reduceLE, Int.reduceNeg, Int.reduceAdd, Int.reduceSub, Int.reduceToNat, Int.reduceEq, Int.reduceMul, Int.reducePow, Int.cast_ofNat_Int, Int.toNat_natCast, ne_eq, Bool.false_eq_true, true_or, or_true, or_self, Nat.not_lt_zero, ite_e0, ite_e1, lc_lt, lc_ge, lc_gt, lc_le, lc_eq, Classical.not_not]
      with_reducible repeat' (first | (refine And.intro ?_ ?_) | intro _)
      all_goals try omega
      all_goals first | omega | skip
      rw [show ((p : Nat) : Int) - 1 = ((p - 1 : Nat) : Int) by omega, show ((n : Nat) : Int) - 1 = ((n - 1 : Nat) : Int) by omega]
      refine kc_nx_o (p := p - 1) (by omega) hn (by omega) ?_ (n - 1) (by omega) (by omega) rfl
      revert nd l2
      generalize otF (fun c => σ 9 2 0 c) (p - 1) (n - 1) = j
      intro nd l2
      refine TT_vb ok73 (sm3_ok G w) 60 [83] ?_
      simp -implicitDefEqProofs only [↓b73_0, ↓b73_4, ↓b73_8, ↓b73_25, ↓b73_31, ↓b73_35, ↓b73_37, ↓b73_41, ↓b73_46, ↓b73_61, ↓b73_67, ↓b73_73, ↓b73_83, ↓b73_90, ↓b73_98, ↓b73_107, b73_0, b73_4, b73_8, b73_25, b73_31, b73_35, b73_37, b73_41, b73_46, b73_61, b73_67, b73_73, b73_83, b73_90, b73_98, b73_107, nLE1, layE6, layE4, hk, n3_74, I32, ↓xb, xb, ps, lpad, lat, aok2, rd2, aaok, aav, alok, alen, aok, akk, csum, isLg, cmpI, clsE, Option.elim, eq_self, List.mem_cons, List.not_mem_nil, or_false, false_or, List.append_nil, List.nil_append, List.cons_append, List.append_eq, List.replicate, List.length_cons, List.length_nil, List.map_cons, List.map_nil, ↓reduceIte, reduceCtorEq, if_true, if_false, true_and, and_true, false_and, and_false, and_self, not_true_eq_false, not_false_eq_true, forall_const, true_implies, false_implies, implies_true, Nat.reduceAdd, Nat.reduceSub, Nat.reduceLT, Nat.reduceLeDiff, Nat.reduceEqDiff, Nat.reduceMul, Nat.reducePow, Nat.add_one_ne_zero, Nat.add_one_sub_one, Nat.add_zero, Nat.zero_add, Int.reduceLT, Int.reduceLE, Int.reduceNeg, Int.reduceAdd, Int.reduceSub, Int.reduceToNat, Int.reduceEq, Int.reduceMul, Int.reducePow, Int.cast_ofNat_Int, Int.toNat_natCast, ne_eq, Bool.false_eq_true, true_or, or_true, or_self, Nat.not_lt_zero, ite_e0, ite_e1, lc_lt, lc_ge, lc_gt, lc_le, lc_eq, Classical.not_not]
      with_reducible repeat' (first | (refine And.intro ?_ ?_) | intro _)
      all_goals try omega
      all_goals first | omega | skip
      refine kc_sw (by omega) (by omega) (by omega) ?_
      simp -implicitDefEqProofs only [↓b73_0, ↓b73_4, ↓b73_8, ↓b73_25, ↓b73_31, ↓b73_35, ↓b73_37, ↓b73_41, ↓b73_46, ↓b73_61, ↓b73_67, ↓b73_73, ↓b73_83, ↓b73_90, ↓b73_98, ↓b73_107, b73_0, b73_4, b73_8, b73_25, b73_31, b73_35, b73_37, b73_41, b73_46, b73_61, b73_67, b73_73, b73_83, b73_90, b73_98, b73_107, nLE1, layE6, layE4, hk, n3_74, I32, ↓xb, xb, ps, lpad, lat, aok2, rd2, aaok, aav, alok, alen, aok, akk, csum, isLg, cmpI, clsE, Option.elim, eq_self, List.mem_cons, List.not_mem_nil, or_false, false_or, List.append_nil, List.nil_append, List.cons_append, List.append_eq, List.replicate, List.length_cons, List.length_nil, List.map_cons, List.map_nil, ↓reduceIte, reduceCtorEq, if_true, if_false, true_and, and_true, false_and, and_false, and_self, not_true_eq_false, not_false_eq_true, forall_const, true_implies, false_implies, implies_true, Nat.reduceAdd, Nat.reduceSub, Nat.reduceLT, Nat.reduceLeDiff, Nat.reduceEqDiff, Nat.reduceMul, Nat.reducePow, Nat.add_one_ne_zero, Nat.add_one_sub_one, Nat.add_zero, Nat.zero_add, Int.reduceLT, Int.reduceLE, Int.reduceNeg, Int.reduceAdd, Int.reduceSub, Int.reduceToNat, Int.reduceEq, Int.reduceMul, Int.reducePow, Int.cast_ofNat_Int, Int.toNat_natCast, ne_eq, Bool.false_eq_true, true_or, or_true, or_self, Nat.not_lt_zero, ite_e0, ite_e1, lc_lt, lc_ge, lc_gt, lc_le, lc_eq, Classical.not_not]
      with_reducible repeat' (first | (refine And.intro ?_ ?_) | intro _)
      all_goals try omega
      all_goals first | omega | skip
      rw [show ((p - 1 : Nat) : Int) + 1 = ((p : Nat) : Int) by omega, show ((n : Nat) : Int) - 1 = ((n - 1 : Nat) : Int) by omega]
      have sm := sw_mem (σ := σ) (ob := 9) (f := 2) (i := ((p - 1 : Nat) : Int)) (j := (j : Int))
      rw [show ((p - 1 : Nat) : Int).toNat = p - 1 by omega, show ((j : Nat) : Int).toNat = j by omega] at sm
      refine kc_nx_r (σ := σ) (by omega) hn q2 6 p (n - 1) _ (by omega) (by omega) ?_ ((same.refl.put rfl).put rfl)
      rw [nd, ← sm]
  by_cases n0 : n = 0
  · subst n0
    have z := q0 rfl
    refine TT_vb ok73 (sm3_ok G w) 60 [41] ?_
    simp -implicitDefEqProofs only [↓b73_0, ↓b73_4, ↓b73_8, ↓b73_25, ↓b73_31, ↓b73_35, ↓b73_37, ↓b73_41, ↓b73_46, ↓b73_61, ↓b73_67, ↓b73_73, ↓b73_83, ↓b73_90, ↓b73_98, ↓b73_107, b73_0, b73_4, b73_8, b73_25, b73_31, b73_35, b73_37, b73_41, b73_46, b73_61, b73_67, b73_73, b73_83, b73_90, b73_98, b73_107, nLE1, layE6, layE4, hk, n3_74, I32, ↓xb, xb, ps, lpad, lat, aok2, rd2, aaok, aav, alok, alen, aok, akk, csum, isLg, cmpI, clsE, Option.elim, eq_self, List.mem_cons, List.not_mem_nil, or_false, false_or, List.append_nil, List.nil_append, List.cons_append, List.append_eq, List.replicate, List.length_cons, List.length_nil, List.map_cons, List.map_nil, ↓reduceIte, reduceCtorEq, if_true, if_false, true_and, and_true, false_and, and_false, and_self, not_true_eq_false, not_false_eq_true, forall_const, true_implies, false_implies, implies_true, Nat.reduceAdd, Nat.reduceSub, Nat.reduceLT, Nat.reduceLeDiff, Nat.reduceEqDiff, Nat.reduceMul, Nat.reducePow, Nat.add_one_ne_zero, Nat.add_one_sub_one, Nat.add_zero, Nat.zero_add, Int.reduceLT, Int.reduceLE, Int.reduceNeg, Int.reduceAdd, Int.reduceSub, Int.reduceToNat, Int.reduceEq, Int.reduceMul, Int.reducePow, Int.cast_ofNat_Int, Int.toNat_natCast, ne_eq, Bool.false_eq_true, true_or, or_true, or_self, Nat.not_lt_zero, ite_e0, ite_e1, lc_lt, lc_ge, lc_gt, lc_le, lc_eq, Classical.not_not]
    with_reducible repeat' (first | (refine And.intro ?_ ?_) | intro _)
    all_goals try omega
    all_goals first | omega | exact z
  · rw [show ((n : Nat) : Int) - 2 = ((n - 1 : Nat) : Int) - 1 by omega]
    exact kc_nx_p (by omega) hn fin (n - 1) (Nat.le_refl _) rfl
abbrev S71 : Nat → Nat → Bool := fun o f => o == 21 && f == 71
set_option maxRecDepth 100000 in
set_option maxHeartbeats 1000000 in
theorem kx_sw (hk : 6 ≤ k) {i j : Int} (hi : 0 ≤ i ∧ i < 6) (hj : 0 ≤ j ∧ j < 6) (q : Q none (up (up σ 21 71 0 i.toNat (σ 21 71 0 j.toNat)) 21 71 0 j.toNat (σ 21 71 0 i.toNat))) : CC G w w k (0, 0) 225 [vr 21 0 0, vi i, vi j] σ Q := by
  refine CC_vb ok225 (by decide) (sm3_ok G w) 60 [] (Nat.le_of_ble_eq_true rfl) ?_
  simp -implicitDefEqProofs only [↓b225_0, b225_0, nLE4, layE8, up_rd, I32, ↓xb, xb, ps, lpad, lat, aok2, rd2, aaok, aav, alok, alen, aok, akk, csum, isLg, cmpI, clsE, Option.elim, eq_self, List.mem_cons, List.not_mem_nil, or_false, false_or, List.append_nil, List.nil_append, List.cons_append, List.append_eq, List.replicate, List.length_cons, List.length_nil, List.map_cons, List.map_nil, ↓reduceIte, reduceCtorEq, if_true, if_false, true_and, and_true, false_and, and_false, and_self, not_true_eq_false, not_false_eq_true, forall_const, true_implies, false_implies, implies_true, Nat.reduceAdd, Nat.reduceSub, Nat.reduceLT, Nat.reduceLeDiff, Nat.reduceEqDiff, Nat.reduceMul, Nat.reducePow, Nat.add_one_ne_zero, Nat.add_one_sub_one, Nat.add_zero, Nat.zero_add, Int.reduceLT, Int.reduceLE, Int.reduceNeg, Int.reduceAdd, Int.reduceSub, Int.reduceToNat, Int.reduceEq, Int.reduceMul, Int.reducePow, Int.cast_ofNat_Int, Int.toNat_natCast, ne_eq, Bool.false_eq_true, true_or, or_true, or_self, Nat.not_lt_zero, ite_e0, ite_e1, lc_lt, lc_ge, lc_gt, lc_le, lc_eq, Classical.not_not]
  with_reducible repeat' (first | (refine And.intro ?_ ?_) | intro _)
  all_goals try omega
  all_goals first | omega | exact q
set_option maxRecDepth 100000 in
set_option maxHeartbeats 1000000 in
theorem kx_nx_p (hk : 8 ≤ k) {n : Nat} (hn : n ≤ 6) {l3 l4 l5 : Option AV} (q : TT G w w w k (0, 0) 224 31 [some (vr 21 0 0), some (vi n), some (vi ((ptF (fun c => σ 21 71 0 c) (n - 1) : Nat) - 1 : Int)), l3, l4, l5] [] σ Q) :
    ∀ (i : Nat), i ≤ n - 1 → ptF (fun c => σ 21 71 0 c) (n - 1) = ptF (fun c => σ 21 71 0 c) i → TT G w w w k (0, 0) 224 4 [some (vr 21 0 0), some (vi n), some (vi ((i : Int) - 1)), l3, l4, l5] [] σ Q
  | 0, h1, hp => by
    have e : ptF (fun c => σ 21 71 0 c) (n - 1) = 0 := hp
    rw [e] at q
    refine TT_vb ok224 (sm3_ok G w) 60 [4, 31] ?_
    simp -implicitDefEqProofs only [↓b224_0, ↓b224_4, ↓b224_8, ↓b224_25, ↓b224_31, ↓b224_35, ↓b224_37, ↓b224_41, ↓b224_56, ↓b224_62, ↓b224_68, ↓b224_78, ↓b224_85, ↓b224_93, ↓b224_102, b224_0, b224_4, b224_8, b224_25, b224_31, b224_35, b224_37, b224_41, b224_56, b224_62, b224_68, b224_78, b224_85, b224_93, b224_102, nLE4, layE8, hk, n3_225, I32, ↓xb, xb, ps, lpad, lat, aok2, rd2, aaok, aav, alok, alen, aok, akk, csum, isLg, cmpI, clsE, Option.elim, eq_self, List.mem_cons, List.not_mem_nil, or_false, false_or, List.append_nil, List.nil_append, List.cons_append, List.append_eq, List.replicate, List.length_cons, List.length_nil, List.map_cons, List.map_nil, ↓reduceIte, reduceCtorEq, if_true, if_false, true_and, and_true, false_and, and_false, and_self, not_true_eq_false, not_false_eq_true, forall_const, true_implies, false_implies, implies_true, Nat.reduceAdd, Nat.reduceSub, Nat.reduceLT, Nat.reduceLeDiff, Nat.reduceEqDiff, Nat.reduceMul, Nat.reducePow, Nat.add_one_ne_zero, Nat.add_one_sub_one, Nat.add_zero, Nat.zero_add, Int.reduceLT, Int.reduceLE, Int.reduceNeg, Int.reduceAdd, Int.reduceSub, Int.reduceToNat, Int.reduceEq, Int.reduceMul, Int.reducePow, Int.cast_ofNat_Int, Int.toNat_natCast, ne_eq, Bool.false_eq_true, true_or, or_true, or_self, Nat.not_lt_zero, ite_e0, ite_e1, lc_lt, lc_ge, lc_gt, lc_le, lc_eq, Classical.not_not]
    with_reducible repeat' (first | (refine And.intro ?_ ?_) | intro _)
    all_goals try omega
    all_goals first | omega | exact q
  | i + 1, h1, hp => by
    have ih := kx_nx_p hk hn q i (by omega)
    have e : ptF (fun c => σ 21 71 0 c) (n - 1) = if σ 21 71 0 i > σ 21 71 0 (i + 1) then ptF (fun c => σ 21 71 0 c) i else i + 1 := hp
    have e1 : ((i + 1 : Nat) : Int) - 1 = (i : Int) := by omega
    rw [e1]
    refine TT_vb ok224 (sm3_ok G w) 60 [4, 31] ?_
    simp -implicitDefEqProofs only [↓b224_0, ↓b224_4, ↓b224_8, ↓b224_25, ↓b224_31, ↓b224_35, ↓b224_37, ↓b224_41, ↓b224_56, ↓b224_62, ↓b224_68, ↓b224_78, ↓b224_85, ↓b224_93, ↓b224_102, b224_0, b224_4, b224_8, b224_25, b224_31, b224_35, b224_37, b224_41, b224_56, b224_62, b224_68, b224_78, b224_85, b224_93, b224_102, nLE4, layE8, hk, n3_225, I32, ↓xb, xb, ps, lpad, lat, aok2, rd2, aaok, aav, alok, alen, aok, akk, csum, isLg, cmpI, clsE, Option.elim, eq_self, List.mem_cons, List.not_mem_nil, or_false, false_or, List.append_nil, List.nil_append, List.cons_append, List.append_eq, List.replicate, List.length_cons, List.length_nil, List.map_cons, List.map_nil, ↓reduceIte, reduceCtorEq, if_true, if_false, true_and, and_true, false_and, and_false, and_self, not_true_eq_false, not_false_eq_true, forall_const, true_implies, false_implies, implies_true, Nat.reduceAdd, Nat.reduceSub, Nat.reduceLT, Nat.reduceLeDiff, Nat.reduceEqDiff, Nat.reduceMul, Nat.reducePow, Nat.add_one_ne_zero, Nat.add_one_sub_one, Nat.add_zero, Nat.zero_add, Int.reduceLT, Int.reduceLE, Int.reduceNeg, Int.reduceAdd, Int.reduceSub, Int.reduceToNat, Int.reduceEq, Int.reduceMul, Int.reducePow, Int.cast_ofNat_Int, Int.toNat_natCast, ne_eq, Bool.false_eq_true, true_or, or_true, or_self, Nat.not_lt_zero, ite_e0, ite_e1, lc_lt, lc_ge, lc_gt, lc_le, lc_eq, Classical.not_not]
    with_reducible repeat' (first | (refine And.intro ?_ ?_) | intro _)
    all_goals try omega
    all_goals first | omega | skip
    · rename_i c
      have c' : ¬ σ 21 71 0 i > σ 21 71 0 (i + 1) := by
        have z := c
        rw [show ((i : Int) + 1).toNat = i + 1 by omega] at z
        omega
      rw [if_neg c'] at e
      rw [e] at q
      rw [show ((i + 1 : Nat) : Int) - 1 = (i : Int) by omega] at q
      exact q
    · rename_i c
      have c' : σ 21 71 0 i > σ 21 71 0 (i + 1) := by
        have z := c
        rw [show ((i : Int) + 1).toNat = i + 1 by omega] at z
        omega
      rw [if_pos c'] at e
      exact ih e
set_option maxRecDepth 100000 in
set_option maxHeartbeats 1000000 in
theorem kx_nx_o (hk : 8 ≤ k) {n p : Nat} (hn : n ≤ 6) (hp : p < n) {l4 l5 : Option AV} (q : TT G w w w k (0, 0) 224 62 [some (vr 21 0 0), some (vi n), some (vi p), some (vi (otF (fun c => σ 21 71 0 c) p (n - 1) : Nat)), l4, l5] [] σ Q) :
    ∀ (j : Nat), j ≤ n - 1 → p ≤ j → otF (fun c => σ 21 71 0 c) p (n - 1) = otF (fun c => σ 21 71 0 c) p j → TT G w w w k (0, 0) 224 41 [some (vr 21 0 0), some (vi n), some (vi p), some (vi j), l4, l5] [] σ Q
  | 0, h1, h2, he => by
    have e : otF (fun c => σ 21 71 0 c) p (n - 1) = 0 := he
    rw [e] at q
    have p0 : p = 0 := by omega
    subst p0
    refine TT_vb ok224 (sm3_ok G w) 60 [41, 62] ?_
    simp -implicitDefEqProofs only [↓b224_0, ↓b224_4, ↓b224_8, ↓b224_25, ↓b224_31, ↓b224_35, ↓b224_37, ↓b224_41, ↓b224_56, ↓b224_62, ↓b224_68, ↓b224_78, ↓b224_85, ↓b224_93, ↓b224_102, b224_0, b224_4, b224_8, b224_25, b224_31, b224_35, b224_37, b224_41, b224_56, b224_62, b224_68, b224_78, b224_85, b224_93, b224_102, nLE4, layE8, hk, n3_225, I32, ↓xb, xb, ps, lpad, lat, aok2, rd2, aaok, aav, alok, alen, aok, akk, csum, isLg, cmpI, clsE, Option.elim, eq_self, List.mem_cons, List.not_mem_nil, or_false, false_or, List.append_nil, List.nil_append, List.cons_append, List.append_eq, List.replicate, List.length_cons, List.length_nil, List.map_cons, List.map_nil, ↓reduceIte, reduceCtorEq, if_true, if_false, true_and, and_true, false_and, and_false, and_self, not_true_eq_false, not_false_eq_true, forall_const, true_implies, false_implies, implies_true, Nat.reduceAdd, Nat.reduceSub, Nat.reduceLT, Nat.reduceLeDiff, Nat.reduceEqDiff, Nat.reduceMul, Nat.reducePow, Nat.add_one_ne_zero, Nat.add_one_sub_one, Nat.add_zero, Nat.zero_add, Int.reduceLT, Int.reduceLE, Int.reduceNeg, Int.reduceAdd, Int.reduceSub, Int.reduceToNat, Int.reduceEq, Int.reduceMul, Int.reducePow, Int.cast_ofNat_Int, Int.toNat_natCast, ne_eq, Bool.false_eq_true, true_or, or_true, or_self, Nat.not_lt_zero, ite_e0, ite_e1, lc_lt, lc_ge, lc_gt, lc_le, lc_eq, Classical.not_not]
    with_reducible repeat' (first | (refine And.intro ?_ ?_) | intro _)
    all_goals try omega
    all_goals first | omega | exact q
  | j + 1, h1, h2, he => by
    have ih := kx_nx_o hk hn hp q j (by omega)
    have e : otF (fun c => σ 21 71 0 c) p (n - 1) = if p < j + 1 ∧ σ 21 71 0 (j + 1) < σ 21 71 0 p then otF (fun c => σ 21 71 0 c) p j else j + 1 := he
    by_cases c : p < j + 1 ∧ σ 21 71 0 (j + 1) < σ 21 71 0 p
    · rw [if_pos c] at e
      refine TT_vb ok224 (sm3_ok G w) 60 [41, 62] ?_
      simp -implicitDefEqProofs only [↓b224_0, ↓b224_4, ↓b224_8, ↓b224_25, ↓b224_31, ↓b224_35, ↓b224_37, ↓b224_41, ↓b224_56, ↓b224_62, ↓b224_68, ↓b224_78, ↓b224_85, ↓b224_93, ↓b224_102, b224_0, b224_4, b224_8, b224_25, b224_31, b224_35, b224_37, b224_41, b224_56, b224_62, b224_68, b224_78, b224_85, b224_93, b224_102, nLE4, layE8, hk, n3_225, I32, ↓xb, xb, ps, lpad, lat, aok2, rd2, aaok, aav, alok, alen, aok, akk, csum, isLg, cmpI, clsE, Option.elim, eq_self, List.mem_cons, List.not_mem_nil, or_false, false_or, List.append_nil, List.nil_append, List.cons_append, List.append_eq, List.replicate, List.length_cons, List.length_nil, List.map_cons, List.map_nil, ↓reduceIte, reduceCtorEq, if_true, if_false, true_and, and_true, false_and, and_false, and_self, not_true_eq_false, not_false_eq_true, forall_const, true_implies, false_implies, implies_true, Nat.reduceAdd, Nat.reduceSub, Nat.reduceLT, Nat.reduceLeDiff, Nat.reduceEqDiff, Nat.reduceMul, Nat.reducePow, Nat.add_one_ne_zero, Nat.add_one_sub_one, Nat.add_zero, Nat.zero_add, Int.reduceLT, Int.reduceLE, Int.reduceNeg, Int.reduceAdd, Int.reduceSub, Int.reduceToNat, Int.reduceEq, Int.reduceMul, Int.reducePow, Int.cast_ofNat_Int, Int.toNat_natCast, ne_eq, Bool.false_eq_true, true_or, or_true, or_self, Nat.not_lt_zero, ite_e0, ite_e1, lc_lt, lc_ge, lc_gt, lc_le, lc_eq, Classical.not_not]
      with_reducible repeat' (first | (refine And.intro ?_ ?_) | intro _)
      all_goals try omega
      all_goals first | omega | (rw [show ((j + 1 : Nat) : Int) + -1 = (j : Int) by omega]; exact ih (by omega) e)
    · rw [if_neg c] at e
      rw [e] at q
      by_cases ep : p = j + 1
      · subst ep
        refine TT_vb ok224 (sm3_ok G w) 60 [41, 62] ?_
        simp -implicitDefEqProofs only [↓b224_0, ↓b224_4, ↓b224_8, ↓b224_25, ↓b224_31, ↓b224_35, ↓b224_37, ↓b224_41, ↓b224_56, ↓b224_62, ↓b224_68, ↓b224_78, ↓b224_85, ↓b224_93, ↓b224_102, b224_0, b224_4, b224_8, b224_25, b224_31, b224_35, b224_37, b224_41, b224_56, b224_62, b224_68, b224_78, b224_85, b224_93, b224_102, nLE4, layE8, hk, n3_225, I32, ↓xb, xb, ps, lpad, lat, aok2, rd2, aaok, aav, alok, alen, aok, akk, csum, isLg, cmpI, clsE, Option.elim, eq_self, List.mem_cons, List.not_mem_nil, or_false, false_or, List.append_nil, List.nil_append, List.cons_append, List.append_eq, List.replicate, List.length_cons, List.length_nil, List.map_cons, List.map_nil, ↓reduceIte, reduceCtorEq, if_true, if_false, true_and, and_true, false_and, and_false, and_self, not_true_eq_false, not_false_eq_true, forall_const, true_implies, false_implies, implies_true, Nat.reduceAdd, Nat.reduceSub, Nat.reduceLT, Nat.reduceLeDiff, Nat.reduceEqDiff, Nat.reduceMul, Nat.reducePow, Nat.add_one_ne_zero, Nat.add_one_sub_one, Nat.add_zero, Nat.zero_add, Int.reduceLT, Int.reduceLE, Int.reduceNeg, Int.reduceAdd, Int.reduceSub, Int.reduceToNat, Int.reduceEq, Int.reduceMul, Int.reducePow, Int.cast_ofNat_Int, Int.toNat_natCast, ne_eq, Bool.false_eq_true, true_or, or_true, or_self, Nat.not_lt_zero, ite_e0, ite_e1, lc_lt, lc_ge, lc_gt, lc_le, lc_eq, Classical.not_not]
        with_reducible repeat' (first | (refine And.intro ?_ ?_) | intro _)
        all_goals try omega
        all_goals first | omega | exact q
      · have c' : ¬ σ 21 71 0 (j + 1) < σ 21 71 0 p := fun z => c ⟨by omega, z⟩
        refine TT_vb ok224 (sm3_ok G w) 60 [41, 62] ?_
        simp -implicitDefEqProofs only [↓b224_0, ↓b224_4, ↓b224_8, ↓b224_25, ↓b224_31, ↓b224_35, ↓b224_37, ↓b224_41, ↓b224_56, ↓b224_62, ↓b224_68, ↓b224_78, ↓b224_85, ↓b224_93, ↓b224_102, b224_0, b224_4, b224_8, b224_25, b224_31, b224_35, b224_37, b224_41, b224_56, b224_62, b224_68, b224_78, b224_85, b224_93, b224_102, nLE4, layE8, hk, n3_225, I32, ↓xb, xb, ps, lpad, lat, aok2, rd2, aaok, aav, alok, alen, aok, akk, csum, isLg, cmpI, clsE, Option.elim, eq_self, List.mem_cons, List.not_mem_nil, or_false, false_or, List.append_nil, List.nil_append, List.cons_append, List.append_eq, List.replicate, List.length_cons, List.length_nil, List.map_cons, List.map_nil, ↓reduceIte, reduceCtorEq, if_true, if_false, true_and, and_true, false_and, and_false, and_self, not_true_eq_false, not_false_eq_true, forall_const, true_implies, false_implies, implies_true, Nat.reduceAdd, Nat.reduceSub, Nat.reduceLT, Nat.reduceLeDiff, Nat.reduceEqDiff, Nat.reduceMul, Nat.reducePow, Nat.add_one_ne_zero, Nat.add_one_sub_one, Nat.add_zero, Nat.zero_add, Int.reduceLT, Int.reduceLE, Int.reduceNeg, Int.reduceAdd, Int.reduceSub, Int.reduceToNat, Int.reduceEq, Int.reduceMul, Int.reducePow, Int.cast_ofNat_Int, Int.toNat_natCast, ne_eq, Bool.false_eq_true, true_or, or_true, or_self, Nat.not_lt_zero, ite_e0, ite_e1, lc_lt, lc_ge, lc_gt, lc_le, lc_eq, Classical.not_not]
        with_reducible repeat' (first | (refine And.intro ?_ ?_) | intro _)
        all_goals try omega
        all_goals first | omega | exact q
set_option maxRecDepth 100000 in
set_option maxHeartbeats 1000000 in
theorem kx_nx_r (hk : 8 ≤ k) {n : Nat} (hn : n ≤ 6) {l2 : Option AV} {v3 : Int} {b : Nat → Int} (q : ∀ σ', (∀ c, σ' 21 71 0 c = b c) → same S71 σ σ' → Q (some (vi 1)) σ') :
    ∀ (m : Nat) (i j : Nat) (σ' : Mem), j < i + 2 * m → j < n → b = rvF m i j (fun c => σ' 21 71 0 c) → same S71 σ σ' → TT G w w w k (0, 0) 224 78 [some (vr 21 0 0), some (vi n), l2, some (vi v3), some (vi i), some (vi j)] [] σ' Q
  | 0, i, j, σ', h1, h2, e, hs => by
    have e' : b = fun c => σ' 21 71 0 c := e
    refine TT_vb ok224 (sm3_ok G w) 60 [78] ?_
    simp -implicitDefEqProofs only [↓b224_0, ↓b224_4, ↓b224_8, ↓b224_25, ↓b224_31, ↓b224_35, ↓b224_37, ↓b224_41, ↓b224_56, ↓b224_62, ↓b224_68, ↓b224_78, ↓b224_85, ↓b224_93, ↓b224_102, b224_0, b224_4, b224_8, b224_25, b224_31, b224_35, b224_37, b224_41, b224_56, b224_62, b224_68, b224_78, b224_85, b224_93, b224_102, nLE4, layE8, hk, n3_225, I32, ↓xb, xb, ps, lpad, lat, aok2, rd2, aaok, aav, alok, alen, aok, akk, csum, isLg, cmpI, clsE, Option.elim, eq_self, List.mem_cons, List.not_mem_nil, or_false, false_or, List.append_nil, List.nil_append, List.cons_append, List.append_eq, List.replicate, List.length_cons, List.length_nil, List.map_cons, List.map_nil, ↓reduceIte, reduceCtorEq, if_true, if_false, true_and, and_true, false_and, and_false, and_self, not_true_eq_false, not_false_eq_true, forall_const, true_implies, false_implies, implies_true, Nat.reduceAdd, Nat.reduceSub, Nat.reduceLT, Nat.reduceLeDiff, Nat.reduceEqDiff, Nat.reduceMul, Nat.reducePow, Nat.add_one_ne_zero, Nat.add_one_sub_one, Nat.add_zero, Nat.zero_add, Int.reduceLT, Int.reduceLE, Int.reduceNeg, Int.reduceAdd, Int.reduceSub, Int.reduceToNat, Int.reduceEq, Int.reduceMul, Int.reducePow, Int.cast_ofNat_Int, Int.toNat_natCast, ne_eq, Bool.false_eq_true, true_or, or_true, or_self, Nat.not_lt_zero, ite_e0, ite_e1, lc_lt, lc_ge, lc_gt, lc_le, lc_eq, Classical.not_not]
    with_reducible repeat' (first | (refine And.intro ?_ ?_) | intro _)
    all_goals try omega
    all_goals first | omega | exact q σ' (fun c => (congrFun e' c).symm) hs
  | m + 1, i, j, σ', h1, h2, e, hs => by
    have ih := kx_nx_r hk hn (l2 := l2) (v3 := v3) q m (i + 1) (j - 1)
    have e' : b = if i < j then rvF m (i + 1) (j - 1) (swF (fun c => σ' 21 71 0 c) i j) else (fun c => σ' 21 71 0 c) := e
    by_cases c : i < j
    · rw [if_pos c] at e'
      refine TT_vb ok224 (sm3_ok G w) 60 [78] ?_
      simp -implicitDefEqProofs only [↓b224_0, ↓b224_4, ↓b224_8, ↓b224_25, ↓b224_31, ↓b224_35, ↓b224_37, ↓b224_41, ↓b224_56, ↓b224_62, ↓b224_68, ↓b224_78, ↓b224_85, ↓b224_93, ↓b224_102, b224_0, b224_4, b224_8, b224_25, b224_31, b224_35, b224_37, b224_41, b224_56, b224_62, b224_68, b224_78, b224_85, b224_93, b224_102, nLE4, layE8, hk, n3_225, I32, ↓xb, xb, ps, lpad, lat, aok2, rd2, aaok, aav, alok, alen, aok, akk, csum, isLg, cmpI, clsE, Option.elim, eq_self, List.mem_cons, List.not_mem_nil, or_false, false_or, List.append_nil, List.nil_append, List.cons_append, List.append_eq, List.replicate, List.length_cons, List.length_nil, List.map_cons, List.map_nil, ↓reduceIte, reduceCtorEq, if_true, if_false, true_and, and_true, false_and, and_false, and_self, not_true_eq_false, not_false_eq_true, forall_const, true_implies, false_implies, implies_true, Nat.reduceAdd, Nat.reduceSub, Nat.reduceLT, Nat.reduceLeDiff, Nat.reduceEqDiff, Nat.reduceMul, Nat.reducePow, Nat.add_one_ne_zero, Nat.add_one_sub_one, Nat.add_zero, Nat.zero_add, Int.reduceLT, Int.reduceLE, Int.reduceNeg, Int.reduceAdd, Int.reduceSub, Int.reduceToNat, Int.reduceEq, Int.reduceMul, Int.reducePow, Int.cast_ofNat_Int, Int.toNat_natCast, ne_eq, Bool.false_eq_true, true_or, or_true, or_self, Nat.not_lt_zero, ite_e0, ite_e1, lc_lt, lc_ge, lc_gt, lc_le, lc_eq, Classical.not_not]
      with_reducible repeat' (first | (refine And.intro ?_ ?_) | intro _)
      all_goals try omega
      all_goals first | omega | skip
      refine kx_sw (by omega) (by omega) (by omega) ?_
      simp -implicitDefEqProofs only [↓b224_0, ↓b224_4, ↓b224_8, ↓b224_25, ↓b224_31, ↓b224_35, ↓b224_37, ↓b224_41, ↓b224_56, ↓b224_62, ↓b224_68, ↓b224_78, ↓b224_85, ↓b224_93, ↓b224_102, b224_0, b224_4, b224_8, b224_25, b224_31, b224_35, b224_37, b224_41, b224_56, b224_62, b224_68, b224_78, b224_85, b224_93, b224_102, nLE4, layE8, hk, n3_225, I32, ↓xb, xb, ps, lpad, lat, aok2, rd2, aaok, aav, alok, alen, aok, akk, csum, isLg, cmpI, clsE, Option.elim, eq_self, List.mem_cons, List.not_mem_nil, or_false, false_or, List.append_nil, List.nil_append, List.cons_append, List.append_eq, List.replicate, List.length_cons, List.length_nil, List.map_cons, List.map_nil, ↓reduceIte, reduceCtorEq, if_true, if_false, true_and, and_true, false_and, and_false, and_self, not_true_eq_false, not_false_eq_true, forall_const, true_implies, false_implies, implies_true, Nat.reduceAdd, Nat.reduceSub, Nat.reduceLT, Nat.reduceLeDiff, Nat.reduceEqDiff, Nat.reduceMul, Nat.reducePow, Nat.add_one_ne_zero, Nat.add_one_sub_one, Nat.add_zero, Nat.zero_add, Int.reduceLT, Int.reduceLE, Int.reduceNeg, Int.reduceAdd, Int.reduceSub, Int.reduceToNat, Int.reduceEq, Int.reduceMul, Int.reducePow, Int.cast_ofNat_Int, Int.toNat_natCast, ne_eq, Bool.false_eq_true, true_or, or_true, or_self, Nat.not_lt_zero, ite_e0, ite_e1, lc_lt, lc_ge, lc_gt, lc_le, lc_eq, Classical.not_not]
      with_reducible repeat' (first | (refine And.intro ?_ ?_) | intro _)
      all_goals try omega
      all_goals first | omega | skip
      rw [show ((i : Nat) : Int) + 1 = ((i + 1 : Nat) : Int) by omega, show ((j : Nat) : Int) + -1 = ((j - 1 : Nat) : Int) by omega]
      refine ih _ (by omega) (by omega) ?_ ((hs.put rfl).put rfl)
      have sm := sw_mem (σ := σ') (ob := 21) (f := 71) (i := (i : Int)) (j := (j : Int))
      rw [show ((i : Nat) : Int).toNat = i by omega, show ((j : Nat) : Int).toNat = j by omega] at sm
      rw [e', ← sm]
    · rw [if_neg c] at e'
      refine TT_vb ok224 (sm3_ok G w) 60 [78] ?_
      simp -implicitDefEqProofs only [↓b224_0, ↓b224_4, ↓b224_8, ↓b224_25, ↓b224_31, ↓b224_35, ↓b224_37, ↓b224_41, ↓b224_56, ↓b224_62, ↓b224_68, ↓b224_78, ↓b224_85, ↓b224_93, ↓b224_102, b224_0, b224_4, b224_8, b224_25, b224_31, b224_35, b224_37, b224_41, b224_56, b224_62, b224_68, b224_78, b224_85, b224_93, b224_102, nLE4, layE8, hk, n3_225, I32, ↓xb, xb, ps, lpad, lat, aok2, rd2, aaok, aav, alok, alen, aok, akk, csum, isLg, cmpI, clsE, Option.elim, eq_self, List.mem_cons, List.not_mem_nil, or_false, false_or, List.append_nil, List.nil_append, List.cons_append, List.append_eq, List.replicate, List.length_cons, List.length_nil, List.map_cons, List.map_nil, ↓reduceIte, reduceCtorEq, if_true, if_false, true_and, and_true, false_and, and_false, and_self, not_true_eq_false, not_false_eq_true, forall_const, true_implies, false_implies, implies_true, Nat.reduceAdd, Nat.reduceSub, Nat.reduceLT, Nat.reduceLeDiff, Nat.reduceEqDiff, Nat.reduceMul, Nat.reducePow, Nat.add_one_ne_zero, Nat.add_one_sub_one, Nat.add_zero, Nat.zero_add, Int.reduceLT, Int.reduceLE, Int.reduceNeg, Int.reduceAdd, Int.reduceSub, Int.reduceToNat, Int.reduceEq, Int.reduceMul, Int.reducePow, Int.cast_ofNat_Int, Int.toNat_natCast, ne_eq, Bool.false_eq_true, true_or, or_true, or_self, Nat.not_lt_zero, ite_e0, ite_e1, lc_lt, lc_ge, lc_gt, lc_le, lc_eq, Classical.not_not]
      with_reducible repeat' (first | (refine And.intro ?_ ?_) | intro _)
      all_goals try omega
      all_goals first | omega | exact q σ' (fun c => (congrFun e' c).symm) hs
set_option maxRecDepth 100000 in
set_option maxHeartbeats 1000000 in
theorem kx_next (hk : 12 ≤ k) {n : Nat} (hn : n ≤ 6) (q0 : ptF (fun c => σ 21 71 0 c) (n - 1) = 0 → Q (some (vi 0)) σ)
    (q1 : ptF (fun c => σ 21 71 0 c) (n - 1) ≠ 0 → ∀ σ', (∀ c, σ' 21 71 0 c = nxF n (fun c => σ 21 71 0 c) c) → same S71 σ σ' → Q (some (vi 1)) σ') : CC G w w k (0, 0) 224 [vr 21 0 0, vi n] σ Q := by
  have l1 := pt_le (a := fun c => σ 21 71 0 c) (n - 1)
  refine CC_vb ok224 (by decide) (sm3_ok G w) 60 [4] (Nat.le_of_ble_eq_true rfl) ?_
  simp -implicitDefEqProofs only [↓b224_0, ↓b224_4, ↓b224_8, ↓b224_25, ↓b224_31, ↓b224_35, ↓b224_37, ↓b224_41, ↓b224_56, ↓b224_62, ↓b224_68, ↓b224_78, ↓b224_85, ↓b224_93, ↓b224_102, b224_0, b224_4, b224_8, b224_25, b224_31, b224_35, b224_37, b224_41, b224_56, b224_62, b224_68, b224_78, b224_85, b224_93, b224_102, nLE4, layE8, hk, n3_225, I32, ↓xb, xb, ps, lpad, lat, aok2, rd2, aaok, aav, alok, alen, aok, akk, csum, isLg, cmpI, clsE, Option.elim, eq_self, List.mem_cons, List.not_mem_nil, or_false, false_or, List.append_nil, List.nil_append, List.cons_append, List.append_eq, List.replicate, List.length_cons, List.length_nil, List.map_cons, List.map_nil, ↓reduceIte, reduceCtorEq, if_true, if_false, true_and, and_true, false_and, and_false, and_self, not_true_eq_false, not_false_eq_true, forall_const, true_implies, false_implies, implies_true, Nat.reduceAdd, Nat.reduceSub, Nat.reduceLT, Nat.reduceLeDiff, Nat.reduceEqDiff, Nat.reduceMul, Nat.reducePow, Nat.add_one_ne_zero, Nat.add_one_sub_one, Nat.add_zero, Nat.zero_add, Int.reduceLT, Int.reduceLE, Int.reduceNeg, Int.reduceAdd, Int.reduceSub, Int.reduceToNat, Int.reduceEq, Int.reduceMul, Int.reducePow, Int.cast_ofNat_Int, Int.toNat_natCast, ne_eq, Bool.false_eq_true, true_or, or_true, or_self, Nat.not_lt_zero, ite_e0, ite_e1, lc_lt, lc_ge, lc_gt, lc_le, lc_eq, Classical.not_not]
  with_reducible repeat' (first | (refine And.intro ?_ ?_) | intro _)
  all_goals try omega
  all_goals first | omega | skip
  have fin : TT G w w w k (0, 0) 224 31 [some (vr 21 0 0), some (vi n), some (vi ((ptF (fun c => σ 21 71 0 c) (n - 1) : Nat) - 1 : Int)), none, none, none] [] σ Q := by
    by_cases c : ptF (fun c => σ 21 71 0 c) (n - 1) = 0
    · have z := q0 c
      rw [c]
      refine TT_vb ok224 (sm3_ok G w) 60 [41] ?_
      simp -implicitDefEqProofs only [↓b224_0, ↓b224_4, ↓b224_8, ↓b224_25, ↓b224_31, ↓b224_35, ↓b224_37, ↓b224_41, ↓b224_56, ↓b224_62, ↓b224_68, ↓b224_78, ↓b224_85, ↓b224_93, ↓b224_102, b224_0, b224_4, b224_8, b224_25, b224_31, b224_35, b224_37, b224_41, b224_56, b224_62, b224_68, b224_78, b224_85, b224_93, b224_102, nLE4, layE8, hk, n3_225, I32, ↓xb, xb, ps, lpad, lat, aok2, rd2, aaok, aav, alok, alen, aok, akk, csum, isLg, cmpI, clsE, Option.elim, eq_self, List.mem_cons, List.not_mem_nil, or_false, false_or, List.append_nil, List.nil_append, List.cons_append, List.append_eq, List.replicate, List.length_cons, List.length_nil, List.map_cons, List.map_nil, ↓reduceIte, reduceCtorEq, if_true, if_false, true_and, and_true, false_and, and_false, and_self, not_true_eq_false, not_false_eq_true, forall_const, true_implies, false_implies, implies_true, Nat.reduceAdd, Nat.reduceSub, Nat.reduceLT, Nat.reduceLeDiff, Nat.reduceEqDiff, Nat.reduceMul, Nat.reducePow, Nat.add_one_ne_zero, Nat.add_one_sub_one, Nat.add_zero, Nat.zero_add, Int.reduceLT, Int.reduceLE, Int.reduceNeg, Int.reduceAdd, Int.reduceSub, Int.reduceToNat, Int.reduceEq, Int.reduceMul, Int.reducePow, Int.cast_ofNat_Int, Int.toNat_natCast, ne_eq, Bool.false_eq_true, true_or, or_true, or_self, Nat.not_lt_zero, ite_e0, ite_e1, lc_lt, lc_ge, lc_gt, lc_le, lc_eq, Classical.not_not]
      with_reducible repeat' (first | (refine And.intro ?_ ?_) | intro _)
      all_goals try omega
      all_goals first | omega | exact z
    · have q2 := q1 c
      have nd : nxF n (fun c => σ 21 71 0 c) = rvF 6 (ptF (fun c => σ 21 71 0 c) (n - 1)) (n - 1) (swF (fun c => σ 21 71 0 c) (ptF (fun c => σ 21 71 0 c) (n - 1) - 1) (otF (fun c => σ 21 71 0 c) (ptF (fun c => σ 21 71 0 c) (n - 1) - 1) (n - 1))) := rfl
      have l2 := ot_r (a := fun c => σ 21 71 0 c) (p := ptF (fun c => σ 21 71 0 c) (n - 1) - 1) (n - 1) (by omega)
      revert c l1 nd l2
      generalize ep : ptF (fun c => σ 21 71 0 c) (n - 1) = p
      intro l1 c nd l2
      refine TT_vb ok224 (sm3_ok G w) 60 [41] ?_
      simp -implicitDefEqProofs only [↓b224_0, ↓b224_4, ↓b224_8, ↓b224_25, ↓b224_31, ↓b224_35, ↓b224_37, ↓b224_41, ↓b224_56, ↓b224_62, ↓b224_68, ↓b224_78, ↓b224_85, ↓b224_93, ↓b224_102, b224_0, b224_4, b224_8, b224_25, b224_31, b224_35, b224_37, b224_41, b224_56, b224_62, b224_68, b224_78, b224_85, b224_93, b224_102, nLE4, layE8, hk, n3_225, I32, ↓xb, xb, ps, lpad, lat, aok2, rd2, aaok, aav, alok, alen, aok, akk, csum, isLg, cmpI, clsE, Option.elim, eq_self, List.mem_cons, List.not_mem_nil, or_false, false_or, List.append_nil, List.nil_append, List.cons_append, List.append_eq, List.replicate, List.length_cons, List.length_nil, List.map_cons, List.map_nil, ↓reduceIte, reduceCtorEq, if_true, if_false, true_and, and_true, false_and, and_false, and_self, not_true_eq_false, not_false_eq_true, forall_const, true_implies, false_implies, implies_true, Nat.reduceAdd, Nat.reduceSub, Nat.reduceLT, Nat.reduceLeDiff, Nat.reduceEqDiff, Nat.reduceMul, Nat.reducePow, Nat.add_one_ne_zero, Nat.add_one_sub_one, Nat.add_zero, Nat.zero_add, Int.reduceLT, Int.reduceLE, Int.reduceNeg, Int.reduceAdd, Int.reduceSub, Int.reduceToNat, Int.reduceEq, Int.reduceMul, Int.reducePow, Int.cast_ofNat_Int, Int.toNat_natCast, ne_eq, Bool.false_eq_true, true_or, or_true, or_self, Nat.not_lt_zero, ite_e0, ite_e1, lc_lt, lc_ge, lc_gt, lc_le, lc_eq, Classical.not_not]
      with_reducible repeat' (first | (refine And.intro ?_ ?_) | intro _)
      all_goals try omega
      all_goals first | omega | skip
      rw [show ((p : Nat) : Int) - 1 = ((p - 1 : Nat) : Int) by omega, show ((n : Nat) : Int) - 1 = ((n - 1 : Nat) : Int) by omega]
      refine kx_nx_o (p := p - 1) (by omega) hn (by omega) ?_ (n - 1) (by omega) (by omega) rfl
      revert nd l2
      generalize otF (fun c => σ 21 71 0 c) (p - 1) (n - 1) = j
      intro nd l2
      refine TT_vb ok224 (sm3_ok G w) 60 [78] ?_
      simp -implicitDefEqProofs only [↓b224_0, ↓b224_4, ↓b224_8, ↓b224_25, ↓b224_31, ↓b224_35, ↓b224_37, ↓b224_41, ↓b224_56, ↓b224_62, ↓b224_68, ↓b224_78, ↓b224_85, ↓b224_93, ↓b224_102, b224_0, b224_4, b224_8, b224_25, b224_31, b224_35, b224_37, b224_41, b224_56, b224_62, b224_68, b224_78, b224_85, b224_93, b224_102, nLE4, layE8, hk, n3_225, I32, ↓xb, xb, ps, lpad, lat, aok2, rd2, aaok, aav, alok, alen, aok, akk, csum, isLg, cmpI, clsE, Option.elim, eq_self, List.mem_cons, List.not_mem_nil, or_false, false_or, List.append_nil, List.nil_append, List.cons_append, List.append_eq, List.replicate, List.length_cons, List.length_nil, List.map_cons, List.map_nil, ↓reduceIte, reduceCtorEq, if_true, if_false, true_and, and_true, false_and, and_false, and_self, not_true_eq_false, not_false_eq_true, forall_const, true_implies, false_implies, implies_true, Nat.reduceAdd, Nat.reduceSub, Nat.reduceLT, Nat.reduceLeDiff, Nat.reduceEqDiff, Nat.reduceMul, Nat.reducePow, Nat.add_one_ne_zero, Nat.add_one_sub_one, Nat.add_zero, Nat.zero_add, Int.reduceLT, Int.reduceLE, Int.reduceNeg, Int.reduceAdd, Int.reduceSub, Int.reduceToNat, Int.reduceEq, Int.reduceMul, Int.reducePow, Int.cast_ofNat_Int, Int.toNat_natCast, ne_eq, Bool.false_eq_true, true_or, or_true, or_self, Nat.not_lt_zero, ite_e0, ite_e1, lc_lt, lc_ge, lc_gt, lc_le, lc_eq, Classical.not_not]
      with_reducible repeat' (first | (refine And.intro ?_ ?_) | intro _)
      all_goals try omega
      all_goals first | omega | skip
      refine kx_sw (by omega) (by omega) (by omega) ?_
      simp -implicitDefEqProofs only [↓b224_0, ↓b224_4, ↓b224_8, ↓b224_25, ↓b224_31, ↓b224_35, ↓b224_37, ↓b224_41, ↓b224_56, ↓b224_62, ↓b224_68, ↓b224_78, ↓b224_85, ↓b224_93, ↓b224_102, b224_0, b224_4, b224_8, b224_25, b224_31, b224_35, b224_37, b224_41, b224_56, b224_62, b224_68, b224_78, b224_85, b224_93, b224_102, nLE4, layE8, hk, n3_225, I32, ↓xb, xb, ps, lpad, lat, aok2, rd2, aaok, aav, alok, alen, aok, akk, csum, isLg, cmpI, clsE, Option.elim, eq_self, List.mem_cons, List.not_mem_nil, or_false, false_or, List.append_nil, List.nil_append, List.cons_append, List.append_eq, List.replicate, List.length_cons, List.length_nil, List.map_cons, List.map_nil, ↓reduceIte, reduceCtorEq, if_true, if_false, true_and, and_true, false_and, and_false, and_self, not_true_eq_false, not_false_eq_true, forall_const, true_implies, false_implies, implies_true, Nat.reduceAdd, Nat.reduceSub, Nat.reduceLT, Nat.reduceLeDiff, Nat.reduceEqDiff, Nat.reduceMul, Nat.reducePow, Nat.add_one_ne_zero, Nat.add_one_sub_one, Nat.add_zero, Nat.zero_add, Int.reduceLT, Int.reduceLE, Int.reduceNeg, Int.reduceAdd, Int.reduceSub, Int.reduceToNat, Int.reduceEq, Int.reduceMul, Int.reducePow, Int.cast_ofNat_Int, Int.toNat_natCast, ne_eq, Bool.false_eq_true, true_or, or_true, or_self, Nat.not_lt_zero, ite_e0, ite_e1, lc_lt, lc_ge, lc_gt, lc_le, lc_eq, Classical.not_not]
      with_reducible repeat' (first | (refine And.intro ?_ ?_) | intro _)
      all_goals try omega
      all_goals first | omega | skip
      rw [show ((p - 1 : Nat) : Int) + 1 = ((p : Nat) : Int) by omega, show ((n : Nat) : Int) - 1 = ((n - 1 : Nat) : Int) by omega]
      have sm := sw_mem (σ := σ) (ob := 21) (f := 71) (i := ((p - 1 : Nat) : Int)) (j := (j : Int))
      rw [show ((p - 1 : Nat) : Int).toNat = p - 1 by omega, show ((j : Nat) : Int).toNat = j by omega] at sm
      refine kx_nx_r (σ := σ) (by omega) hn q2 6 p (n - 1) _ (by omega) (by omega) ?_ ((same.refl.put rfl).put rfl)
      rw [nd, ← sm]
  by_cases n0 : n = 0
  · subst n0
    have z := q0 rfl
    refine TT_vb ok224 (sm3_ok G w) 60 [41] ?_
    simp -implicitDefEqProofs only [↓b224_0, ↓b224_4, ↓b224_8, ↓b224_25, ↓b224_31, ↓b224_35, ↓b224_37, ↓b224_41, ↓b224_56, ↓b224_62, ↓b224_68, ↓b224_78, ↓b224_85, ↓b224_93, ↓b224_102, b224_0, b224_4, b224_8, b224_25, b224_31, b224_35, b224_37, b224_41, b224_56, b224_62, b224_68, b224_78, b224_85, b224_93, b224_102, nLE4, layE8, hk, n3_225, I32, ↓xb, xb, ps, lpad, lat, aok2, rd2, aaok, aav, alok, alen, aok, akk, csum, isLg, cmpI, clsE, Option.elim, eq_self, List.mem_cons, List.not_mem_nil, or_false, false_or, List.append_nil, List.nil_append, List.cons_append, List.append_eq, List.replicate, List.length_cons, List.length_nil, List.map_cons, List.map_nil, ↓reduceIte, reduceCtorEq, if_true, if_false, true_and, and_true, false_and, and_false, and_self, not_true_eq_false, not_false_eq_true, forall_const, true_implies, false_implies, implies_true, Nat.reduceAdd, Nat.reduceSub, Nat.reduceLT, Nat.reduceLeDiff, Nat.reduceEqDiff, Nat.reduceMul, Nat.reducePow, Nat.add_one_ne_zero, Nat.add_one_sub_one, Nat.add_zero, Nat.zero_add, Int.reduceLT, Int.reduceLE, Int.reduceNeg, Int.reduceAdd, Int.reduceSub, Int.reduceToNat, Int.reduceEq, Int.reduceMul, Int.reducePow, Int.cast_ofNat_Int, Int.toNat_natCast, ne_eq, Bool.false_eq_true, true_or, or_true, or_self, Nat.not_lt_zero, ite_e0, ite_e1, lc_lt, lc_ge, lc_gt, lc_le, lc_eq, Classical.not_not]
    with_reducible repeat' (first | (refine And.intro ?_ ?_) | intro _)
    all_goals try omega
    all_goals first | omega | exact z
  · rw [show ((n : Nat) : Int) - 2 = ((n - 1 : Nat) : Int) - 1 by omega]
    exact kx_nx_p (by omega) hn fin (n - 1) (Nat.le_refl _) rfl
end NXT

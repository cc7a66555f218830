/-! 20.house: rows kept in order (pure), the class's order of the others, house, cable -/
/-- where something comes into a row: behind all at its end that b lets pass -/
def posA (b : Int → Bool) (a : Nat → Int) : Nat → Nat
  | 0 => 0
  | d + 1 => if b (a d) = true then posA b a d else d + 1
def shA (a : Nat → Int) (p d c : Nat) : Int := if c < p then a c else if c ≤ d then a (c - 1) else a c
def insA (b : Int → Bool) (a : Nat → Int) (d : Nat) (n : Int) (c : Nat) : Int := if c = posA b a d then n else shA a (posA b a d) d c
theorem posA_le {b : Int → Bool} {a : Nat → Int} : ∀ d : Nat, posA b a d ≤ d
  | 0 => Nat.le_refl 0
  | d + 1 => by
    have := posA_le (b := b) (a := a) d
    show (if b (a d) = true then posA b a d else d + 1) ≤ d + 1
    split <;> omega
theorem posA_go {b : Int → Bool} {a : Nat → Int} {d : Nat} (h : b (a d) = true) : posA b a (d + 1) = posA b a d := if_pos h
theorem posA_stop {b : Int → Bool} {a : Nat → Int} {d : Nat} (h : ¬ b (a d) = true) : posA b a (d + 1) = d + 1 := if_neg h
theorem posA_agree {b : Int → Bool} {a a' : Nat → Int} : ∀ d : Nat, (∀ c, c < d → a c = a' c) → posA b a d = posA b a' d
  | 0, _ => rfl
  | d + 1, h => by
    have ih := posA_agree (b := b) d (fun c hc => h c (by omega))
    show (if b (a d) = true then posA b a d else d + 1) = (if b (a' d) = true then posA b a' d else d + 1)
    rw [ih, h d (by omega)]
theorem insA_agree {b : Int → Bool} {a a' : Nat → Int} {d : Nat} {n : Int} (h : ∀ c, c < d → a c = a' c) : ∀ c, c < d + 1 → insA b a d n c = insA b a' d n c := fun c hc => by
  have e := posA_agree (b := b) d h
  have l := posA_le (b := b) (a := a') d
  unfold insA shA
  rw [e]
  split
  · rfl
  · split
    · exact h c (by omega)
    · rw [if_pos (by omega), if_pos (by omega)]; exact h (c - 1) (by omega)
/-- a step of the loop that makes room -/
theorem sh_step {a : Nat → Int} {p d c : Nat} (hp : 0 < p) (hd : p ≤ d) (hc : c ≠ p - 1) : (if c = p then a (p - 1) else shA a p d c) = shA a (p - 1) d c := by
  unfold shA
  by_cases h : c = p
  · rw [if_pos h, if_neg (by omega), if_pos (by omega), h]
  · rw [if_neg h]
    by_cases h2 : c < p
    · rw [if_pos h2, if_pos (by omega)]
    · rw [if_neg h2, if_neg (show ¬ c < p - 1 by omega)]
/-- the others of a house, in the order in which they are asked -/
def soB (P : Pt) (f n : Int) : Int → Bool := fun x => decide (farP P f n < farP P f x)
def soS (P : Pt) (f : Int) (h : Nat) (s : (Nat → Int) × Int) : (Nat → Int) × Int := if (h : Int) = f then s else (insA (soB P f h) s.1 s.2.toNat h, s.2 + 1)
def soP (P : Pt) (f : Int) (n : Nat) : (Nat → Int) × Int := iter (soS P f) n (fun _ => 0, 0)
theorem soP_inv {P : Pt} {f : Int} (n : Nat) : 0 ≤ (soP P f n).2 ∧ (soP P f n).2 ≤ n ∧ ∀ c : Nat, (c : Int) < (soP P f n).2 → 0 ≤ (soP P f n).1 c ∧ (soP P f n).1 c < n := by
  refine iter_inv (st := soS P f) (I := fun n s => 0 ≤ s.2 ∧ s.2 ≤ (n : Int) ∧ ∀ c : Nat, (c : Int) < s.2 → 0 ≤ s.1 c ∧ s.1 c < (n : Int)) ⟨by simp, by simp, fun c hc => by simp at hc; omega⟩ ?_
  intro i s hi ⟨h1, h2, h3⟩
  unfold soS
  split
  · exact ⟨h1, by omega, fun c hc => ⟨(h3 c hc).1, by have := (h3 c hc).2; omega⟩⟩
  · refine ⟨by show 0 ≤ s.2 + 1; omega, by show s.2 + 1 ≤ _; omega, fun c hc => ?_⟩
    have hc' : (c : Int) < s.2 + 1 := hc
    have l := posA_le (b := soB P f i) (a := s.1) s.2.toNat
    show 0 ≤ insA (soB P f i) s.1 s.2.toNat i c ∧ insA (soB P f i) s.1 s.2.toNat i c < _
    unfold insA shA
    split
    · omega
    · split
      · have := h3 c (by omega)
        omega
      · rw [if_pos (by omega)]
        have := h3 (c - 1) (by omega)
        omega
/-- all who are a number below n, and not f itself -/
theorem soP_cnt {P : Pt} {f : Int} (hf : 0 ≤ f) : ∀ n : Nat, (soP P f n).2 = if f < n then (n : Int) - 1 else n
  | 0 => by rw [if_neg (by omega)]; rfl
  | n + 1 => by
    have ih := soP_cnt (P := P) hf n
    show (soS P f n (soP P f n)).2 = _
    unfold soS
    split
    · rw [ih]; split <;> split <;> omega
    · show (soP P f n).2 + 1 = _
      rw [ih]; split <;> split <;> omega
abbrev S10 : Nat → Nat → Bool := fun o f => o == 1 && f == 10
section HSE
variable {G : Gl} {w : Wd} {k : Nat} {σ : Mem} {Q : Option AV → Mem → Prop} {P : Pt}
set_option maxRecDepth 100000 in
set_option maxHeartbeats 1000000 in
theorem kc_so_i (W : WF P) (hk : 8 ≤ k) {f n d : Int} {a : Nat → Int} (hf : 0 ≤ f ∧ f < P 2 0) (hn : 0 ≤ n ∧ n < P 2 0) (hd : 0 ≤ d ∧ d < 12) (ha : ∀ c : Nat, (c : Int) < d → 0 ≤ a c ∧ a c < P 2 0)
    (q : ∀ (σ' : Mem) (p : Int), RT True σ' 1 P → (∀ c, σ' 1 10 (f.toNat + 1) c = insA (soB P f n) a d.toNat n c) → (∀ r c, r ≠ f.toNat + 1 → σ' 1 10 r c = σ 1 10 r c) → same S10 σ σ' → TT G w w w k (0, 0) 49 81 [some (vr 1 0 0), some (vi f), some (vr 1 10 (f.toNat + 1)), some (vi (d + 1)), some (vi n), some (vi p)] [] σ' Q) :
    ∀ (m : Nat) (p : Int) (σ' : Mem), 0 ≤ p → p ≤ d → p < m → RT True σ' 1 P → posA (soB P f n) a d.toNat = posA (soB P f n) a p.toNat → (∀ c, c ≠ p.toNat → σ' 1 10 (f.toNat + 1) c = shA a p.toNat d.toNat c) → (∀ r c, r ≠ f.toNat + 1 → σ' 1 10 r c = σ 1 10 r c) → same S10 σ σ' → TT G w w w k (0, 0) 49 30 [some (vr 1 0 0), some (vi f), some (vr 1 10 (f.toNat + 1)), some (vi d), some (vi n), some (vi p)] [] σ' Q
  | 0, p, σ', h0, h1, h2, _, _, _, _, _ => by omega
  | m + 1, p, σ', h0, h1, h2, R, hp, hr, ho, hs => by
    have ih := kc_so_i W hk hf hn hd ha q m (p - 1)
    have wh := W.sc.1
    have fin : (posA (soB P f n) a p.toNat = p.toNat) → TT G w w w k (0, 0) 49 81 [some (vr 1 0 0), some (vi f), some (vr 1 10 (f.toNat + 1)), some (vi (d + 1)), some (vi n), some (vi p)] [] (up σ' 1 10 (f.toNat + 1) p.toNat n) Q := fun hst => by
      refine q _ _ (R.put3 (Or.inl rfl)) (fun c => ?_) (fun r c hrc => ?_) (hs.put rfl)
      · unfold insA
        rw [hp, hst, up_rd]
        by_cases hc : c = p.toNat
        · rw [if_pos ⟨rfl, rfl, rfl, hc⟩, if_pos hc]
        · rw [if_neg (fun z => hc z.2.2.2), if_neg hc, hr c hc]
      · rw [up_rd, if_neg (fun z => hrc z.2.2.1)]; exact ho r c hrc
    by_cases hz : p ≤ 0
    · refine TT_vb ok49 (sm3_ok G w) 60 [30, 81] ?_
      simp -implicitDefEqProofs only [↓b49_0, ↓b49_6, ↓b49_12, ↓b49_21, ↓b49_27, ↓b49_30, ↓b49_35, ↓b49_46, ↓b49_53, ↓b49_56, ↓b49_72, ↓b49_81, ↓b49_87, b49_0, b49_6, b49_12, b49_21, b49_27, b49_30, b49_35, b49_46, b49_53, b49_56, b49_72, b49_81, b49_87, nLE0, layE4, up_rd, k3_51, r51, I32, ↓xb, xb, ps, lpad, lat, aok2, rd2, aaok, aav, alok, alen, aok, akk, csum, isLg, cmpI, clsE, Option.elim, eq_self, List.mem_cons, List.not_mem_nil, or_false, false_or, List.append_nil, List.nil_append, List.cons_append, List.append_eq, List.replicate, List.length_cons, List.length_nil, List.map_cons, List.map_nil, ↓reduceIte, reduceCtorEq, if_true, if_false, true_and, and_true, false_and, and_false, and_self, not_true_eq_false, not_false_eq_true, forall_const, true_implies, false_implies, implies_true, Nat.reduceAdd, Nat.reduceSub, Nat.reduceLT, Nat.reduceLeDiff, Nat.reduceEqDiff, Nat.reduceMul, Nat.reducePow, Nat.add_one_ne_zero, Nat.add_one_sub_one, Nat.add_zero, Nat.zero_add, Int.reduceLT, Int.reduceLE, Int.reduceNeg, Int.reduceAdd, Int.reduceSub, Int.reduceToNat, Int.reduceEq, Int.reduceMul, Int.reducePow, Int.cast_ofNat_Int, Int.toNat_natCast, ne_eq, Bool.false_eq_true, true_or, or_true, or_self, Nat.not_lt_zero, ite_e0, ite_e1, lc_lt, lc_ge, lc_gt, lc_le, lc_eq, Classical.not_not]
      with_reducible repeat' (first | (refine And.intro ?_ ?_) | intro _)
      all_goals try omega
      exact fin (by rw [show p.toNat = 0 by omega]; rfl)
    · have va := ha (p.toNat - 1) (by omega)
      have v : σ' 1 10 (f.toNat + 1) (p - 1).toNat = a (p.toNat - 1) := by
        rw [show (p - 1).toNat = p.toNat - 1 by omega, hr _ (by omega)]
        exact if_pos (by omega)
      have x1 := R.xy W (a := f) (by omega)
      have x2 := R.xy W (a := a (p.toNat - 1)) (by omega)
      have x3 := R.xy W (a := n) (by omega)
      have x4 := R.far_t (a := f) (b := a (p.toNat - 1)) (by omega) (by omega)
      have x5 := R.far_t (a := f) (b := n) (by omega) (by omega)
      refine TT_vb ok49 (sm3_ok G w) 60 [30, 81] ?_
      simp -implicitDefEqProofs only [↓b49_0, ↓b49_6, ↓b49_12, ↓b49_21, ↓b49_27, ↓b49_30, ↓b49_35, ↓b49_46, ↓b49_53, ↓b49_56, ↓b49_72, ↓b49_81, ↓b49_87, b49_0, b49_6, b49_12, b49_21, b49_27, b49_30, b49_35, b49_46, b49_53, b49_56, b49_72, b49_81, b49_87, nLE0, layE4, v, x1, x2, x3, x4, x5, k3_51, r51, I32, ↓xb, xb, ps, lpad, lat, aok2, rd2, aaok, aav, alok, alen, aok, akk, csum, isLg, cmpI, clsE, Option.elim, eq_self, List.mem_cons, List.not_mem_nil, or_false, false_or, List.append_nil, List.nil_append, List.cons_append, List.append_eq, List.replicate, List.length_cons, List.length_nil, List.map_cons, List.map_nil, ↓reduceIte, reduceCtorEq, if_true, if_false, true_and, and_true, false_and, and_false, and_self, not_true_eq_false, not_false_eq_true, forall_const, true_implies, false_implies, implies_true, Nat.reduceAdd, Nat.reduceSub, Nat.reduceLT, Nat.reduceLeDiff, Nat.reduceEqDiff, Nat.reduceMul, Nat.reducePow, Nat.add_one_ne_zero, Nat.add_one_sub_one, Nat.add_zero, Nat.zero_add, Int.reduceLT, Int.reduceLE, Int.reduceNeg, Int.reduceAdd, Int.reduceSub, Int.reduceToNat, Int.reduceEq, Int.reduceMul, Int.reducePow, Int.cast_ofNat_Int, Int.toNat_natCast, ne_eq, Bool.false_eq_true, true_or, or_true, or_self, Nat.not_lt_zero, ite_e0, ite_e1, lc_lt, lc_ge, lc_gt, lc_le, lc_eq, Classical.not_not]
      with_reducible repeat' (first | (refine And.intro ?_ ?_) | intro _)
      all_goals try omega
      · refine fin ?_
        rw [show p.toNat = (p.toNat - 1) + 1 by omega]
        refine posA_stop ?_
        unfold soB
        rw [decide_eq_true_iff]
        omega
      · have hgo : posA (soB P f n) a p.toNat = posA (soB P f n) a (p - 1).toNat := by
          rw [show p.toNat = (p.toNat - 1) + 1 by omega, show (p - 1).toNat = p.toNat - 1 by omega]
          refine posA_go ?_
          unfold soB
          rw [decide_eq_true_iff]
          omega
        rw [show p + -1 = p - 1 by omega]
        refine ih _ (by omega) (by omega) (by omega) (R.put3 (Or.inl rfl)) (hp.trans hgo) (fun c hc => ?_) (fun r c hrc => ?_) (hs.put rfl)
        · rw [up_rd, show (p - 1).toNat = p.toNat - 1 by omega, ← sh_step (a := a) (d := d.toNat) (c := c) (by omega) (by omega) (by omega)]
          by_cases hc2 : c = p.toNat
          · rw [if_pos ⟨rfl, rfl, rfl, hc2⟩, if_pos hc2]
          · rw [if_neg (fun z => hc2 z.2.2.2), if_neg hc2, hr c hc2]
        · rw [up_rd, if_neg (fun z => hrc z.2.2.1)]; exact ho r c hrc
set_option maxRecDepth 100000 in
set_option maxHeartbeats 1000000 in
theorem kc_so_l (W : WF P) (hk : 8 ≤ k) {f : Int} (hf : 0 ≤ f ∧ f < P 2 0)
    (q : ∀ σ', RT True σ' 1 P → (∀ c : Nat, (c : Int) < (soP P f (P 2 0).toNat).2 → σ' 1 10 (f.toNat + 1) c = (soP P f (P 2 0).toNat).1 c) → (∀ r c, r ≠ f.toNat + 1 → σ' 1 10 r c = σ 1 10 r c) → same S10 σ σ' → Q none σ') :
    ∀ (m : Nat) (i d : Int) (σ' : Mem) (l5 : Option AV), 0 ≤ i → i ≤ P 2 0 → P 2 0 < i + m → RT True σ' 1 P → d = (soP P f i.toNat).2 → (∀ c : Nat, (c : Int) < (soP P f i.toNat).2 → σ' 1 10 (f.toNat + 1) c = (soP P f i.toNat).1 c) → (∀ r c, r ≠ f.toNat + 1 → σ' 1 10 r c = σ 1 10 r c) → same S10 σ σ' → TT G w w w k (0, 0) 49 12 [some (vr 1 0 0), some (vi f), some (vr 1 10 (f.toNat + 1)), some (vi d), some (vi i), l5] [] σ' Q
  | 0, i, d, σ', l5, h0, h1, h2, _, _, _, _, _ => by omega
  | m + 1, i, d, σ', l5, h0, h1, h2, R, hd, hr, ho, hs => by
    have ih := kc_so_l W hk hf q m (i + 1)
    have wh := W.sc.1
    have e1 := R.houses
    have es : soP P f (i + 1).toNat = soS P f i.toNat (soP P f i.toNat) := iter_toNat _ h0 _
    obtain ⟨v1, v2, v3⟩ := soP_inv (P := P) (f := f) i.toNat
    have vc := soP_cnt (P := P) hf.1 i.toNat
    refine TT_vb ok49 (sm3_ok G w) 60 [12, 30] ?_
    simp -implicitDefEqProofs only [↓b49_0, ↓b49_6, ↓b49_12, ↓b49_21, ↓b49_27, ↓b49_30, ↓b49_35, ↓b49_46, ↓b49_53, ↓b49_56, ↓b49_72, ↓b49_81, ↓b49_87, b49_0, b49_6, b49_12, b49_21, b49_27, b49_30, b49_35, b49_46, b49_53, b49_56, b49_72, b49_81, b49_87, nLE0, layE4, e1, k3_51, r51, I32, ↓xb, xb, ps, lpad, lat, aok2, rd2, aaok, aav, alok, alen, aok, akk, csum, isLg, cmpI, clsE, Option.elim, eq_self, List.mem_cons, List.not_mem_nil, or_false, false_or, List.append_nil, List.nil_append, List.cons_append, List.append_eq, List.replicate, List.length_cons, List.length_nil, List.map_cons, List.map_nil, ↓reduceIte, reduceCtorEq, if_true, if_false, true_and, and_true, false_and, and_false, and_self, not_true_eq_false, not_false_eq_true, forall_const, true_implies, false_implies, implies_true, Nat.reduceAdd, Nat.reduceSub, Nat.reduceLT, Nat.reduceLeDiff, Nat.reduceEqDiff, Nat.reduceMul, Nat.reducePow, Nat.add_one_ne_zero, Nat.add_one_sub_one, Nat.add_zero, Nat.zero_add, Int.reduceLT, Int.reduceLE, Int.reduceNeg, Int.reduceAdd, Int.reduceSub, Int.reduceToNat, Int.reduceEq, Int.reduceMul, Int.reducePow, Int.cast_ofNat_Int, Int.toNat_natCast, ne_eq, Bool.false_eq_true, true_or, or_true, or_self, Nat.not_lt_zero, ite_e0, ite_e1, lc_lt, lc_ge, lc_gt, lc_le, lc_eq, Classical.not_not]
    with_reducible repeat' (first | (refine And.intro ?_ ?_) | intro _)
    all_goals try omega
    · have ei : i = P 2 0 := by omega
      rw [ei] at hr
      exact q σ' R hr ho hs
    · have e2 : soP P f (i + 1).toNat = soP P f i.toNat := by
        rw [es]; exact if_pos (by omega)
      refine ih _ _ _ (by omega) (by omega) (by omega) R (by rw [e2]; exact hd) (by rw [e2]; exact hr) ho hs
    · have e2 : soP P f (i + 1).toNat = (insA (soB P f i) (soP P f i.toNat).1 (soP P f i.toNat).2.toNat i, (soP P f i.toNat).2 + 1) := by
        rw [es]
        unfold soS
        rw [if_neg (by omega), show ((i.toNat : Nat) : Int) = i by omega]
      have hd12 : 0 ≤ d ∧ d < 12 := by
        rw [hd, vc]; split <;> omega
      refine kc_so_i (a := fun c => σ' 1 10 (f.toNat + 1) c) W hk hf (n := i) (d := d) (by omega) hd12 (fun c hc => ?_) (fun σ2 p R2 r1 r2 r3 => ?_) 13 d σ' (by omega) (by omega) (by omega) R rfl (fun c hc => ?_) (fun _ _ _ => rfl) same.refl
      · rw [hd] at hc
        show 0 ≤ σ' 1 10 (f.toNat + 1) c ∧ σ' 1 10 (f.toNat + 1) c < P 2 0
        rw [hr c hc]
        have := v3 c hc
        omega
      · refine TT_vb ok49 (sm3_ok G w) 60 [12] ?_
        simp -implicitDefEqProofs only [↓b49_0, ↓b49_6, ↓b49_12, ↓b49_21, ↓b49_27, ↓b49_30, ↓b49_35, ↓b49_46, ↓b49_53, ↓b49_56, ↓b49_72, ↓b49_81, ↓b49_87, b49_0, b49_6, b49_12, b49_21, b49_27, b49_30, b49_35, b49_46, b49_53, b49_56, b49_72, b49_81, b49_87, nLE0, layE4, e1, k3_51, r51, I32, ↓xb, xb, ps, lpad, lat, aok2, rd2, aaok, aav, alok, alen, aok, akk, csum, isLg, cmpI, clsE, Option.elim, eq_self, List.mem_cons, List.not_mem_nil, or_false, false_or, List.append_nil, List.nil_append, List.cons_append, List.append_eq, List.replicate, List.length_cons, List.length_nil, List.map_cons, List.map_nil, ↓reduceIte, reduceCtorEq, if_true, if_false, true_and, and_true, false_and, and_false, and_self, not_true_eq_false, not_false_eq_true, forall_const, true_implies, false_implies, implies_true, Nat.reduceAdd, Nat.reduceSub, Nat.reduceLT, Nat.reduceLeDiff, Nat.reduceEqDiff, Nat.reduceMul, Nat.reducePow, Nat.add_one_ne_zero, Nat.add_one_sub_one, Nat.add_zero, Nat.zero_add, Int.reduceLT, Int.reduceLE, Int.reduceNeg, Int.reduceAdd, Int.reduceSub, Int.reduceToNat, Int.reduceEq, Int.reduceMul, Int.reducePow, Int.cast_ofNat_Int, Int.toNat_natCast, ne_eq, Bool.false_eq_true, true_or, or_true, or_self, Nat.not_lt_zero, ite_e0, ite_e1, lc_lt, lc_ge, lc_gt, lc_le, lc_eq, Classical.not_not]
        with_reducible repeat' (first | (refine And.intro ?_ ?_) | intro _)
        all_goals try omega
        refine ih _ _ _ (by omega) (by omega) (by omega) R2 (by rw [e2, hd]) (fun c hc => ?_) (fun r c hrc => (r2 r c hrc).trans (ho r c hrc)) (hs.trans r3)
        rw [e2] at hc ⊢
        have hc' : (c : Int) < (soP P f i.toNat).2 + 1 := hc
        rw [r1 c, hd]
        exact insA_agree (fun c hc2 => hr c (by omega)) c (by omega)
      · show σ' 1 10 (f.toNat + 1) c = shA (fun c => σ' 1 10 (f.toNat + 1) c) d.toNat d.toNat c
        unfold shA
        by_cases z : c < d.toNat
        · rw [if_pos z]
        · rw [if_neg z, if_neg (by omega)]
set_option maxRecDepth 100000 in
set_option maxHeartbeats 1000000 in
theorem kc_so (R : RT True σ 1 P) (W : WF P) (hk : 8 ≤ k) {f : Int} (hf : 0 ≤ f ∧ f < P 2 0)
    (q : ∀ σ', RT True σ' 1 P → (∀ c : Nat, (c : Int) < (soP P f (P 2 0).toNat).2 → σ' 1 10 (f.toNat + 1) c = (soP P f (P 2 0).toNat).1 c) → (∀ r c, r ≠ f.toNat + 1 → σ' 1 10 r c = σ 1 10 r c) → same S10 σ σ' → Q none σ') : CC G w w k (0, 0) 49 [vr 1 0 0, vi f] σ Q := by
  have wh := W.sc.1
  refine CC_vb ok49 (by decide) (sm3_ok G w) 60 [12] (Nat.le_of_ble_eq_true rfl) ?_
  simp -implicitDefEqProofs only [↓b49_0, ↓b49_6, ↓b49_12, ↓b49_21, ↓b49_27, ↓b49_30, ↓b49_35, ↓b49_46, ↓b49_53, ↓b49_56, ↓b49_72, ↓b49_81, ↓b49_87, b49_0, b49_6, b49_12, b49_21, b49_27, b49_30, b49_35, b49_46, b49_53, b49_56, b49_72, b49_81, b49_87, nLE0, layE4, hk, k3_51, r51, I32, ↓xb, xb, ps, lpad, lat, aok2, rd2, aaok, aav, alok, alen, aok, akk, csum, isLg, cmpI, clsE, Option.elim, eq_self, List.mem_cons, List.not_mem_nil, or_false, false_or, List.append_nil, List.nil_append, List.cons_append, List.append_eq, List.replicate, List.length_cons, List.length_nil, List.map_cons, List.map_nil, ↓reduceIte, reduceCtorEq, if_true, if_false, true_and, and_true, false_and, and_false, and_self, not_true_eq_false, not_false_eq_true, forall_const, true_implies, false_implies, implies_true, Nat.reduceAdd, Nat.reduceSub, Nat.reduceLT, Nat.reduceLeDiff, Nat.reduceEqDiff, Nat.reduceMul, Nat.reducePow, Nat.add_one_ne_zero, Nat.add_one_sub_one, Nat.add_zero, Nat.zero_add, Int.reduceLT, Int.reduceLE, Int.reduceNeg, Int.reduceAdd, Int.reduceSub, Int.reduceToNat, Int.reduceEq, Int.reduceMul, Int.reducePow, Int.cast_ofNat_Int, Int.toNat_natCast, ne_eq, Bool.false_eq_true, true_or, or_true, or_self, Nat.not_lt_zero, ite_e0, ite_e1, lc_lt, lc_ge, lc_gt, lc_le, lc_eq, Classical.not_not]
  with_reducible repeat' (first | (refine And.intro ?_ ?_) | intro _)
  all_goals try omega
  refine kc_so_l W hk hf q 13 0 0 σ none (by omega) (by omega) (by omega) R rfl (fun c hc => ?_) (fun _ _ _ => rfl) same.refl
  exact absurd hc (show ¬ (c : Int) < 0 by omega)
/-- the others of each house stand in their order -/
def NRs (σ : Mem) (t : Nat) (P : Pt) : Prop := ∀ f : Int, 0 ≤ f → f < P 2 0 → ∀ c : Nat, (c : Int) < (soP P f (P 2 0).toNat).2 → σ t 10 (f.toNat + 1) c = (soP P f (P 2 0).toNat).1 c
set_option maxRecDepth 100000 in
set_option maxHeartbeats 1000000 in
theorem kc_add_l (W : WF P) (hk : 9 ≤ k) (q : ∀ σ', RT True σ' 1 P → NRs σ' 1 P → same S10 σ σ' → Q (some (vi (P 2 0 - 1))) σ') :
    ∀ (m : Nat) (i : Int) (σ' : Mem) (l1 l2 l3 l4 : Option AV), 0 ≤ i → i ≤ P 2 0 → P 2 0 < i + m → RT True σ' 1 P → (∀ f : Int, 0 ≤ f → f < i → ∀ c : Nat, (c : Int) < (soP P f (P 2 0).toNat).2 → σ' 1 10 (f.toNat + 1) c = (soP P f (P 2 0).toNat).1 c) → same S10 σ σ' → TT G w w w k (0, 0) 48 53 [some (vr 1 0 0), l1, l2, l3, some (vr 1 9 ((P 2 0 - 1).toNat + 1)), some (vi i)] [] σ' Q
  | 0, i, σ', l1, l2, l3, l4, h0, h1, h2, _, _, _ => by omega
  | m + 1, i, σ', l1, l2, l3, l4, h0, h1, h2, R, hn, hs => by
    have ih := kc_add_l W hk q m (i + 1)
    have wh := W.sc.1
    have e1 := R.houses
    refine TT_vb ok48 (sm3_ok G w) 60 [53] ?_
    simp -implicitDefEqProofs only [↓b48_0, ↓b48_9, ↓b48_11, ↓b48_20, ↓b48_53, ↓b48_62, ↓b48_68, ↓b48_74, b48_0, b48_9, b48_11, b48_20, b48_53, b48_62, b48_68, b48_74, nLE0, layE4, e1, n3_49, I32, ↓xb, xb, ps, lpad, lat, aok2, rd2, aaok, aav, alok, alen, aok, akk, csum, isLg, cmpI, clsE, Option.elim, eq_self, List.mem_cons, List.not_mem_nil, or_false, false_or, List.append_nil, List.nil_append, List.cons_append, List.append_eq, List.replicate, List.length_cons, List.length_nil, List.map_cons, List.map_nil, ↓reduceIte, reduceCtorEq, if_true, if_false, true_and, and_true, false_and, and_false, and_self, not_true_eq_false, not_false_eq_true, forall_const, true_implies, false_implies, implies_true, Nat.reduceAdd, Nat.reduceSub, Nat.reduceLT, Nat.reduceLeDiff, Nat.reduceEqDiff, Nat.reduceMul, Nat.reducePow, Nat.add_one_ne_zero, Nat.add_one_sub_one, Nat.add_zero, Nat.zero_add, Int.reduceLT, Int.reduceLE, Int.reduceNeg, Int.reduceAdd, Int.reduceSub, Int.reduceToNat, Int.reduceEq, Int.reduceMul, Int.reducePow, Int.cast_ofNat_Int, Int.toNat_natCast, ne_eq, Bool.false_eq_true, true_or, or_true, or_self, Nat.not_lt_zero, ite_e0, ite_e1, lc_lt, lc_ge, lc_gt, lc_le, lc_eq, Classical.not_not]
    with_reducible repeat' (first | (refine And.intro ?_ ?_) | intro _)
    all_goals try omega
    · have ei : i = P 2 0 := by omega
      rw [ei] at hn
      exact q σ' R hn hs
    · refine kc_so R W (by omega) ⟨h0, by omega⟩ (fun σ2 R2 r1 r2 r3 => ?_)
      simp -implicitDefEqProofs only [↓b48_0, ↓b48_9, ↓b48_11, ↓b48_20, ↓b48_53, ↓b48_62, ↓b48_68, ↓b48_74, b48_0, b48_9, b48_11, b48_20, b48_53, b48_62, b48_68, b48_74, nLE0, layE4, e1, n3_49, I32, ↓xb, xb, ps, lpad, lat, aok2, rd2, aaok, aav, alok, alen, aok, akk, csum, isLg, cmpI, clsE, Option.elim, eq_self, List.mem_cons, List.not_mem_nil, or_false, false_or, List.append_nil, List.nil_append, List.cons_append, List.append_eq, List.replicate, List.length_cons, List.length_nil, List.map_cons, List.map_nil, ↓reduceIte, reduceCtorEq, if_true, if_false, true_and, and_true, false_and, and_false, and_self, not_true_eq_false, not_false_eq_true, forall_const, true_implies, false_implies, implies_true, Nat.reduceAdd, Nat.reduceSub, Nat.reduceLT, Nat.reduceLeDiff, Nat.reduceEqDiff, Nat.reduceMul, Nat.reducePow, Nat.add_one_ne_zero, Nat.add_one_sub_one, Nat.add_zero, Nat.zero_add, Int.reduceLT, Int.reduceLE, Int.reduceNeg, Int.reduceAdd, Int.reduceSub, Int.reduceToNat, Int.reduceEq, Int.reduceMul, Int.reducePow, Int.cast_ofNat_Int, Int.toNat_natCast, ne_eq, Bool.false_eq_true, true_or, or_true, or_self, Nat.not_lt_zero, ite_e0, ite_e1, lc_lt, lc_ge, lc_gt, lc_le, lc_eq, Classical.not_not]
      with_reducible repeat' (first | (refine And.intro ?_ ?_) | intro _)
      all_goals try omega
      refine ih _ _ _ _ l4 (by omega) (by omega) (by omega) R2 (fun f hf0 hf1 c hc => ?_) (hs.trans r3)
      by_cases z : f = i
      · rw [z] at hc ⊢
        exact r1 c hc
      · rw [r2 _ _ (by omega)]
        exact hn f hf0 (by omega) c hc
abbrev P_house (P : Pt) (x y p : Int) : Pt := pu (pu (pu (pu P 3 (P 2 0).toNat x) 4 (P 2 0).toNat y) 5 (P 2 0).toNat p) 2 0 (P 2 0 + 1)
set_option maxRecDepth 100000 in
set_option maxHeartbeats 1000000 in
theorem kc_add (R : RT True σ 1 P) (W : WF P) (hk : 10 ≤ k) {x y p : Int} (W' : P 2 0 < 12 → WF (P_house P x y p)) (q0 : ¬ P 2 0 < 12 → Q (some (vi (-1))) σ)
    (q1 : P 2 0 < 12 → ∀ σ', RT True σ' 1 (P_house P x y p) → NRs σ' 1 (P_house P x y p) → same (fun o f => o == 1 && (f == 9 || f == 3 || f == 10)) σ σ' → Q (some (vi (P 2 0))) σ') : CC G w w k (0, 0) 48 [vr 1 0 0, vi x, vi y, vi p] σ Q := by
  have wh := W.sc.1
  have e1 := R.houses
  refine CC_vb ok48 (by decide) (sm3_ok G w) 60 [53] (Nat.le_of_ble_eq_true rfl) ?_
  simp -implicitDefEqProofs only [↓b48_0, ↓b48_9, ↓b48_11, ↓b48_20, ↓b48_53, ↓b48_62, ↓b48_68, ↓b48_74, b48_0, b48_9, b48_11, b48_20, b48_53, b48_62, b48_68, b48_74, nLE0, layE4, e1, up_rd, n3_49, I32, ↓xb, xb, ps, lpad, lat, aok2, rd2, aaok, aav, alok, alen, aok, akk, csum, isLg, cmpI, clsE, Option.elim, eq_self, List.mem_cons, List.not_mem_nil, or_false, false_or, List.append_nil, List.nil_append, List.cons_append, List.append_eq, List.replicate, List.length_cons, List.length_nil, List.map_cons, List.map_nil, ↓reduceIte, reduceCtorEq, if_true, if_false, true_and, and_true, false_and, and_false, and_self, not_true_eq_false, not_false_eq_true, forall_const, true_implies, false_implies, implies_true, Nat.reduceAdd, Nat.reduceSub, Nat.reduceLT, Nat.reduceLeDiff, Nat.reduceEqDiff, Nat.reduceMul, Nat.reducePow, Nat.add_one_ne_zero, Nat.add_one_sub_one, Nat.add_zero, Nat.zero_add, Int.reduceLT, Int.reduceLE, Int.reduceNeg, Int.reduceAdd, Int.reduceSub, Int.reduceToNat, Int.reduceEq, Int.reduceMul, Int.reducePow, Int.cast_ofNat_Int, Int.toNat_natCast, ne_eq, Bool.false_eq_true, true_or, or_true, or_self, Nat.not_lt_zero, ite_e0, ite_e1, lc_lt, lc_ge, lc_gt, lc_le, lc_eq, Classical.not_not]
  with_reducible repeat' (first | (refine And.intro ?_ ?_) | intro _)
  all_goals try omega
  all_goals try exact q0 (by omega)
  have h12 : P 2 0 < 12 := by omega
  have hp : P_house P x y p 2 0 = P 2 0 + 1 := pu_eq
  have R2 : RT True (up (up (up (up σ 1 9 ((P 2 0).toNat + 1) 8 x) 1 9 ((P 2 0).toNat + 1) 9 y) 1 9 ((P 2 0).toNat + 1) 6 p) 1 3 0 0 (P 2 0 + 1)) 1 (P_house P x y p) := (((R.u_x (by omega)).u_y (by omega)).u_people (by omega)).u_houses
  have hh := kc_add_l (P := P_house P x y p) (G := G) (w := w) (k := k) (Q := Q) (σ := up (up (up (up σ 1 9 ((P 2 0).toNat + 1) 8 x) 1 9 ((P 2 0).toNat + 1) 9 y) 1 9 ((P 2 0).toNat + 1) 6 p) 1 3 0 0 (P 2 0 + 1)) (W' h12) (by omega)
    (fun σ' a b c => by
      rw [hp, show P 2 0 + 1 - 1 = P 2 0 by omega]
      exact q1 h12 σ' a b ((((((same.refl.put rfl).put rfl).put rfl).put rfl).trans (c.mono (fun o f hof => by
        simp only [Bool.and_eq_true, beq_iff_eq, Bool.or_eq_true] at hof ⊢
        exact ⟨hof.1, Or.inr hof.2⟩)))))
    14 0 _ (some (vi x)) (some (vi y)) (some (vi p)) none (by omega) (by rw [hp]; omega) (by rw [hp]; omega) R2 (fun f hf0 hf1 => by omega) same.refl
  rw [hp, show P 2 0 + 1 - 1 = P 2 0 by omega] at hh
  exact hh
set_option maxRecDepth 100000 in
set_option maxHeartbeats 1000000 in
theorem kc_house (R : RT True σ 1 P) (W : WF P) (hk : 12 ≤ k) {x y p : Int} (W' : ((0 ≤ x ∧ x ≤ 99) ∧ (0 ≤ y ∧ y ≤ 99) ∧ (0 ≤ p ∧ p ≤ 9) ∧ P 2 0 < 12) → WF (P_house P x y p)) (q0 : ¬ ((0 ≤ x ∧ x ≤ 99) ∧ (0 ≤ y ∧ y ≤ 99) ∧ (0 ≤ p ∧ p ≤ 9) ∧ P 2 0 < 12) → Q (some (vi (-1))) σ)
    (q1 : ((0 ≤ x ∧ x ≤ 99) ∧ (0 ≤ y ∧ y ≤ 99) ∧ (0 ≤ p ∧ p ≤ 9) ∧ P 2 0 < 12) → ∀ σ', RT True σ' 1 (P_house P x y p) → NRs σ' 1 (P_house P x y p) → same (fun o f => o == 1 && (f == 9 || f == 3 || f == 10)) σ σ' → Q (some (vi (P 2 0))) σ') : CC G w w k (0, 0) 78 [vr 0 0 0, vi x, vi y, vi p] σ Q := by
  have wh := W.sc.1
  refine CC_vb ok78 (by decide) (sm3_ok G w) 60 [] (Nat.le_of_ble_eq_true rfl) ?_
  simp -implicitDefEqProofs only [↓b78_0, ↓b78_7, ↓b78_10, ↓b78_17, ↓b78_20, ↓b78_27, ↓b78_30, ↓b78_32, ↓b78_42, b78_0, b78_7, b78_10, b78_17, b78_20, b78_27, b78_30, b78_32, b78_42, nLE1, layE7, layE4, layE3, layE2, hk, k3_76, r76, n3_48, I32, ↓xb, xb, ps, lpad, lat, aok2, rd2, aaok, aav, alok, alen, aok, akk, csum, isLg, cmpI, clsE, Option.elim, eq_self, List.mem_cons, List.not_mem_nil, or_false, false_or, List.append_nil, List.nil_append, List.cons_append, List.append_eq, List.replicate, List.length_cons, List.length_nil, List.map_cons, List.map_nil, ↓reduceIte, reduceCtorEq, if_true, if_false, true_and, and_true, false_and, and_false, and_self, not_true_eq_false, not_false_eq_true, forall_const, true_implies, false_implies, implies_true, Nat.reduceAdd, Nat.reduceSub, Nat.reduceLT, Nat.reduceLeDiff, Nat.reduceEqDiff, Nat.reduceMul, Nat.reducePow, Nat.add_one_ne_zero, Nat.add_one_sub_one, Nat.add_zero, Nat.zero_add, Int.reduceLT, Int.reduceLE, Int.reduceNeg, Int.reduceAdd, Int.reduceSub, Int.reduceToNat, Int.reduceEq, Int.reduceMul, Int.reducePow, Int.cast_ofNat_Int, Int.toNat_natCast, ne_eq, Bool.false_eq_true, true_or, or_true, or_self, Nat.not_lt_zero, ite_e0, ite_e1, lc_lt, lc_ge, lc_gt, lc_le, lc_eq, Classical.not_not]
  with_reducible repeat' (first | (refine And.intro ?_ ?_) | intro _)
  all_goals try omega
  all_goals try exact q0 (by omega)
  refine kc_add R W (by omega) (fun z => W' (by omega)) (fun z => ?_) (fun z σ' a b c => ?_)
  · simp -implicitDefEqProofs only [↓b78_0, ↓b78_7, ↓b78_10, ↓b78_17, ↓b78_20, ↓b78_27, ↓b78_30, ↓b78_32, ↓b78_42, b78_0, b78_7, b78_10, b78_17, b78_20, b78_27, b78_30, b78_32, b78_42, nLE1, layE7, layE4, layE3, layE2, hk, k3_76, r76, n3_48, I32, ↓xb, xb, ps, lpad, lat, aok2, rd2, aaok, aav, alok, alen, aok, akk, csum, isLg, cmpI, clsE, Option.elim, eq_self, List.mem_cons, List.not_mem_nil, or_false, false_or, List.append_nil, List.nil_append, List.cons_append, List.append_eq, List.replicate, List.length_cons, List.length_nil, List.map_cons, List.map_nil, ↓reduceIte, reduceCtorEq, if_true, if_false, true_and, and_true, false_and, and_false, and_self, not_true_eq_false, not_false_eq_true, forall_const, true_implies, false_implies, implies_true, Nat.reduceAdd, Nat.reduceSub, Nat.reduceLT, Nat.reduceLeDiff, Nat.reduceEqDiff, Nat.reduceMul, Nat.reducePow, Nat.add_one_ne_zero, Nat.add_one_sub_one, Nat.add_zero, Nat.zero_add, Int.reduceLT, Int.reduceLE, Int.reduceNeg, Int.reduceAdd, Int.reduceSub, Int.reduceToNat, Int.reduceEq, Int.reduceMul, Int.reducePow, Int.cast_ofNat_Int, Int.toNat_natCast, ne_eq, Bool.false_eq_true, true_or, or_true, or_self, Nat.not_lt_zero, ite_e0, ite_e1, lc_lt, lc_ge, lc_gt, lc_le, lc_eq, Classical.not_not]
    with_reducible repeat' (first | (refine And.intro ?_ ?_) | intro _)
    all_goals try omega
    exact q0 (by omega)
  · simp -implicitDefEqProofs only [↓b78_0, ↓b78_7, ↓b78_10, ↓b78_17, ↓b78_20, ↓b78_27, ↓b78_30, ↓b78_32, ↓b78_42, b78_0, b78_7, b78_10, b78_17, b78_20, b78_27, b78_30, b78_32, b78_42, nLE1, layE7, layE4, layE3, layE2, hk, k3_76, r76, n3_48, I32, ↓xb, xb, ps, lpad, lat, aok2, rd2, aaok, aav, alok, alen, aok, akk, csum, isLg, cmpI, clsE, Option.elim, eq_self, List.mem_cons, List.not_mem_nil, or_false, false_or, List.append_nil, List.nil_append, List.cons_append, List.append_eq, List.replicate, List.length_cons, List.length_nil, List.map_cons, List.map_nil, ↓reduceIte, reduceCtorEq, if_true, if_false, true_and, and_true, false_and, and_false, and_self, not_true_eq_false, not_false_eq_true, forall_const, true_implies, false_implies, implies_true, Nat.reduceAdd, Nat.reduceSub, Nat.reduceLT, Nat.reduceLeDiff, Nat.reduceEqDiff, Nat.reduceMul, Nat.reducePow, Nat.add_one_ne_zero, Nat.add_one_sub_one, Nat.add_zero, Nat.zero_add, Int.reduceLT, Int.reduceLE, Int.reduceNeg, Int.reduceAdd, Int.reduceSub, Int.reduceToNat, Int.reduceEq, Int.reduceMul, Int.reducePow, Int.cast_ofNat_Int, Int.toNat_natCast, ne_eq, Bool.false_eq_true, true_or, or_true, or_self, Nat.not_lt_zero, ite_e0, ite_e1, lc_lt, lc_ge, lc_gt, lc_le, lc_eq, Classical.not_not]
    with_reducible repeat' (first | (refine And.intro ?_ ?_) | intro _)
    all_goals try omega
    exact q1 (by omega) σ' a b c
set_option maxRecDepth 100000 in
set_option maxHeartbeats 1000000 in
theorem kx_house (M : MR σ P) (W : WF P) (hk : 8 ≤ k) {x y p : Int} (q0 : ¬ ((0 ≤ x ∧ x ≤ 99) ∧ (0 ≤ y ∧ y ≤ 99) ∧ (0 ≤ p ∧ p ≤ 9) ∧ P 2 0 < 12) → Q (some (vi (-1))) σ)
    (q1 : ((0 ≤ x ∧ x ≤ 99) ∧ (0 ≤ y ∧ y ≤ 99) ∧ (0 ≤ p ∧ p ≤ 9) ∧ P 2 0 < 12) → Q (some (vi (P 2 0))) (up (up (up (up σ 21 3 0 (P 2 0).toNat x) 21 4 0 (P 2 0).toNat y) 21 5 0 (P 2 0).toNat p) 21 2 0 0 (P 2 0 + 1))) : CC G w w k (0, 0) 135 [vr 21 0 0, vi x, vi y, vi p] σ Q := by
  have wh := W.sc.1
  have hM : ∀ f i, 2 ≤ f → f ≤ 38 → σ 21 f 0 i = P f i := M
  refine CC_vb ok135 (by decide) (sm3_ok G w) 60 [] (Nat.le_of_ble_eq_true rfl) ?_
  simp -implicitDefEqProofs only [↓b135_0, ↓b135_15, ↓b135_24, ↓b135_27, ↓b135_36, ↓b135_39, ↓b135_48, ↓b135_51, ↓b135_53, b135_0, b135_15, b135_24, b135_27, b135_36, b135_39, b135_48, b135_51, b135_53, nLE2, layE8, hM, up_rd, k3_128, r128, I32, ↓xb, xb, ps, lpad, lat, aok2, rd2, aaok, aav, alok, alen, aok, akk, csum, isLg, cmpI, clsE, Option.elim, eq_self, List.mem_cons, List.not_mem_nil, or_false, false_or, List.append_nil, List.nil_append, List.cons_append, List.append_eq, List.replicate, List.length_cons, List.length_nil, List.map_cons, List.map_nil, ↓reduceIte, reduceCtorEq, if_true, if_false, true_and, and_true, false_and, and_false, and_self, not_true_eq_false, not_false_eq_true, forall_const, true_implies, false_implies, implies_true, Nat.reduceAdd, Nat.reduceSub, Nat.reduceLT, Nat.reduceLeDiff, Nat.reduceEqDiff, Nat.reduceMul, Nat.reducePow, Nat.add_one_ne_zero, Nat.add_one_sub_one, Nat.add_zero, Nat.zero_add, Int.reduceLT, Int.reduceLE, Int.reduceNeg, Int.reduceAdd, Int.reduceSub, Int.reduceToNat, Int.reduceEq, Int.reduceMul, Int.reducePow, Int.cast_ofNat_Int, Int.toNat_natCast, ne_eq, Bool.false_eq_true, true_or, or_true, or_self, Nat.not_lt_zero, ite_e0, ite_e1, lc_lt, lc_ge, lc_gt, lc_le, lc_eq, Classical.not_not]
  with_reducible repeat' (first | (refine And.intro ?_ ?_) | intro _)
  all_goals try (first | omega | assumption | exact q0 (by omega) | exact qvi (q1 (by omega)) (by first | rfl | omega))
end HSE

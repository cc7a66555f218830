/-! 66.reachd: reach (class), whole -/
section RCD
variable {G : Gl} {w : Wd} {k : Nat} {σ : Mem} {Q : Option AV → Mem → Prop} {P : Pt}
theorem tb_lt {n x W : Nat} (hx : W.testBit x = true) (hW : W < 2 ^ n) : x < n := by
  have := tb_le hx
  have l : 2 ^ x < 2 ^ n := by omega
  exact (Nat.pow_lt_pow_iff_right (a := 2) (by omega)).mp l
set_option maxRecDepth 100000 in
set_option maxHeartbeats 1000000 in
theorem kc_ln_l (R : RT True σ 1 P) (W : WF P) (hk : 12 ≤ k) {v2 : Int} :
    ∀ (m : Nat) (S T : Nat → Prop) (lf : Nat) (last len i : Int) (σ' : Mem) (l7 l8 : Option AV), (∀ x, T x ↔ lf.testBit x = true) → lf < 2 ^ (P 2 0).toNat → pcN lf < m → 0 ≤ i → i + (pcN lf : Nat) ≤ 12 → 0 ≤ last → last < 12 → S last.toNat → (∀ x, S x → x < 12) →
      (∀ x, lf.testBit x = true → OFx P σ' S last.toNat x) → same S91 σ σ' → 0 ≤ len → len ≤ 198 * i →
      (∀ (L : Int) (mm : Nat), Pr (dP P) mm S T L → 0 ≤ L → len + L ≤ 2400 → ∀ σ'', same S91 σ σ'' → Q (some (vi (len + L))) σ'') →
      TT G w w w k (0, 0) 69 51 [some (vr 9 0 0), some (vr 1 0 0), some (vi v2), some (vi lf), some (vi last), some (vi len), some (vi i), l7, l8] [] σ' Q
  | 0, S, T, lf, last, len, i, σ', l7, l8, hT, hlf, hp, _, _, _, _, _, _, _, _, _, _, _ => by omega
  | m + 1, S, T, lf, last, len, i, σ', l7, l8, hT, hlf, hp, i0, i1, t0, t1, hS, hSn, hof, hs, n0, n1, q => by
    have ih := kc_ln_l R W hk (v2 := v2) m
    have w1 := W.sc.1
    have e0 : σ' 1 3 0 0 = P 2 0 := (hs 1 3 rfl 0 0).trans R.houses
    have R' : RT True σ' 1 P := R.keep hs (fun f hf => rfl)
    have pw : 2 ^ (P 2 0).toNat ≤ 2 ^ 12 := Nat.pow_le_pow_right (by omega) (by omega)
    by_cases c : lf = 0
    · have r := q 0 0 ⟨fun v hv => absurd ((hT v).mp hv) (by rw [c, Nat.zero_testBit]; exact Bool.false_ne_true), rfl⟩ (by omega) (by omega) σ' hs
      rw [Int.add_zero] at r
      refine TT_vb ok69 (sm3_ok G w) 60 [51, 68] ?_
      simp -implicitDefEqProofs only [↓b69_0, ↓b69_15, ↓b69_20, ↓b69_29, ↓b69_45, ↓b69_51, ↓b69_58, ↓b69_62, ↓b69_68, ↓b69_77, ↓b69_87, ↓b69_108, ↓b69_111, ↓b69_118, ↓b69_135, ↓b69_140, ↓b69_142, ↓b69_144, ↓b69_150, ↓b69_156, ↓b69_159, ↓b69_188, b69_0, b69_15, b69_20, b69_29, b69_45, b69_51, b69_58, b69_62, b69_68, b69_77, b69_87, b69_108, b69_111, b69_118, b69_135, b69_140, b69_142, b69_144, b69_150, b69_156, b69_159, b69_188, nLE1, layE6, layE4, e0, n3_249, k3_51, r51, I32, ↓xb, xb, ps, lpad, lat, aok2, rd2, aaok, aav, alok, alen, aok, akk, csum, isLg, cmpI, clsE, Option.elim, eq_self, List.mem_cons, List.not_mem_nil, or_false, false_or, List.append_nil, List.nil_append, List.cons_append, List.append_eq, List.replicate, List.length_cons, List.length_nil, List.map_cons, List.map_nil, ↓reduceIte, reduceCtorEq, if_true, if_false, true_and, and_true, false_and, and_false, and_self, not_true_eq_false, not_false_eq_true, forall_const, true_implies, false_implies, implies_true, Nat.reduceAdd, Nat.reduceSub, Nat.reduceLT, Nat.reduceLeDiff, Nat.reduceEqDiff, Nat.reduceMul, Nat.reducePow, Nat.add_one_ne_zero, Nat.add_one_sub_one, Nat.add_zero, Nat.zero_add, Int.reduceLT, Int.reduceLE, Int.reduceNeg, Int.reduceAdd, Int.reduceSub, Int.reduceToNat, Int.reduceEq, Int.reduceMul, Int.reducePow, Int.cast_ofNat_Int, Int.toNat_natCast, ne_eq, Bool.false_eq_true, true_or, or_true, or_self, Nat.not_lt_zero, ite_e0, ite_e1, lc_lt, lc_ge, lc_gt, lc_le, lc_eq, Classical.not_not]
      with_reducible repeat' (first | (refine And.intro ?_ ?_) | intro _)
      all_goals try omega
      all_goals first | omega | exact r
    · have pp : pcN lf ≠ 0 := fun z => c (pc_0 lf (by omega) z)
      refine TT_vb ok69 (sm3_ok G w) 60 [51, 68] ?_
      simp -implicitDefEqProofs only [↓b69_0, ↓b69_15, ↓b69_20, ↓b69_29, ↓b69_45, ↓b69_51, ↓b69_58, ↓b69_62, ↓b69_68, ↓b69_77, ↓b69_87, ↓b69_108, ↓b69_111, ↓b69_118, ↓b69_135, ↓b69_140, ↓b69_142, ↓b69_144, ↓b69_150, ↓b69_156, ↓b69_159, ↓b69_188, b69_0, b69_15, b69_20, b69_29, b69_45, b69_51, b69_58, b69_62, b69_68, b69_77, b69_87, b69_108, b69_111, b69_118, b69_135, b69_140, b69_142, b69_144, b69_150, b69_156, b69_159, b69_188, nLE1, layE6, layE4, e0, n3_249, k3_51, r51, I32, ↓xb, xb, ps, lpad, lat, aok2, rd2, aaok, aav, alok, alen, aok, akk, csum, isLg, cmpI, clsE, Option.elim, eq_self, List.mem_cons, List.not_mem_nil, or_false, false_or, List.append_nil, List.nil_append, List.cons_append, List.append_eq, List.replicate, List.length_cons, List.length_nil, List.map_cons, List.map_nil, ↓reduceIte, reduceCtorEq, if_true, if_false, true_and, and_true, false_and, and_false, and_self, not_true_eq_false, not_false_eq_true, forall_const, true_implies, false_implies, implies_true, Nat.reduceAdd, Nat.reduceSub, Nat.reduceLT, Nat.reduceLeDiff, Nat.reduceEqDiff, Nat.reduceMul, Nat.reducePow, Nat.add_one_ne_zero, Nat.add_one_sub_one, Nat.add_zero, Nat.zero_add, Int.reduceLT, Int.reduceLE, Int.reduceNeg, Int.reduceAdd, Int.reduceSub, Int.reduceToNat, Int.reduceEq, Int.reduceMul, Int.reducePow, Int.cast_ofNat_Int, Int.toNat_natCast, ne_eq, Bool.false_eq_true, true_or, or_true, or_self, Nat.not_lt_zero, ite_e0, ite_e1, lc_lt, lc_ge, lc_gt, lc_le, lc_eq, Classical.not_not]
      with_reducible repeat' (first | (refine And.intro ?_ ?_) | intro _)
      all_goals try omega
      all_goals first | omega | skip
      refine kc_ln_s R' W (by omega) hlf ⟨t0, t1⟩ hS (fun σ1 v l8' s1 hon hv => ?_) ((P 2 0).toNat + 1) 0 (-1) σ' (by omega) (by omega) (by omega) (fun x hx hl => absurd hl (by omega)) (fun x hx _ => hof x hx) (Or.inl ⟨rfl, fun x hl => absurd hl (by omega)⟩) same.refl
      obtain ⟨v0, v1, vb, vm⟩ := hv c
      obtain ⟨p, hp1, hp2⟩ := (hon v.toNat vb).2
      have tl := tb_le vb
      have pc := pc_sub vb 12
      rw [if_pos (show v.toNat < 12 by omega)] at pc
      have pc' : pcN (lf - 2 ^ v.toNat) + 1 = pcN lf := pc
      have fr := farP_r W (a := (p : Int)) (b := (v.toNat : Int)) (by have := hSn p hp1; omega) (by omega)
      have dr : 0 ≤ σ1 9 1 0 v.toNat ∧ σ1 9 1 0 v.toNat ≤ 198 := by rw [hp2]; exact fr
      have lfe : (lf : Int) - 1 * 2 ^ v.toNat = ((lf - 2 ^ v.toNat : Nat) : Int) := by
        have : ((2 ^ v.toNat : Nat) : Int) = 2 ^ v.toNat := by rw [Int.natCast_pow]; rfl
        omega
      have pv : (1 : Int) ≤ 2 ^ v.toNat ∧ (2 : Int) ^ v.toNat ≤ 4096 := p2_12 (by omega)
      refine TT_vb ok69 (sm3_ok G w) 60 [51, 68] ?_
      simp -implicitDefEqProofs only [↓b69_0, ↓b69_15, ↓b69_20, ↓b69_29, ↓b69_45, ↓b69_51, ↓b69_58, ↓b69_62, ↓b69_68, ↓b69_77, ↓b69_87, ↓b69_108, ↓b69_111, ↓b69_118, ↓b69_135, ↓b69_140, ↓b69_142, ↓b69_144, ↓b69_150, ↓b69_156, ↓b69_159, ↓b69_188, b69_0, b69_15, b69_20, b69_29, b69_45, b69_51, b69_58, b69_62, b69_68, b69_77, b69_87, b69_108, b69_111, b69_118, b69_135, b69_140, b69_142, b69_144, b69_150, b69_156, b69_159, b69_188, nLE1, layE6, layE4, lfe, n3_249, k3_51, r51, I32, ↓xb, xb, ps, lpad, lat, aok2, rd2, aaok, aav, alok, alen, aok, akk, csum, isLg, cmpI, clsE, Option.elim, eq_self, List.mem_cons, List.not_mem_nil, or_false, false_or, List.append_nil, List.nil_append, List.cons_append, List.append_eq, List.replicate, List.length_cons, List.length_nil, List.map_cons, List.map_nil, ↓reduceIte, reduceCtorEq, if_true, if_false, true_and, and_true, false_and, and_false, and_self, not_true_eq_false, not_false_eq_true, forall_const, true_implies, false_implies, implies_true, Nat.reduceAdd, Nat.reduceSub, Nat.reduceLT, Nat.reduceLeDiff, Nat.reduceEqDiff, Nat.reduceMul, Nat.reducePow, Nat.add_one_ne_zero, Nat.add_one_sub_one, Nat.add_zero, Nat.zero_add, Int.reduceLT, Int.reduceLE, Int.reduceNeg, Int.reduceAdd, Int.reduceSub, Int.reduceToNat, Int.reduceEq, Int.reduceMul, Int.reducePow, Int.cast_ofNat_Int, Int.toNat_natCast, ne_eq, Bool.false_eq_true, true_or, or_true, or_self, Nat.not_lt_zero, ite_e0, ite_e1, lc_lt, lc_ge, lc_gt, lc_le, lc_eq, Classical.not_not]
      with_reducible repeat' (first | (refine And.intro ?_ ?_) | intro _)
      all_goals try omega
      all_goals first | omega | skip
      refine ih (fun x => S x ∨ x = v.toNat) (fun x => T x ∧ x ≠ v.toNat) _ v _ _ σ1 _ _ (fun x => ?_) (by omega) (by omega) (by omega) (by omega) v0 (by omega) (Or.inr rfl) (fun x hx => ?_) (fun x hx => ?_) (hs.trans s1) (by omega) (by omega) (fun L mm hL l0 l1 σ2 s2 => ?_)
      · rw [tb_sub vb, hT]
      · rcases hx with z | z
        · exact hSn x z
        · omega
      · have on := hon x ((tb_sub vb x).mp hx).1
        exact ⟨fun p' hp' ne => on.1 p' (hp'.resolve_right ne), Or.inr (by
          obtain ⟨p', z1, z2⟩ := on.2
          exact ⟨p', Or.inl z1, z2⟩)⟩
      · have r := q (σ1 9 1 0 v.toNat + L) (mm + 1) ⟨v.toNat, p, L, (hT _).mpr vb, hp1, fun v' p' hv' hp' => ?_, by rw [hp2], hL⟩ (by omega) (by omega) σ2 s2
        · rw [← Int.add_assoc] at r
          exact r
        · have b' := (hT v').mp hv'
          have a1 := vm v' b'
          have a2 := (hon v' b').1 p' hp'
          omega
set_option maxRecDepth 100000 in
set_option maxHeartbeats 1000000 in
theorem kc_len (R : RT True σ 1 P) (W : WF P) (hk : 14 ≤ k) {V : Nat} (hV : V < 2 ^ (P 2 0).toNat) (hV0 : V ≠ 0) (q : ∀ L, pl1 P V L → 0 ≤ L → L ≤ 2400 → ∀ σ', same S91 σ σ' → Q (some (vi L)) σ') : CC G w w k (0, 0) 69 [vr 9 0 0, vr 1 0 0, vi V] σ Q := by
  have w1 := W.sc.1
  have pw : 2 ^ (P 2 0).toNat ≤ 2 ^ 12 := Nat.pow_le_pow_right (by omega) (by omega)
  have lb := lb_all V (by omega) hV0
  unfold lbK at lb
  simp only [decide_eq_true_eq] at lb
  obtain ⟨b1, b2, b3, b4, b5, b6⟩ := lb
  refine CC_vb ok69 (by decide) (sm3_ok G w) 60 [20] (Nat.le_of_ble_eq_true rfl) ?_
  simp -implicitDefEqProofs only [↓b69_0, ↓b69_15, ↓b69_20, ↓b69_29, ↓b69_45, ↓b69_51, ↓b69_58, ↓b69_62, ↓b69_68, ↓b69_77, ↓b69_87, ↓b69_108, ↓b69_111, ↓b69_118, ↓b69_135, ↓b69_140, ↓b69_142, ↓b69_144, ↓b69_150, ↓b69_156, ↓b69_159, ↓b69_188, b69_0, b69_15, b69_20, b69_29, b69_45, b69_51, b69_58, b69_62, b69_68, b69_77, b69_87, b69_108, b69_111, b69_118, b69_135, b69_140, b69_142, b69_144, b69_150, b69_156, b69_159, b69_188, nLE1, layE6, layE4, b5, n3_249, k3_51, r51, I32, ↓xb, xb, ps, lpad, lat, aok2, rd2, aaok, aav, alok, alen, aok, akk, csum, isLg, cmpI, clsE, Option.elim, eq_self, List.mem_cons, List.not_mem_nil, or_false, false_or, List.append_nil, List.nil_append, List.cons_append, List.append_eq, List.replicate, List.length_cons, List.length_nil, List.map_cons, List.map_nil, ↓reduceIte, reduceCtorEq, if_true, if_false, true_and, and_true, false_and, and_false, and_self, not_true_eq_false, not_false_eq_true, forall_const, true_implies, false_implies, implies_true, Nat.reduceAdd, Nat.reduceSub, Nat.reduceLT, Nat.reduceLeDiff, Nat.reduceEqDiff, Nat.reduceMul, Nat.reducePow, Nat.add_one_ne_zero, Nat.add_one_sub_one, Nat.add_zero, Nat.zero_add, Int.reduceLT, Int.reduceLE, Int.reduceNeg, Int.reduceAdd, Int.reduceSub, Int.reduceToNat, Int.reduceEq, Int.reduceMul, Int.reducePow, Int.cast_ofNat_Int, Int.toNat_natCast, ne_eq, Bool.false_eq_true, true_or, or_true, or_self, Nat.not_lt_zero, ite_e0, ite_e1, lc_lt, lc_ge, lc_gt, lc_le, lc_eq, Classical.not_not]
  with_reducible repeat' (first | (refine And.intro ?_ ?_) | intro _)
  all_goals try omega
  all_goals first | omega | skip
  refine kc_bc (by omega) ⟨b1, b2⟩ ?_
  simp -implicitDefEqProofs only [↓b69_0, ↓b69_15, ↓b69_20, ↓b69_29, ↓b69_45, ↓b69_51, ↓b69_58, ↓b69_62, ↓b69_68, ↓b69_77, ↓b69_87, ↓b69_108, ↓b69_111, ↓b69_118, ↓b69_135, ↓b69_140, ↓b69_142, ↓b69_144, ↓b69_150, ↓b69_156, ↓b69_159, ↓b69_188, b69_0, b69_15, b69_20, b69_29, b69_45, b69_51, b69_58, b69_62, b69_68, b69_77, b69_87, b69_108, b69_111, b69_118, b69_135, b69_140, b69_142, b69_144, b69_150, b69_156, b69_159, b69_188, nLE1, layE6, layE4, b5, n3_249, k3_51, r51, I32, ↓xb, xb, ps, lpad, lat, aok2, rd2, aaok, aav, alok, alen, aok, akk, csum, isLg, cmpI, clsE, Option.elim, eq_self, List.mem_cons, List.not_mem_nil, or_false, false_or, List.append_nil, List.nil_append, List.cons_append, List.append_eq, List.replicate, List.length_cons, List.length_nil, List.map_cons, List.map_nil, ↓reduceIte, reduceCtorEq, if_true, if_false, true_and, and_true, false_and, and_false, and_self, not_true_eq_false, not_false_eq_true, forall_const, true_implies, false_implies, implies_true, Nat.reduceAdd, Nat.reduceSub, Nat.reduceLT, Nat.reduceLeDiff, Nat.reduceEqDiff, Nat.reduceMul, Nat.reducePow, Nat.add_one_ne_zero, Nat.add_one_sub_one, Nat.add_zero, Nat.zero_add, Int.reduceLT, Int.reduceLE, Int.reduceNeg, Int.reduceAdd, Int.reduceSub, Int.reduceToNat, Int.reduceEq, Int.reduceMul, Int.reducePow, Int.cast_ofNat_Int, Int.toNat_natCast, ne_eq, Bool.false_eq_true, true_or, or_true, or_self, Nat.not_lt_zero, ite_e0, ite_e1, lc_lt, lc_ge, lc_gt, lc_le, lc_eq, Classical.not_not]
  generalize hr : pcN (band V (-V) - 1).toNat = r at b3 b4 b5 ⊢
  have tl := tb_le b4
  have tpos := Nat.two_pow_pos r
  have pc := pc_sub b4 12
  rw [if_pos b3] at pc
  have pc' : pcN (V - 2 ^ r) + 1 = pcN V := pc
  refine kc_ln_0 R W (by omega) (fun σ1 h1 s1 => ?_) ((P 2 0).toNat + 1) 0 σ (by omega) (by omega) (by omega) (fun c hc => absurd hc (by omega)) same.refl
  refine kc_ln_l R W (by omega) (pcN (V - 2 ^ r) + 1) (fun x => x = r) (fun x => V.testBit x = true ∧ x ≠ r) _ _ _ _ σ1 _ _ (fun x => (tb_sub b4 x).symm) (by omega) (by omega) (by omega) (by omega) (by omega) (by omega) (by omega) (fun x hx => by omega) (fun x hx => ⟨fun p hp ne => absurd (show p = ((r : Nat) : Int).toNat by omega) ne, Or.inl (h1 x (tb_lt ((tb_sub b4 x).mp hx).1 hV))⟩) s1 (by omega) (by omega) (fun L mm hL l0 l1 σ2 s2 => ?_)
  rw [Int.zero_add]
  exact q L ⟨mm, r, b4, hL⟩ l0 (by omega) σ2 s2
set_option maxRecDepth 100000 in
set_option maxHeartbeats 1000000 in
theorem kc_rc_l (R : RT True σ 1 P) (W : WF P) (hk : 16 ≤ k) {s : Nat} (hs0 : s ≠ 0) (hsn : s < 2 ^ (P 2 0).toNat) (q : ∀ b, RB P (P 2 0).toNat s b → ∀ σ', same S91 σ σ' → Q (some (vi b)) σ') :
    ∀ (m : Nat) (i b : Int) (σ' : Mem), (s : Int) ≤ i → i ≤ 2 ^ (P 2 0).toNat → 2 ^ (P 2 0).toNat < i + m → (∀ V : Nat, V < i → V < 2 ^ (P 2 0).toNat → SbS s V → ∃ L, pl1 P V L ∧ L ≤ 99999 ∧ b ≤ L) → (∃ V, V < 2 ^ (P 2 0).toNat ∧ SbS s V ∧ pl1 P V b ∧ b ≤ 99999) → same S91 σ σ' →
      TT G w w w k (0, 0) 68 22 [some (vr 9 0 0), some (vr 1 0 0), some (vi s), some (vi b), some (vi i)] [] σ' Q
  | 0, i, b, σ', h0, h1, h2, _, _, _ => by omega
  | m + 1, i, b, σ', h0, h1, h2, hb, hw, hs => by
    have ih := kc_rc_l R W hk hs0 hsn q m (i + 1)
    have w1 := W.sc.1
    have e0 : σ' 1 3 0 0 = P 2 0 := (hs 1 3 rfl 0 0).trans R.houses
    have R' : RT True σ' 1 P := R.keep hs (fun f hf => rfl)
    have pc : ((2 ^ (P 2 0).toNat : Nat) : Int) = 2 ^ (P 2 0).toNat := by rw [Int.natCast_pow]; rfl
    have pv := p2_12 w1
    have one : (1 : Int) * 2 ^ (P 2 0).toNat = 2 ^ (P 2 0).toNat := by omega
    by_cases c : i < 2 ^ (P 2 0).toNat
    · have be := band_nat (a := i) (b := (s : Int)) (by omega) (by omega)
      rw [Int.toNat_natCast] at be
      have lt : i.toNat < 2 ^ (P 2 0).toNat := by omega
      by_cases hb' : i.toNat &&& s = s
      · have sb : SbS s i.toNat := fun x hx => by
          have z := congrArg (fun y => y.testBit x) hb'
          simp only [Nat.testBit_and, hx, Bool.and_true] at z
          exact z
        have ne : i.toNat ≠ 0 := by omega
        rw [hb'] at be
        refine TT_vb ok68 (sm3_ok G w) 60 [22] ?_
        simp -implicitDefEqProofs only [↓b68_0, ↓b68_4, ↓b68_8, ↓b68_10, ↓b68_16, ↓b68_22, ↓b68_33, ↓b68_41, ↓b68_49, ↓b68_52, ↓b68_53, ↓b68_59, b68_0, b68_4, b68_8, b68_10, b68_16, b68_22, b68_33, b68_41, b68_49, b68_52, b68_53, b68_59, nLE1, layE6, layE4, e0, one, be, n3_249, n3_69, I32, ↓xb, xb, ps, lpad, lat, aok2, rd2, aaok, aav, alok, alen, aok, akk, csum, isLg, cmpI, clsE, Option.elim, eq_self, List.mem_cons, List.not_mem_nil, or_false, false_or, List.append_nil, List.nil_append, List.cons_append, List.append_eq, List.replicate, List.length_cons, List.length_nil, List.map_cons, List.map_nil, ↓reduceIte, reduceCtorEq, if_true, if_false, true_and, and_true, false_and, and_false, and_self, not_true_eq_false, not_false_eq_true, forall_const, true_implies, false_implies, implies_true, Nat.reduceAdd, Nat.reduceSub, Nat.reduceLT, Nat.reduceLeDiff, Nat.reduceEqDiff, Nat.reduceMul, Nat.reducePow, Nat.add_one_ne_zero, Nat.add_one_sub_one, Nat.add_zero, Nat.zero_add, Int.reduceLT, Int.reduceLE, Int.reduceNeg, Int.reduceAdd, Int.reduceSub, Int.reduceToNat, Int.reduceEq, Int.reduceMul, Int.reducePow, Int.cast_ofNat_Int, Int.toNat_natCast, ne_eq, Bool.false_eq_true, true_or, or_true, or_self, Nat.not_lt_zero, ite_e0, ite_e1, lc_lt, lc_ge, lc_gt, lc_le, lc_eq, Classical.not_not]
        with_reducible repeat' (first | (refine And.intro ?_ ?_) | intro _)
        all_goals try omega
        all_goals first | omega | skip
        rw [show vi i = vi ((i.toNat : Nat) : Int) by rw [show ((i.toNat : Nat) : Int) = i by omega]]
        refine kc_len R' W (by omega) lt ne (fun L hL l0 l1 σ1 s1 => ?_)
        have r := ih (min b L) σ1 (by omega) (by omega) (by omega) (fun V hV hn hsb => ?_) ?_ (hs.trans s1)
        · have ei : ((i.toNat : Nat) : Int) = i := by omega
          simp -implicitDefEqProofs only [↓b68_0, ↓b68_4, ↓b68_8, ↓b68_10, ↓b68_16, ↓b68_22, ↓b68_33, ↓b68_41, ↓b68_49, ↓b68_52, ↓b68_53, ↓b68_59, b68_0, b68_4, b68_8, b68_10, b68_16, b68_22, b68_33, b68_41, b68_49, b68_52, b68_53, b68_59, nLE1, layE6, layE4, hk, ei, n3_249, n3_69, I32, ↓xb, xb, ps, lpad, lat, aok2, rd2, aaok, aav, alok, alen, aok, akk, csum, isLg, cmpI, clsE, Option.elim, eq_self, List.mem_cons, List.not_mem_nil, or_false, false_or, List.append_nil, List.nil_append, List.cons_append, List.append_eq, List.replicate, List.length_cons, List.length_nil, List.map_cons, List.map_nil, ↓reduceIte, reduceCtorEq, if_true, if_false, true_and, and_true, false_and, and_false, and_self, not_true_eq_false, not_false_eq_true, forall_const, true_implies, false_implies, implies_true, Nat.reduceAdd, Nat.reduceSub, Nat.reduceLT, Nat.reduceLeDiff, Nat.reduceEqDiff, Nat.reduceMul, Nat.reducePow, Nat.add_one_ne_zero, Nat.add_one_sub_one, Nat.add_zero, Nat.zero_add, Int.reduceLT, Int.reduceLE, Int.reduceNeg, Int.reduceAdd, Int.reduceSub, Int.reduceToNat, Int.reduceEq, Int.reduceMul, Int.reducePow, Int.cast_ofNat_Int, Int.toNat_natCast, ne_eq, Bool.false_eq_true, true_or, or_true, or_self, Nat.not_lt_zero, ite_e0, ite_e1, lc_lt, lc_ge, lc_gt, lc_le, lc_eq, Classical.not_not]
          with_reducible repeat' (first | (refine And.intro ?_ ?_) | intro _)
          all_goals try omega
          all_goals first | omega | exact r
        · by_cases e : V = i.toNat
          · subst e
            exact ⟨L, hL, by omega, by omega⟩
          · obtain ⟨L', z1, z2, z3⟩ := hb V (by omega) hn hsb
            exact ⟨L', z1, z2, by omega⟩
        · by_cases e : b ≤ L
          · rw [show min b L = b by omega]; exact hw
          · rw [show min b L = L by omega]
            exact ⟨i.toNat, lt, sb, hL, by omega⟩
      · have be' : ¬ band i s = s := by rw [be]; omega
        have r := ih b σ' (by omega) (by omega) (by omega) (fun V hV hn hsb => by
          by_cases e : V = i.toNat
          · subst e
            have z := SbS_and hsb
            rw [Nat.and_comm] at z
            exact (hb' z).elim
          · exact hb V (by omega) hn hsb) hw hs
        refine TT_vb ok68 (sm3_ok G w) 60 [22] ?_
        simp -implicitDefEqProofs only [↓b68_0, ↓b68_4, ↓b68_8, ↓b68_10, ↓b68_16, ↓b68_22, ↓b68_33, ↓b68_41, ↓b68_49, ↓b68_52, ↓b68_53, ↓b68_59, b68_0, b68_4, b68_8, b68_10, b68_16, b68_22, b68_33, b68_41, b68_49, b68_52, b68_53, b68_59, nLE1, layE6, layE4, e0, one, be', n3_249, n3_69, I32, ↓xb, xb, ps, lpad, lat, aok2, rd2, aaok, aav, alok, alen, aok, akk, csum, isLg, cmpI, clsE, Option.elim, eq_self, List.mem_cons, List.not_mem_nil, or_false, false_or, List.append_nil, List.nil_append, List.cons_append, List.append_eq, List.replicate, List.length_cons, List.length_nil, List.map_cons, List.map_nil, ↓reduceIte, reduceCtorEq, if_true, if_false, true_and, and_true, false_and, and_false, and_self, not_true_eq_false, not_false_eq_true, forall_const, true_implies, false_implies, implies_true, Nat.reduceAdd, Nat.reduceSub, Nat.reduceLT, Nat.reduceLeDiff, Nat.reduceEqDiff, Nat.reduceMul, Nat.reducePow, Nat.add_one_ne_zero, Nat.add_one_sub_one, Nat.add_zero, Nat.zero_add, Int.reduceLT, Int.reduceLE, Int.reduceNeg, Int.reduceAdd, Int.reduceSub, Int.reduceToNat, Int.reduceEq, Int.reduceMul, Int.reducePow, Int.cast_ofNat_Int, Int.toNat_natCast, ne_eq, Bool.false_eq_true, true_or, or_true, or_self, Nat.not_lt_zero, ite_e0, ite_e1, lc_lt, lc_ge, lc_gt, lc_le, lc_eq, Classical.not_not]
        with_reducible repeat' (first | (refine And.intro ?_ ?_) | intro _)
        all_goals try omega
        all_goals first | omega | exact r
    · have e : i = 2 ^ (P 2 0).toNat := by omega
      have r := q b ⟨fun V hV hsb => hb V (by omega) hV hsb, hw⟩ σ' hs
      refine TT_vb ok68 (sm3_ok G w) 60 [22] ?_
      simp -implicitDefEqProofs only [↓b68_0, ↓b68_4, ↓b68_8, ↓b68_10, ↓b68_16, ↓b68_22, ↓b68_33, ↓b68_41, ↓b68_49, ↓b68_52, ↓b68_53, ↓b68_59, b68_0, b68_4, b68_8, b68_10, b68_16, b68_22, b68_33, b68_41, b68_49, b68_52, b68_53, b68_59, nLE1, layE6, layE4, e0, one, n3_249, n3_69, I32, ↓xb, xb, ps, lpad, lat, aok2, rd2, aaok, aav, alok, alen, aok, akk, csum, isLg, cmpI, clsE, Option.elim, eq_self, List.mem_cons, List.not_mem_nil, or_false, false_or, List.append_nil, List.nil_append, List.cons_append, List.append_eq, List.replicate, List.length_cons, List.length_nil, List.map_cons, List.map_nil, ↓reduceIte, reduceCtorEq, if_true, if_false, true_and, and_true, false_and, and_false, and_self, not_true_eq_false, not_false_eq_true, forall_const, true_implies, false_implies, implies_true, Nat.reduceAdd, Nat.reduceSub, Nat.reduceLT, Nat.reduceLeDiff, Nat.reduceEqDiff, Nat.reduceMul, Nat.reducePow, Nat.add_one_ne_zero, Nat.add_one_sub_one, Nat.add_zero, Nat.zero_add, Int.reduceLT, Int.reduceLE, Int.reduceNeg, Int.reduceAdd, Int.reduceSub, Int.reduceToNat, Int.reduceEq, Int.reduceMul, Int.reducePow, Int.cast_ofNat_Int, Int.toNat_natCast, ne_eq, Bool.false_eq_true, true_or, or_true, or_self, Nat.not_lt_zero, ite_e0, ite_e1, lc_lt, lc_ge, lc_gt, lc_le, lc_eq, Classical.not_not]
      with_reducible repeat' (first | (refine And.intro ?_ ?_) | intro _)
      all_goals try omega
      all_goals first | omega | exact r
set_option maxRecDepth 100000 in
set_option maxHeartbeats 1000000 in
theorem kc_reachOf (R : RT True σ 1 P) (W : WF P) (hk : 18 ≤ k) {s : Int} (hs : 0 ≤ s ∧ s < 2 ^ (P 2 0).toNat) (q : ∀ b, (pcN s.toNat < 2 → b = 0) → (¬ pcN s.toNat < 2 → RB P (P 2 0).toNat s.toNat b) → ∀ σ', same S91 σ σ' → Q (some (vi b)) σ') : CC G w w k (0, 0) 68 [vr 9 0 0, vr 1 0 0, vi s] σ Q := by
  have w1 := W.sc.1
  have pv := p2_12 w1
  have pc : ((2 ^ (P 2 0).toNat : Nat) : Int) = 2 ^ (P 2 0).toNat := by rw [Int.natCast_pow]; rfl
  refine CC_vb ok68 (by decide) (sm3_ok G w) 60 [22] (Nat.le_of_ble_eq_true rfl) ?_
  simp -implicitDefEqProofs only [↓b68_0, ↓b68_4, ↓b68_8, ↓b68_10, ↓b68_16, ↓b68_22, ↓b68_33, ↓b68_41, ↓b68_49, ↓b68_52, ↓b68_53, ↓b68_59, b68_0, b68_4, b68_8, b68_10, b68_16, b68_22, b68_33, b68_41, b68_49, b68_52, b68_53, b68_59, nLE1, layE6, layE4, hk, n3_249, n3_69, I32, ↓xb, xb, ps, lpad, lat, aok2, rd2, aaok, aav, alok, alen, aok, akk, csum, isLg, cmpI, clsE, Option.elim, eq_self, List.mem_cons, List.not_mem_nil, or_false, false_or, List.append_nil, List.nil_append, List.cons_append, List.append_eq, List.replicate, List.length_cons, List.length_nil, List.map_cons, List.map_nil, ↓reduceIte, reduceCtorEq, if_true, if_false, true_and, and_true, false_and, and_false, and_self, not_true_eq_false, not_false_eq_true, forall_const, true_implies, false_implies, implies_true, Nat.reduceAdd, Nat.reduceSub, Nat.reduceLT, Nat.reduceLeDiff, Nat.reduceEqDiff, Nat.reduceMul, Nat.reducePow, Nat.add_one_ne_zero, Nat.add_one_sub_one, Nat.add_zero, Nat.zero_add, Int.reduceLT, Int.reduceLE, Int.reduceNeg, Int.reduceAdd, Int.reduceSub, Int.reduceToNat, Int.reduceEq, Int.reduceMul, Int.reducePow, Int.cast_ofNat_Int, Int.toNat_natCast, ne_eq, Bool.false_eq_true, true_or, or_true, or_self, Nat.not_lt_zero, ite_e0, ite_e1, lc_lt, lc_ge, lc_gt, lc_le, lc_eq, Classical.not_not]
  with_reducible repeat' (first | (refine And.intro ?_ ?_) | intro _)
  all_goals try omega
  all_goals first | omega | skip
  refine kc_bc (a := s) (by omega) ⟨hs.1, by omega⟩ ?_
  by_cases c : pcN s.toNat < 2
  · have r := q 0 (fun _ => rfl) (fun z => (z c).elim) σ same.refl
    simp -implicitDefEqProofs only [↓b68_0, ↓b68_4, ↓b68_8, ↓b68_10, ↓b68_16, ↓b68_22, ↓b68_33, ↓b68_41, ↓b68_49, ↓b68_52, ↓b68_53, ↓b68_59, b68_0, b68_4, b68_8, b68_10, b68_16, b68_22, b68_33, b68_41, b68_49, b68_52, b68_53, b68_59, nLE1, layE6, layE4, hk, n3_249, n3_69, I32, ↓xb, xb, ps, lpad, lat, aok2, rd2, aaok, aav, alok, alen, aok, akk, csum, isLg, cmpI, clsE, Option.elim, eq_self, List.mem_cons, List.not_mem_nil, or_false, false_or, List.append_nil, List.nil_append, List.cons_append, List.append_eq, List.replicate, List.length_cons, List.length_nil, List.map_cons, List.map_nil, ↓reduceIte, reduceCtorEq, if_true, if_false, true_and, and_true, false_and, and_false, and_self, not_true_eq_false, not_false_eq_true, forall_const, true_implies, false_implies, implies_true, Nat.reduceAdd, Nat.reduceSub, Nat.reduceLT, Nat.reduceLeDiff, Nat.reduceEqDiff, Nat.reduceMul, Nat.reducePow, Nat.add_one_ne_zero, Nat.add_one_sub_one, Nat.add_zero, Nat.zero_add, Int.reduceLT, Int.reduceLE, Int.reduceNeg, Int.reduceAdd, Int.reduceSub, Int.reduceToNat, Int.reduceEq, Int.reduceMul, Int.reducePow, Int.cast_ofNat_Int, Int.toNat_natCast, ne_eq, Bool.false_eq_true, true_or, or_true, or_self, Nat.not_lt_zero, ite_e0, ite_e1, lc_lt, lc_ge, lc_gt, lc_le, lc_eq, Classical.not_not]
    with_reducible repeat' (first | (refine And.intro ?_ ?_) | intro _)
    all_goals try omega
    all_goals first | omega | exact r
  · have ne : s.toNat ≠ 0 := fun z => c (by rw [z]; decide)
    simp -implicitDefEqProofs only [↓b68_0, ↓b68_4, ↓b68_8, ↓b68_10, ↓b68_16, ↓b68_22, ↓b68_33, ↓b68_41, ↓b68_49, ↓b68_52, ↓b68_53, ↓b68_59, b68_0, b68_4, b68_8, b68_10, b68_16, b68_22, b68_33, b68_41, b68_49, b68_52, b68_53, b68_59, nLE1, layE6, layE4, hk, n3_249, n3_69, I32, ↓xb, xb, ps, lpad, lat, aok2, rd2, aaok, aav, alok, alen, aok, akk, csum, isLg, cmpI, clsE, Option.elim, eq_self, List.mem_cons, List.not_mem_nil, or_false, false_or, List.append_nil, List.nil_append, List.cons_append, List.append_eq, List.replicate, List.length_cons, List.length_nil, List.map_cons, List.map_nil, ↓reduceIte, reduceCtorEq, if_true, if_false, true_and, and_true, false_and, and_false, and_self, not_true_eq_false, not_false_eq_true, forall_const, true_implies, false_implies, implies_true, Nat.reduceAdd, Nat.reduceSub, Nat.reduceLT, Nat.reduceLeDiff, Nat.reduceEqDiff, Nat.reduceMul, Nat.reducePow, Nat.add_one_ne_zero, Nat.add_one_sub_one, Nat.add_zero, Nat.zero_add, Int.reduceLT, Int.reduceLE, Int.reduceNeg, Int.reduceAdd, Int.reduceSub, Int.reduceToNat, Int.reduceEq, Int.reduceMul, Int.reducePow, Int.cast_ofNat_Int, Int.toNat_natCast, ne_eq, Bool.false_eq_true, true_or, or_true, or_self, Nat.not_lt_zero, ite_e0, ite_e1, lc_lt, lc_ge, lc_gt, lc_le, lc_eq, Classical.not_not]
    with_reducible repeat' (first | (refine And.intro ?_ ?_) | intro _)
    all_goals try omega
    all_goals first | omega | skip
    have lt : s.toNat < 2 ^ (P 2 0).toNat := by omega
    rw [show vi s = vi ((s.toNat : Nat) : Int) by rw [show ((s.toNat : Nat) : Int) = s by omega]]
    refine kc_len R W (by omega) lt ne (fun L hL l0 l1 σ1 s1 => ?_)
    have e : ((s.toNat : Nat) : Int) + 1 = s + 1 := by omega
    have r := kc_rc_l R W (k := k) (w := w) (G := G) (by omega) ne lt (Q := Q) (fun b hb σ' h' => q b (fun z => (c z).elim) (fun _ => hb) σ' h') (2 ^ (P 2 0).toNat) (((s.toNat : Nat) : Int) + 1) L σ1 (by omega) (by omega) (by omega) (fun V hV hn hsb => by
      have z := SbS_and hsb
      have y : s.toNat &&& V ≤ V := Nat.and_le_right
      have : V = s.toNat := by omega
      subst this
      exact ⟨L, hL, by omega, Int.le_refl L⟩) ⟨s.toNat, lt, fun x hx => hx, hL, by omega⟩ s1
    simp -implicitDefEqProofs only [↓b68_0, ↓b68_4, ↓b68_8, ↓b68_10, ↓b68_16, ↓b68_22, ↓b68_33, ↓b68_41, ↓b68_49, ↓b68_52, ↓b68_53, ↓b68_59, b68_0, b68_4, b68_8, b68_10, b68_16, b68_22, b68_33, b68_41, b68_49, b68_52, b68_53, b68_59, nLE1, layE6, layE4, hk, n3_249, n3_69, I32, ↓xb, xb, ps, lpad, lat, aok2, rd2, aaok, aav, alok, alen, aok, akk, csum, isLg, cmpI, clsE, Option.elim, eq_self, List.mem_cons, List.not_mem_nil, or_false, false_or, List.append_nil, List.nil_append, List.cons_append, List.append_eq, List.replicate, List.length_cons, List.length_nil, List.map_cons, List.map_nil, ↓reduceIte, reduceCtorEq, if_true, if_false, true_and, and_true, false_and, and_false, and_self, not_true_eq_false, not_false_eq_true, forall_const, true_implies, false_implies, implies_true, Nat.reduceAdd, Nat.reduceSub, Nat.reduceLT, Nat.reduceLeDiff, Nat.reduceEqDiff, Nat.reduceMul, Nat.reducePow, Nat.add_one_ne_zero, Nat.add_one_sub_one, Nat.add_zero, Nat.zero_add, Int.reduceLT, Int.reduceLE, Int.reduceNeg, Int.reduceAdd, Int.reduceSub, Int.reduceToNat, Int.reduceEq, Int.reduceMul, Int.reducePow, Int.cast_ofNat_Int, Int.toNat_natCast, ne_eq, Bool.false_eq_true, true_or, or_true, or_self, Nat.not_lt_zero, ite_e0, ite_e1, lc_lt, lc_ge, lc_gt, lc_le, lc_eq, Classical.not_not]
    with_reducible repeat' (first | (refine And.intro ?_ ?_) | intro _)
    all_goals try omega
    all_goals first | omega | exact r
set_option maxRecDepth 100000 in
set_option maxHeartbeats 1000000 in
theorem kc_reach (R : RT True σ 1 P) (W : WF P) (hk : 20 ≤ k) {s : Int} (q0 : ¬ (0 ≤ s ∧ s < 2 ^ (P 2 0).toNat) → Q (some (vi (-1))) σ)
    (q1 : 0 ≤ s ∧ s < 2 ^ (P 2 0).toNat → ∀ b, (pcN s.toNat < 2 → b = 0) → (¬ pcN s.toNat < 2 → RB P (P 2 0).toNat s.toNat b) → ∀ σ', same S91 σ σ' → Q (some (vi b)) σ') : CC G w w k (0, 0) 113 [vr 0 0 0, vi s] σ Q := by
  refine CC_vb ok113 (by decide) (sm3_ok G w) 60 [] (Nat.le_of_ble_eq_true rfl) ?_
  simp -implicitDefEqProofs only [↓b113_0, ↓b113_8, ↓b113_11, ↓b113_23, ↓b113_26, ↓b113_27, b113_0, b113_8, b113_11, b113_23, b113_26, b113_27, nLE2, layE7, layE4, layE3, layE2, hk, n3_47, n3_68, I32, ↓xb, xb, ps, lpad, lat, aok2, rd2, aaok, aav, alok, alen, aok, akk, csum, isLg, cmpI, clsE, Option.elim, eq_self, List.mem_cons, List.not_mem_nil, or_false, false_or, List.append_nil, List.nil_append, List.cons_append, List.append_eq, List.replicate, List.length_cons, List.length_nil, List.map_cons, List.map_nil, ↓reduceIte, reduceCtorEq, if_true, if_false, true_and, and_true, false_and, and_false, and_self, not_true_eq_false, not_false_eq_true, forall_const, true_implies, false_implies, implies_true, Nat.reduceAdd, Nat.reduceSub, Nat.reduceLT, Nat.reduceLeDiff, Nat.reduceEqDiff, Nat.reduceMul, Nat.reducePow, Nat.add_one_ne_zero, Nat.add_one_sub_one, Nat.add_zero, Nat.zero_add, Int.reduceLT, Int.reduceLE, Int.reduceNeg, Int.reduceAdd, Int.reduceSub, Int.reduceToNat, Int.reduceEq, Int.reduceMul, Int.reducePow, Int.cast_ofNat_Int, Int.toNat_natCast, ne_eq, Bool.false_eq_true, true_or, or_true, or_self, Nat.not_lt_zero, ite_e0, ite_e1, lc_lt, lc_ge, lc_gt, lc_le, lc_eq, Classical.not_not]
  with_reducible repeat' (first | (refine And.intro ?_ ?_) | intro _)
  all_goals try omega
  all_goals first | omega | skip
  refine kc_isSet R W (by omega) ?_
  by_cases c : 0 ≤ s ∧ s < 2 ^ (P 2 0).toNat
  · rw [if_pos c]
    simp -implicitDefEqProofs only [↓b113_0, ↓b113_8, ↓b113_11, ↓b113_23, ↓b113_26, ↓b113_27, b113_0, b113_8, b113_11, b113_23, b113_26, b113_27, nLE2, layE7, layE4, layE3, layE2, hk, n3_47, n3_68, I32, ↓xb, xb, ps, lpad, lat, aok2, rd2, aaok, aav, alok, alen, aok, akk, csum, isLg, cmpI, clsE, Option.elim, eq_self, List.mem_cons, List.not_mem_nil, or_false, false_or, List.append_nil, List.nil_append, List.cons_append, List.append_eq, List.replicate, List.length_cons, List.length_nil, List.map_cons, List.map_nil, ↓reduceIte, reduceCtorEq, if_true, if_false, true_and, and_true, false_and, and_false, and_self, not_true_eq_false, not_false_eq_true, forall_const, true_implies, false_implies, implies_true, Nat.reduceAdd, Nat.reduceSub, Nat.reduceLT, Nat.reduceLeDiff, Nat.reduceEqDiff, Nat.reduceMul, Nat.reducePow, Nat.add_one_ne_zero, Nat.add_one_sub_one, Nat.add_zero, Nat.zero_add, Int.reduceLT, Int.reduceLE, Int.reduceNeg, Int.reduceAdd, Int.reduceSub, Int.reduceToNat, Int.reduceEq, Int.reduceMul, Int.reducePow, Int.cast_ofNat_Int, Int.toNat_natCast, ne_eq, Bool.false_eq_true, true_or, or_true, or_self, Nat.not_lt_zero, ite_e0, ite_e1, lc_lt, lc_ge, lc_gt, lc_le, lc_eq, Classical.not_not]
    with_reducible repeat' (first | (refine And.intro ?_ ?_) | intro _)
    all_goals try omega
    all_goals first | omega | skip
    refine kc_reachOf R W (by omega) c (fun b h1 h2 σ1 s1 => ?_)
    have r := q1 c b h1 h2 σ1 s1
    simp -implicitDefEqProofs only [↓b113_0, ↓b113_8, ↓b113_11, ↓b113_23, ↓b113_26, ↓b113_27, b113_0, b113_8, b113_11, b113_23, b113_26, b113_27, nLE2, layE7, layE4, layE3, layE2, hk, n3_47, n3_68, I32, ↓xb, xb, ps, lpad, lat, aok2, rd2, aaok, aav, alok, alen, aok, akk, csum, isLg, cmpI, clsE, Option.elim, eq_self, List.mem_cons, List.not_mem_nil, or_false, false_or, List.append_nil, List.nil_append, List.cons_append, List.append_eq, List.replicate, List.length_cons, List.length_nil, List.map_cons, List.map_nil, ↓reduceIte, reduceCtorEq, if_true, if_false, true_and, and_true, false_and, and_false, and_self, not_true_eq_false, not_false_eq_true, forall_const, true_implies, false_implies, implies_true, Nat.reduceAdd, Nat.reduceSub, Nat.reduceLT, Nat.reduceLeDiff, Nat.reduceEqDiff, Nat.reduceMul, Nat.reducePow, Nat.add_one_ne_zero, Nat.add_one_sub_one, Nat.add_zero, Nat.zero_add, Int.reduceLT, Int.reduceLE, Int.reduceNeg, Int.reduceAdd, Int.reduceSub, Int.reduceToNat, Int.reduceEq, Int.reduceMul, Int.reducePow, Int.cast_ofNat_Int, Int.toNat_natCast, ne_eq, Bool.false_eq_true, true_or, or_true, or_self, Nat.not_lt_zero, ite_e0, ite_e1, lc_lt, lc_ge, lc_gt, lc_le, lc_eq, Classical.not_not]
    with_reducible repeat' (first | (refine And.intro ?_ ?_) | intro _)
    all_goals try omega
    all_goals first | omega | exact r
  · have r := q0 c
    rw [if_neg c]
    simp -implicitDefEqProofs only [↓b113_0, ↓b113_8, ↓b113_11, ↓b113_23, ↓b113_26, ↓b113_27, b113_0, b113_8, b113_11, b113_23, b113_26, b113_27, nLE2, layE7, layE4, layE3, layE2, hk, n3_47, n3_68, I32, ↓xb, xb, ps, lpad, lat, aok2, rd2, aaok, aav, alok, alen, aok, akk, csum, isLg, cmpI, clsE, Option.elim, eq_self, List.mem_cons, List.not_mem_nil, or_false, false_or, List.append_nil, List.nil_append, List.cons_append, List.append_eq, List.replicate, List.length_cons, List.length_nil, List.map_cons, List.map_nil, ↓reduceIte, reduceCtorEq, if_true, if_false, true_and, and_true, false_and, and_false, and_self, not_true_eq_false, not_false_eq_true, forall_const, true_implies, false_implies, implies_true, Nat.reduceAdd, Nat.reduceSub, Nat.reduceLT, Nat.reduceLeDiff, Nat.reduceEqDiff, Nat.reduceMul, Nat.reducePow, Nat.add_one_ne_zero, Nat.add_one_sub_one, Nat.add_zero, Nat.zero_add, Int.reduceLT, Int.reduceLE, Int.reduceNeg, Int.reduceAdd, Int.reduceSub, Int.reduceToNat, Int.reduceEq, Int.reduceMul, Int.reducePow, Int.cast_ofNat_Int, Int.toNat_natCast, ne_eq, Bool.false_eq_true, true_or, or_true, or_self, Nat.not_lt_zero, ite_e0, ite_e1, lc_lt, lc_ge, lc_gt, lc_le, lc_eq, Classical.not_not]
    with_reducible repeat' (first | (refine And.intro ?_ ?_) | intro _)
    all_goals try omega
    all_goals first | omega | exact r
end RCD

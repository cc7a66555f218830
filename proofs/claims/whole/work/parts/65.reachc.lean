/-! 65.reachc: reach (class) -/
section RCH
variable {G : Gl} {w : Wd} {k : Nat} {σ : Mem} {Q : Option AV → Mem → Prop} {P : Pt}
set_option maxRecDepth 100000 in
set_option maxHeartbeats 1000000 in
theorem kc_ln_0 (R : RT True σ 1 P) (W : WF P) (hk : 8 ≤ k) {v2 v3 v4 : Int}
    (q : ∀ σ', (∀ c, c < (P 2 0).toNat → σ' 9 1 0 c = 1000) → same S91 σ σ' → TT G w w w k (0, 0) 69 51 [some (vr 9 0 0), some (vr 1 0 0), some (vi v2), some (vi v3), some (vi v4), some (vi 0), some (vi 0), none, none] [] σ' Q) :
    ∀ (m : Nat) (i : Int) (σ' : Mem), 0 ≤ i → i ≤ P 2 0 → P 2 0 < i + m → (∀ c, c < i.toNat → σ' 9 1 0 c = 1000) → same S91 σ σ' → TT G w w w k (0, 0) 69 20 [some (vr 9 0 0), some (vr 1 0 0), some (vi v2), some (vi v3), some (vi v4), some (vi i), none, none, none] [] σ' Q
  | 0, i, σ', h0, h1, h2, _, _ => by omega
  | m + 1, i, σ', h0, h1, h2, hc, hs => by
    have ih := kc_ln_0 R W hk (v2 := v2) (v3 := v3) (v4 := v4) q m (i + 1)
    have w1 := W.sc.1
    have e0 : σ' 1 3 0 0 = P 2 0 := (hs 1 3 rfl 0 0).trans R.houses
    by_cases hi : i < P 2 0
    · refine TT_vb ok69 (sm3_ok G w) 60 [20, 51] ?_
      simp -implicitDefEqProofs only [↓b69_0, ↓b69_15, ↓b69_20, ↓b69_29, ↓b69_45, ↓b69_51, ↓b69_58, ↓b69_62, ↓b69_68, ↓b69_77, ↓b69_87, ↓b69_108, ↓b69_111, ↓b69_118, ↓b69_135, ↓b69_140, ↓b69_142, ↓b69_144, ↓b69_150, ↓b69_156, ↓b69_159, ↓b69_188, b69_0, b69_15, b69_20, b69_29, b69_45, b69_51, b69_58, b69_62, b69_68, b69_77, b69_87, b69_108, b69_111, b69_118, b69_135, b69_140, b69_142, b69_144, b69_150, b69_156, b69_159, b69_188, nLE1, layE6, layE4, e0, n3_249, k3_51, r51, I32, ↓xb, xb, ps, lpad, lat, aok2, rd2, aaok, aav, alok, alen, aok, akk, csum, isLg, cmpI, clsE, Option.elim, eq_self, List.mem_cons, List.not_mem_nil, or_false, false_or, List.append_nil, List.nil_append, List.cons_append, List.append_eq, List.replicate, List.length_cons, List.length_nil, List.map_cons, List.map_nil, ↓reduceIte, reduceCtorEq, if_true, if_false, true_and, and_true, false_and, and_false, and_self, not_true_eq_false, not_false_eq_true, forall_const, true_implies, false_implies, implies_true, Nat.reduceAdd, Nat.reduceSub, Nat.reduceLT, Nat.reduceLeDiff, Nat.reduceEqDiff, Nat.reduceMul, Nat.reducePow, Nat.add_one_ne_zero, Nat.add_one_sub_one, Nat.add_zero, Nat.zero_add, Int.reduceLT, Int.reduceLE, Int.reduceNeg, Int.reduceAdd, Int.reduceSub, Int.reduceToNat, Int.reduceEq, Int.reduceMul, Int.reducePow, Int.cast_ofNat_Int, Int.toNat_natCast, ne_eq, Bool.false_eq_true, true_or, or_true, or_self, Nat.not_lt_zero, ite_e0, ite_e1, lc_lt, lc_ge, lc_gt, lc_le, lc_eq, Classical.not_not]
      with_reducible repeat' (first | (refine And.intro ?_ ?_) | intro _)
      all_goals try omega
      all_goals first | omega | skip
      refine ih _ (by omega) (by omega) (by omega) (fun c h' => ?_) (hs.put rfl)
      by_cases e : c = i.toNat
      · subst e; rw [upp_eq]
      · rw [upp_nc e]; exact hc c (by omega)
    · have e : i = P 2 0 := by omega
      refine TT_vb ok69 (sm3_ok G w) 60 [20, 51] ?_
      simp -implicitDefEqProofs only [↓b69_0, ↓b69_15, ↓b69_20, ↓b69_29, ↓b69_45, ↓b69_51, ↓b69_58, ↓b69_62, ↓b69_68, ↓b69_77, ↓b69_87, ↓b69_108, ↓b69_111, ↓b69_118, ↓b69_135, ↓b69_140, ↓b69_142, ↓b69_144, ↓b69_150, ↓b69_156, ↓b69_159, ↓b69_188, b69_0, b69_15, b69_20, b69_29, b69_45, b69_51, b69_58, b69_62, b69_68, b69_77, b69_87, b69_108, b69_111, b69_118, b69_135, b69_140, b69_142, b69_144, b69_150, b69_156, b69_159, b69_188, nLE1, layE6, layE4, e0, n3_249, k3_51, r51, I32, ↓xb, xb, ps, lpad, lat, aok2, rd2, aaok, aav, alok, alen, aok, akk, csum, isLg, cmpI, clsE, Option.elim, eq_self, List.mem_cons, List.not_mem_nil, or_false, false_or, List.append_nil, List.nil_append, List.cons_append, List.append_eq, List.replicate, List.length_cons, List.length_nil, List.map_cons, List.map_nil, ↓reduceIte, reduceCtorEq, if_true, if_false, true_and, and_true, false_and, and_false, and_self, not_true_eq_false, not_false_eq_true, forall_const, true_implies, false_implies, implies_true, Nat.reduceAdd, Nat.reduceSub, Nat.reduceLT, Nat.reduceLeDiff, Nat.reduceEqDiff, Nat.reduceMul, Nat.reducePow, Nat.add_one_ne_zero, Nat.add_one_sub_one, Nat.add_zero, Nat.zero_add, Int.reduceLT, Int.reduceLE, Int.reduceNeg, Int.reduceAdd, Int.reduceSub, Int.reduceToNat, Int.reduceEq, Int.reduceMul, Int.reducePow, Int.cast_ofNat_Int, Int.toNat_natCast, ne_eq, Bool.false_eq_true, true_or, or_true, or_self, Nat.not_lt_zero, ite_e0, ite_e1, lc_lt, lc_ge, lc_gt, lc_le, lc_eq, Classical.not_not]
      with_reducible repeat' (first | (refine And.intro ?_ ?_) | intro _)
      all_goals try omega
      all_goals first | omega | exact q σ' (fun c h' => hc c (by omega)) hs
/-- how near a house is: by the houses before the last one; by all -/
def OFx (P : Pt) (σ : Mem) (S : Nat → Prop) (p0 h : Nat) : Prop := (∀ p, S p → p ≠ p0 → σ 9 1 0 h ≤ dP P p h) ∧ (σ 9 1 0 h = 1000 ∨ ∃ p, S p ∧ σ 9 1 0 h = dP P p h)
def ONx (P : Pt) (σ : Mem) (S : Nat → Prop) (h : Nat) : Prop := (∀ p, S p → σ 9 1 0 h ≤ dP P p h) ∧ ∃ p, S p ∧ σ 9 1 0 h = dP P p h
theorem OFx.upd {S : Nat → Prop} {p0 h x : Nat} {v : Int} (h1 : OFx P σ S p0 x) (e : x ≠ h) : OFx P (up σ 9 1 0 h v) S p0 x := by
  unfold OFx; rw [upp_nc e]; exact h1
theorem ONx.upd {S : Nat → Prop} {h x : Nat} {v : Int} (h1 : ONx P σ S x) (e : x ≠ h) : ONx P (up σ 9 1 0 h v) S x := by
  unfold ONx; rw [upp_nc e]; exact h1
theorem OFx.on {S : Nat → Prop} {p0 h : Nat} (h1 : OFx P σ S p0 h) (hp : S p0) (hd : dP P p0 h ≤ 198) : ONx P (up σ 9 1 0 h (min (σ 9 1 0 h) (dP P p0 h))) S h := by
  unfold ONx
  rw [upp_eq]
  refine ⟨fun p hp => ?_, ?_⟩
  · by_cases e : p = p0
    · subst e; omega
    · have := h1.1 p hp e; omega
  · by_cases c : σ 9 1 0 h ≤ dP P p0 h
    · rcases h1.2 with z | ⟨p, z1, z2⟩
      · omega
      · exact ⟨p, z1, by omega⟩
    · exact ⟨p0, hp, by omega⟩
set_option maxRecDepth 100000 in
set_option maxHeartbeats 1000000 in
theorem kc_ln_s (R : RT True σ 1 P) (W : WF P) (hk : 10 ≤ k) {S : Nat → Prop} {lf : Nat} (hlf : lf < 2 ^ (P 2 0).toNat) {v2 last len i : Int} (hlast : 0 ≤ last ∧ last < 12) (hS : S last.toNat)
    (q : ∀ (σ' : Mem) (v : Int) (l8 : Option AV), same S91 σ σ' → (∀ h, lf.testBit h = true → ONx P σ' S h) → (lf ≠ 0 → 0 ≤ v ∧ v < P 2 0 ∧ lf.testBit v.toNat = true ∧ ∀ h, lf.testBit h = true → σ' 9 1 0 v.toNat ≤ σ' 9 1 0 h) → TT G w w w k (0, 0) 69 150 [some (vr 9 0 0), some (vr 1 0 0), some (vi v2), some (vi lf), some (vi last), some (vi len), some (vi i), some (vi v), l8] [] σ' Q) :
    ∀ (m : Nat) (h v : Int) (σ' : Mem), 0 ≤ h → h ≤ P 2 0 → P 2 0 < h + m → (∀ x, lf.testBit x = true → x < h.toNat → ONx P σ' S x) → (∀ x, lf.testBit x = true → h.toNat ≤ x → OFx P σ' S last.toNat x) →
      ((v = -1 ∧ ∀ x, x < h.toNat → ¬ lf.testBit x = true) ∨ (0 ≤ v ∧ v < h ∧ lf.testBit v.toNat = true ∧ ∀ x, lf.testBit x = true → x < h.toNat → σ' 9 1 0 v.toNat ≤ σ' 9 1 0 x)) → same S91 σ σ' →
      TT G w w w k (0, 0) 69 68 [some (vr 9 0 0), some (vr 1 0 0), some (vi v2), some (vi lf), some (vi last), some (vi len), some (vi i), some (vi v), some (vi h)] [] σ' Q
  | 0, h, v, σ', h0, h1, h2, _, _, _, _ => by omega
  | m + 1, h, v, σ', h0, h1, h2, hn, hf, hv, hs => by
    have ih := kc_ln_s R W hk hlf (v2 := v2) (len := len) (i := i) hlast hS q m (h + 1)
    have w1 := W.sc.1
    have e0 : σ' 1 3 0 0 = P 2 0 := (hs 1 3 rfl 0 0).trans R.houses
    have R' : RT True σ' 1 P := R.keep hs (fun f hf => rfl)
    have pw : 2 ^ (P 2 0).toNat ≤ 2 ^ 12 := Nat.pow_le_pow_right (by omega) (by omega)
    have eh : (h + 1).toNat = h.toNat + 1 := by omega
    by_cases hi : h < P 2 0
    · have bt := bit_tb (s := lf) (by omega) h.toNat
      by_cases hb : lf.testBit h.toNat = true
      · have hb' := bt.mpr hb
        have x1 := R'.xy W (a := last) (by omega)
        have x2 := R'.xy W (a := h) (by omega)
        have x3 := R'.far_t (a := last) (b := h) (by omega) (by omega)
        have fr := farP_r W (a := last) (b := h) (by omega) (by omega)
        have ed : dP P last.toNat h.toNat = farP P last h := by
          unfold dP
          rw [show ((last.toNat : Nat) : Int) = last by omega, show ((h.toNat : Nat) : Int) = h by omega]
        have on := (hf h.toNat hb (Nat.le_refl _)).on hS (by omega)
        rw [ed] at on
        have hn' : ∀ x, lf.testBit x = true → x < (h + 1).toNat → ONx P (up σ' 9 1 0 h.toNat (min (σ' 9 1 0 h.toNat) (farP P last h))) S x := fun x hx hl => by
          by_cases e : x = h.toNat
          · rw [e]; exact on
          · exact (hn x hx (by omega)).upd e
        have hf' : ∀ x, lf.testBit x = true → (h + 1).toNat ≤ x → OFx P (up σ' 9 1 0 h.toNat (min (σ' 9 1 0 h.toNat) (farP P last h))) S last.toNat x := fun x hx hl => (hf x hx (by omega)).upd (by omega)
        have ue : ∀ mm, up σ' 9 1 0 h.toNat mm 9 1 0 h.toNat = mm := fun mm => upp_eq
        rcases hv with ⟨rfl, hv⟩ | ⟨v0, v1, vb, vm⟩
        · refine TT_vb ok69 (sm3_ok G w) 60 [68, 150] ?_
          simp -implicitDefEqProofs only [↓b69_0, ↓b69_15, ↓b69_20, ↓b69_29, ↓b69_45, ↓b69_51, ↓b69_58, ↓b69_62, ↓b69_68, ↓b69_77, ↓b69_87, ↓b69_108, ↓b69_111, ↓b69_118, ↓b69_135, ↓b69_140, ↓b69_142, ↓b69_144, ↓b69_150, ↓b69_156, ↓b69_159, ↓b69_188, b69_0, b69_15, b69_20, b69_29, b69_45, b69_51, b69_58, b69_62, b69_68, b69_77, b69_87, b69_108, b69_111, b69_118, b69_135, b69_140, b69_142, b69_144, b69_150, b69_156, b69_159, b69_188, nLE1, layE6, layE4, e0, hb', x1, x2, x3, ue, n3_249, k3_51, r51, I32, ↓xb, xb, ps, lpad, lat, aok2, rd2, aaok, aav, alok, alen, aok, akk, csum, isLg, cmpI, clsE, Option.elim, eq_self, List.mem_cons, List.not_mem_nil, or_false, false_or, List.append_nil, List.nil_append, List.cons_append, List.append_eq, List.replicate, List.length_cons, List.length_nil, List.map_cons, List.map_nil, ↓reduceIte, reduceCtorEq, if_true, if_false, true_and, and_true, false_and, and_false, and_self, not_true_eq_false, not_false_eq_true, forall_const, true_implies, false_implies, implies_true, Nat.reduceAdd, Nat.reduceSub, Nat.reduceLT, Nat.reduceLeDiff, Nat.reduceEqDiff, Nat.reduceMul, Nat.reducePow, Nat.add_one_ne_zero, Nat.add_one_sub_one, Nat.add_zero, Nat.zero_add, Int.reduceLT, Int.reduceLE, Int.reduceNeg, Int.reduceAdd, Int.reduceSub, Int.reduceToNat, Int.reduceEq, Int.reduceMul, Int.reducePow, Int.cast_ofNat_Int, Int.toNat_natCast, ne_eq, Bool.false_eq_true, true_or, or_true, or_self, Nat.not_lt_zero, ite_e0, ite_e1, lc_lt, lc_ge, lc_gt, lc_le, lc_eq, Classical.not_not]
          with_reducible repeat' (first | (refine And.intro ?_ ?_) | intro _)
          all_goals try omega
          all_goals first | omega | skip
          refine ih _ _ (by omega) (by omega) (by omega) hn' hf' (Or.inr ⟨by omega, by omega, hb, fun x hx hl => ?_⟩) (hs.put rfl)
          by_cases e : x = h.toNat
          · rw [e]; omega
          · exact (hv x (by omega) hx).elim
        · have un : ∀ mm, up σ' 9 1 0 h.toNat mm 9 1 0 v.toNat = σ' 9 1 0 v.toNat := fun mm => upp_nc (by omega)
          by_cases c : σ' 9 1 0 v.toNat ≤ min (σ' 9 1 0 h.toNat) (farP P last h)
          · refine TT_vb ok69 (sm3_ok G w) 60 [68, 150] ?_
            simp -implicitDefEqProofs only [↓b69_0, ↓b69_15, ↓b69_20, ↓b69_29, ↓b69_45, ↓b69_51, ↓b69_58, ↓b69_62, ↓b69_68, ↓b69_77, ↓b69_87, ↓b69_108, ↓b69_111, ↓b69_118, ↓b69_135, ↓b69_140, ↓b69_142, ↓b69_144, ↓b69_150, ↓b69_156, ↓b69_159, ↓b69_188, b69_0, b69_15, b69_20, b69_29, b69_45, b69_51, b69_58, b69_62, b69_68, b69_77, b69_87, b69_108, b69_111, b69_118, b69_135, b69_140, b69_142, b69_144, b69_150, b69_156, b69_159, b69_188, nLE1, layE6, layE4, e0, hb', x1, x2, x3, ue, un, n3_249, k3_51, r51, I32, ↓xb, xb, ps, lpad, lat, aok2, rd2, aaok, aav, alok, alen, aok, akk, csum, isLg, cmpI, clsE, Option.elim, eq_self, List.mem_cons, List.not_mem_nil, or_false, false_or, List.append_nil, List.nil_append, List.cons_append, List.append_eq, List.replicate, List.length_cons, List.length_nil, List.map_cons, List.map_nil, ↓reduceIte, reduceCtorEq, if_true, if_false, true_and, and_true, false_and, and_false, and_self, not_true_eq_false, not_false_eq_true, forall_const, true_implies, false_implies, implies_true, Nat.reduceAdd, Nat.reduceSub, Nat.reduceLT, Nat.reduceLeDiff, Nat.reduceEqDiff, Nat.reduceMul, Nat.reducePow, Nat.add_one_ne_zero, Nat.add_one_sub_one, Nat.add_zero, Nat.zero_add, Int.reduceLT, Int.reduceLE, Int.reduceNeg, Int.reduceAdd, Int.reduceSub, Int.reduceToNat, Int.reduceEq, Int.reduceMul, Int.reducePow, Int.cast_ofNat_Int, Int.toNat_natCast, ne_eq, Bool.false_eq_true, true_or, or_true, or_self, Nat.not_lt_zero, ite_e0, ite_e1, lc_lt, lc_ge, lc_gt, lc_le, lc_eq, Classical.not_not]
            with_reducible repeat' (first | (refine And.intro ?_ ?_) | intro _)
            all_goals try omega
            all_goals first | omega | skip
            refine ih _ _ (by omega) (by omega) (by omega) hn' hf' (Or.inr ⟨by omega, by omega, vb, fun x hx hl => ?_⟩) (hs.put rfl)
            rw [un]
            by_cases e : x = h.toNat
            · rw [e, ue]; exact c
            · rw [upp_nc e]; exact vm x hx (by omega)
          · refine TT_vb ok69 (sm3_ok G w) 60 [68, 150] ?_
            simp -implicitDefEqProofs only [↓b69_0, ↓b69_15, ↓b69_20, ↓b69_29, ↓b69_45, ↓b69_51, ↓b69_58, ↓b69_62, ↓b69_68, ↓b69_77, ↓b69_87, ↓b69_108, ↓b69_111, ↓b69_118, ↓b69_135, ↓b69_140, ↓b69_142, ↓b69_144, ↓b69_150, ↓b69_156, ↓b69_159, ↓b69_188, b69_0, b69_15, b69_20, b69_29, b69_45, b69_51, b69_58, b69_62, b69_68, b69_77, b69_87, b69_108, b69_111, b69_118, b69_135, b69_140, b69_142, b69_144, b69_150, b69_156, b69_159, b69_188, nLE1, layE6, layE4, e0, hb', x1, x2, x3, ue, un, n3_249, k3_51, r51, I32, ↓xb, xb, ps, lpad, lat, aok2, rd2, aaok, aav, alok, alen, aok, akk, csum, isLg, cmpI, clsE, Option.elim, eq_self, List.mem_cons, List.not_mem_nil, or_false, false_or, List.append_nil, List.nil_append, List.cons_append, List.append_eq, List.replicate, List.length_cons, List.length_nil, List.map_cons, List.map_nil, ↓reduceIte, reduceCtorEq, if_true, if_false, true_and, and_true, false_and, and_false, and_self, not_true_eq_false, not_false_eq_true, forall_const, true_implies, false_implies, implies_true, Nat.reduceAdd, Nat.reduceSub, Nat.reduceLT, Nat.reduceLeDiff, Nat.reduceEqDiff, Nat.reduceMul, Nat.reducePow, Nat.add_one_ne_zero, Nat.add_one_sub_one, Nat.add_zero, Nat.zero_add, Int.reduceLT, Int.reduceLE, Int.reduceNeg, Int.reduceAdd, Int.reduceSub, Int.reduceToNat, Int.reduceEq, Int.reduceMul, Int.reducePow, Int.cast_ofNat_Int, Int.toNat_natCast, ne_eq, Bool.false_eq_true, true_or, or_true, or_self, Nat.not_lt_zero, ite_e0, ite_e1, lc_lt, lc_ge, lc_gt, lc_le, lc_eq, Classical.not_not]
            with_reducible repeat' (first | (refine And.intro ?_ ?_) | intro _)
            all_goals try omega
            all_goals first | omega | skip
            refine ih _ _ (by omega) (by omega) (by omega) hn' hf' (Or.inr ⟨by omega, by omega, hb, fun x hx hl => ?_⟩) (hs.put rfl)
            rw [ue]
            by_cases e : x = h.toNat
            · rw [e, ue]; omega
            · rw [upp_nc e]
              have := vm x hx (by omega)
              omega
      · have hb' : ¬ band ((lf : Int) / 2 ^ h.toNat) 1 = 1 := fun z => hb (bt.mp z)
        refine TT_vb ok69 (sm3_ok G w) 60 [68, 150] ?_
        simp -implicitDefEqProofs only [↓b69_0, ↓b69_15, ↓b69_20, ↓b69_29, ↓b69_45, ↓b69_51, ↓b69_58, ↓b69_62, ↓b69_68, ↓b69_77, ↓b69_87, ↓b69_108, ↓b69_111, ↓b69_118, ↓b69_135, ↓b69_140, ↓b69_142, ↓b69_144, ↓b69_150, ↓b69_156, ↓b69_159, ↓b69_188, b69_0, b69_15, b69_20, b69_29, b69_45, b69_51, b69_58, b69_62, b69_68, b69_77, b69_87, b69_108, b69_111, b69_118, b69_135, b69_140, b69_142, b69_144, b69_150, b69_156, b69_159, b69_188, nLE1, layE6, layE4, e0, hb', n3_249, k3_51, r51, I32, ↓xb, xb, ps, lpad, lat, aok2, rd2, aaok, aav, alok, alen, aok, akk, csum, isLg, cmpI, clsE, Option.elim, eq_self, List.mem_cons, List.not_mem_nil, or_false, false_or, List.append_nil, List.nil_append, List.cons_append, List.append_eq, List.replicate, List.length_cons, List.length_nil, List.map_cons, List.map_nil, ↓reduceIte, reduceCtorEq, if_true, if_false, true_and, and_true, false_and, and_false, and_self, not_true_eq_false, not_false_eq_true, forall_const, true_implies, false_implies, implies_true, Nat.reduceAdd, Nat.reduceSub, Nat.reduceLT, Nat.reduceLeDiff, Nat.reduceEqDiff, Nat.reduceMul, Nat.reducePow, Nat.add_one_ne_zero, Nat.add_one_sub_one, Nat.add_zero, Nat.zero_add, Int.reduceLT, Int.reduceLE, Int.reduceNeg, Int.reduceAdd, Int.reduceSub, Int.reduceToNat, Int.reduceEq, Int.reduceMul, Int.reducePow, Int.cast_ofNat_Int, Int.toNat_natCast, ne_eq, Bool.false_eq_true, true_or, or_true, or_self, Nat.not_lt_zero, ite_e0, ite_e1, lc_lt, lc_ge, lc_gt, lc_le, lc_eq, Classical.not_not]
        with_reducible repeat' (first | (refine And.intro ?_ ?_) | intro _)
        all_goals try omega
        all_goals first | omega | skip
        refine ih _ _ (by omega) (by omega) (by omega) (fun x hx hl => hn x hx ?_) (fun x hx hl => hf x hx (by omega)) ?_ hs
        · have : x ≠ h.toNat := fun e => hb (e ▸ hx)
          omega
        · rcases hv with ⟨e, hv⟩ | ⟨v0, v1, vb, vm⟩
          · refine Or.inl ⟨e, fun x hx hl => ?_⟩
            have : x ≠ h.toNat := fun e => hb (e ▸ hl)
            exact hv x (by omega) hl
          · refine Or.inr ⟨v0, by omega, vb, fun x hx hl => vm x hx ?_⟩
            have : x ≠ h.toNat := fun e => hb (e ▸ hx)
            omega
    · have e : h = P 2 0 := by omega
      have lt : ∀ x, lf.testBit x = true → x < h.toNat := fun x hx => by
        have := tb_le hx
        have l : 2 ^ x < 2 ^ (P 2 0).toNat := by omega
        have := (Nat.pow_lt_pow_iff_right (a := 2) (by omega)).mp l
        omega
      have r := q σ' v (some (vi h)) hs (fun x hx => hn x hx (lt x hx)) (fun ne => by
        rcases hv with ⟨e, hv⟩ | ⟨v0, v1, vb, vm⟩
        · exact (ne (Nat.eq_of_testBit_eq (fun x => by
            rw [Nat.zero_testBit]
            cases g : lf.testBit x
            · rfl
            · exact (hv x (lt x g) g).elim))).elim
        · exact ⟨v0, by omega, vb, fun x hx => vm x hx (lt x hx)⟩)
      refine TT_vb ok69 (sm3_ok G w) 60 [68, 150] ?_
      simp -implicitDefEqProofs only [↓b69_0, ↓b69_15, ↓b69_20, ↓b69_29, ↓b69_45, ↓b69_51, ↓b69_58, ↓b69_62, ↓b69_68, ↓b69_77, ↓b69_87, ↓b69_108, ↓b69_111, ↓b69_118, ↓b69_135, ↓b69_140, ↓b69_142, ↓b69_144, ↓b69_150, ↓b69_156, ↓b69_159, ↓b69_188, b69_0, b69_15, b69_20, b69_29, b69_45, b69_51, b69_58, b69_62, b69_68, b69_77, b69_87, b69_108, b69_111, b69_118, b69_135, b69_140, b69_142, b69_144, b69_150, b69_156, b69_159, b69_188, nLE1, layE6, layE4, e0, n3_249, k3_51, r51, I32, ↓xb, xb, ps, lpad, lat, aok2, rd2, aaok, aav, alok, alen, aok, akk, csum, isLg, cmpI, clsE, Option.elim, eq_self, List.mem_cons, List.not_mem_nil, or_false, false_or, List.append_nil, List.nil_append, List.cons_append, List.append_eq, List.replicate, List.length_cons, List.length_nil, List.map_cons, List.map_nil, ↓reduceIte, reduceCtorEq, if_true, if_false, true_and, and_true, false_and, and_false, and_self, not_true_eq_false, not_false_eq_true, forall_const, true_implies, false_implies, implies_true, Nat.reduceAdd, Nat.reduceSub, Nat.reduceLT, Nat.reduceLeDiff, Nat.reduceEqDiff, Nat.reduceMul, Nat.reducePow, Nat.add_one_ne_zero, Nat.add_one_sub_one, Nat.add_zero, Nat.zero_add, Int.reduceLT, Int.reduceLE, Int.reduceNeg, Int.reduceAdd, Int.reduceSub, Int.reduceToNat, Int.reduceEq, Int.reduceMul, Int.reducePow, Int.cast_ofNat_Int, Int.toNat_natCast, ne_eq, Bool.false_eq_true, true_or, or_true, or_self, Nat.not_lt_zero, ite_e0, ite_e1, lc_lt, lc_ge, lc_gt, lc_le, lc_eq, Classical.not_not]
      with_reducible repeat' (first | (refine And.intro ?_ ?_) | intro _)
      all_goals try omega
      all_goals first | omega | exact r
end RCH

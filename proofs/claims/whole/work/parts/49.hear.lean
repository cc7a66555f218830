/-! 49.hear: who hears: knows, parts (both) -/
abbrev BHT : Type := (Nat → Int) × (Nat → Int) × (Nat → Int) × Nat
def upd1 (f : Nat → Int) (i : Nat) (v : Int) : Nat → Int := fun j => if j = i then v else f j
theorem upd1_eq {f : Nat → Int} {i : Nat} {v : Int} : upd1 f i v i = v := if_pos rfl
theorem upd1_ne {f : Nat → Int} {i j : Nat} {v : Int} (h : j ≠ i) : upd1 f i v j = f j := if_neg h
abbrev hrP (P : Pt) (a b : Int) : Prop := 0 < P 27 (12 * a + b).toNat ∨ 0 < P 27 (12 * b + a).toNat
def bS (P : Pt) (i h : Nat) (B : BHT) : BHT := if B.1 h = 0 ∧ hrP P (B.2.1 i) h then (upd1 B.1 h 1, upd1 B.2.1 B.2.2.2 h, upd1 B.2.2.1 B.2.2.2 (B.2.2.1 i + 1), B.2.2.2 + 1) else B
def cnS (T : Nat → Int) (h : Nat) (c : Nat) : Nat := if T h = 0 then c + 1 else c
def cnT (T : Nat → Int) : Nat := iter (cnS T) 12 0
theorem cn_go {T : Nat → Int} {h : Nat} (h0 : T h = 0) : ∀ n : Nat, iter (cnS (upd1 T h 1)) n 0 + (if h < n then 1 else 0) = iter (cnS T) n 0
  | 0 => rfl
  | n + 1 => by
    have ih := cn_go h0 n
    show cnS (upd1 T h 1) n (iter (cnS (upd1 T h 1)) n 0) + _ = cnS T n (iter (cnS T) n 0)
    unfold cnS
    by_cases e : n = h
    · subst e
      rw [upd1_eq, if_neg (by decide), if_pos h0]
      rw [if_neg (by omega)] at ih
      rw [if_pos (by omega)]
      unfold cnS at ih
      omega
    · rw [upd1_ne e]
      unfold cnS at ih
      by_cases l : h < n
      · rw [if_pos l] at ih; rw [if_pos (show h < n + 1 by omega)]
        split <;> omega
      · rw [if_neg l] at ih; rw [if_neg (show ¬ h < n + 1 by omega)]
        split <;> omega
theorem cn_upd {T : Nat → Int} {h : Nat} (h0 : T h = 0) (h12 : h < 12) : cnT (upd1 T h 1) + 1 = cnT T := by
  have := cn_go h0 12
  rw [if_pos h12] at this
  exact this
theorem cn_le {T : Nat → Int} : cnT T ≤ 12 := by
  refine iter_inv (st := cnS T) (I := fun n c => c ≤ n) (Nat.le_refl 0) (fun i b _ hb => ?_)
  unfold cnS; split <;> omega
def BI (P : Pt) (B : BHT) : Prop := 1 ≤ B.2.2.2 ∧ B.2.2.2 + cnT B.1 ≤ 12 ∧ (∀ c : Nat, c < B.2.2.2 → (0 ≤ B.2.1 c ∧ B.2.1 c < P 2 0) ∧ B.1 (B.2.1 c).toNat = 1 ∧ 0 ≤ B.2.2.1 c ∧ B.2.2.1 c ≤ c) ∧ ∀ h, B.1 h = 0 ∨ B.1 h = 1
theorem bS_inv {P : Pt} (W : WF P) {B : BHT} {i h : Nat} (I : BI P B) (hi : i < B.2.2.2) (hh : (h : Int) < P 2 0) : BI P (bS P i h B) ∧ B.2.2.2 ≤ (bS P i h B).2.2.2 := by
  obtain ⟨i1, i2, i3, i4⟩ := I
  have w1 := W.sc.1
  unfold bS
  by_cases c : B.1 h = 0 ∧ hrP P (B.2.1 i) h
  · rw [if_pos c]
    have cu := cn_upd c.1 (show h < 12 by omega)
    have si := (i3 i hi).2.2
    refine ⟨⟨by show 1 ≤ B.2.2.2 + 1; omega, by show B.2.2.2 + 1 + cnT (upd1 B.1 h 1) ≤ 12; omega, fun c' hc => ?_, fun h' => ?_⟩, by show B.2.2.2 ≤ B.2.2.2 + 1; omega⟩
    · have hc' : c' < B.2.2.2 + 1 := hc
      show (0 ≤ upd1 B.2.1 B.2.2.2 h c' ∧ upd1 B.2.1 B.2.2.2 h c' < P 2 0) ∧ upd1 B.1 h 1 (upd1 B.2.1 B.2.2.2 h c').toNat = 1 ∧ 0 ≤ upd1 B.2.2.1 B.2.2.2 (B.2.2.1 i + 1) c' ∧ upd1 B.2.2.1 B.2.2.2 (B.2.2.1 i + 1) c' ≤ c'
      by_cases e : c' = B.2.2.2
      · subst e
        rw [upd1_eq, upd1_eq]
        refine ⟨by omega, ?_, by omega, by omega⟩
        rw [show ((h : Nat) : Int).toNat = h by omega, upd1_eq]
      · rw [upd1_ne e, upd1_ne e]
        obtain ⟨j1, j2, j3⟩ := i3 c' (by omega)
        refine ⟨j1, ?_, j3⟩
        unfold upd1; split
        · rfl
        · exact j2
    · show upd1 B.1 h 1 h' = 0 ∨ upd1 B.1 h 1 h' = 1
      unfold upd1; split
      · exact Or.inr rfl
      · exact i4 h'
  · rw [if_neg c]
    exact ⟨⟨i1, i2, i3, i4⟩, Nat.le_refl _⟩
theorem bR_inv {P : Pt} (W : WF P) {B : BHT} {i : Nat} (I : BI P B) (hi : i < B.2.2.2) (n : Nat) (hn : (n : Int) ≤ P 2 0) : BI P (iter (bS P i) n B) ∧ B.2.2.2 ≤ (iter (bS P i) n B).2.2.2 :=
  iter_inv (st := bS P i) (I := fun _ B' => BI P B' ∧ B.2.2.2 ≤ B'.2.2.2) ⟨I, Nat.le_refl _⟩ (fun j b hj hb => by
    have z := bS_inv W (i := i) (h := j) hb.1 (by omega) (by omega)
    exact ⟨z.1, by omega⟩)
theorem b_full {P : Pt} {B0 : BHT} {i j : Nat} (I : BI P (iter (bS P i) j B0)) (h12 : (iter (bS P i) j B0).2.2.2 = 12) : ∀ d : Nat, j + d ≤ 12 → iter (bS P i) (j + d) B0 = iter (bS P i) j B0
  | 0, _ => rfl
  | d + 1, h => by
    have ih := b_full I h12 d (by omega)
    show bS P i (j + d) (iter (bS P i) (j + d) B0) = _
    rw [ih]
    obtain ⟨i1, i2, i3, i4⟩ := I
    have nz : ¬ (iter (bS P i) j B0).1 (j + d) = 0 := fun z => by have := cn_upd z (show j + d < 12 by omega); omega
    exact if_neg (fun z => nz z.1)
def bO (P : Pt) : Nat → Nat → BHT → BHT
  | 0, _, B => B
  | m + 1, i, B => if i < B.2.2.2 then bO P m (i + 1) (iter (bS P i) (P 2 0).toNat B) else B
theorem bO_inv {P : Pt} (W : WF P) : ∀ (m i : Nat) (B : BHT), BI P B → BI P (bO P m i B)
  | 0, i, B, I => I
  | m + 1, i, B, I => by
    have w1 := W.sc.1
    show BI P (if i < B.2.2.2 then bO P m (i + 1) (iter (bS P i) (P 2 0).toNat B) else B)
    split
    · rename_i h
      exact bO_inv W m (i + 1) _ (bR_inv W I h (P 2 0).toNat (by omega)).1
    · exact I
def b0 (T : Nat → Int) (h : Nat) : BHT := (upd1 T h 1, fun _ => (h : Int), fun _ => 0, 1)
theorem b0_inv {P : Pt} (W : WF P) {T : Nat → Int} {h : Nat} (hT : ∀ h, T h = 0 ∨ T h = 1) (h0 : T h = 0) (hh : (h : Int) < P 2 0) : BI P (b0 T h) := by
  have w1 := W.sc.1
  have cu := cn_upd h0 (show h < 12 by omega)
  have cl := cn_le (T := T)
  refine ⟨Nat.le_refl 1, by show 1 + cnT (upd1 T h 1) ≤ 12; omega, fun c hc => ?_, fun h' => ?_⟩
  · show (0 ≤ (h : Int) ∧ (h : Int) < P 2 0) ∧ upd1 T h 1 ((h : Int)).toNat = 1 ∧ (0 : Int) ≤ 0 ∧ (0 : Int) ≤ (c : Int)
    refine ⟨by omega, ?_, by omega, by omega⟩
    rw [show ((h : Nat) : Int).toNat = h by omega, upd1_eq]
  · show upd1 T h 1 h' = 0 ∨ upd1 T h 1 h' = 1
    unfold upd1; split
    · exact Or.inr rfl
    · exact hT h'
def bF (P : Pt) (T : Nat → Int) (h : Nat) : BHT := bO P 12 0 (b0 T h)
/-- what the class's hearsay holds -/
def RBc (σ : Mem) (B : BHT) : Prop := (∀ h : Nat, h < 12 → σ 11 3 0 h = B.1 h) ∧ (∀ c : Nat, c < B.2.2.2 → σ 11 1 0 c = B.2.1 c ∧ σ 11 2 0 c = B.2.2.1 c) ∧ σ 11 4 0 0 = (B.2.2.2 : Int)
/-- what the check holds -/
def RBx (σ : Mem) (wo : Int) (B : BHT) : Prop := (∀ h : Nat, h < 12 → (σ 21 74 0 h = -1 ↔ (B.1 h = 0 ∨ (h : Int) = wo))) ∧ ∀ c : Nat, c < B.2.2.2 → σ 21 71 0 c = B.2.1 c ∧ σ 21 74 0 (B.2.1 c).toNat = B.2.2.1 c
abbrev S11 : Nat → Nat → Bool := fun o _ => o == 11
abbrev Shx : Nat → Nat → Bool := fun o f => o == 21 && (f == 71 || f == 74)
theorem S11_1 {σ σ' : Mem} (hs : same S11 σ σ') : ∀ f r c, σ' 1 f r c = σ 1 f r c := fun f r c => hs 1 f rfl r c
section HER
variable {G : Gl} {w : Wd} {k : Nat} {σ : Mem} {Q : Option AV → Mem → Prop} {P : Pt}
set_option maxRecDepth 100000 in
set_option maxHeartbeats 1000000 in
theorem kc_sp_i (R : RT True σ 1 P) (W : WF P) (hk : 8 ≤ k) {v2 : Int} {i : Nat} {B0 : BHT} (I0 : BI P B0) (hi : i < B0.2.2.2)
    (q : ∀ (σ' : Mem) (l4 : Option AV), RBc σ' (iter (bS P i) (P 2 0).toNat B0) → same S11 σ σ' → TT G w w w k (0, 0) 4 140 [some (vr 11 0 0), some (vr 1 0 0), some (vi v2), some (vi (i : Int)), l4] [] σ' Q) :
    ∀ (m : Nat) (h : Int) (σ' : Mem), 0 ≤ h → h ≤ P 2 0 → P 2 0 < h + m → RBc σ' (iter (bS P i) h.toNat B0) → same S11 σ σ' → TT G w w w k (0, 0) 4 45 [some (vr 11 0 0), some (vr 1 0 0), some (vi v2), some (vi (i : Int)), some (vi h)] [] σ' Q
  | 0, h, σ', h0, h1, h2, _, _ => by omega
  | m + 1, h, σ', h0, h1, h2, rb, hs => by
    have ih := kc_sp_i R W hk I0 hi q m (h + 1)
    rw [iter_toNat _ h0] at ih
    have w1 := W.sc.1
    have I := bR_inv W I0 hi h.toNat (by omega)
    have R' : RT True σ' 1 P := fun f j a b => (S11_1 hs _ _ _).trans (R f j a b)
    have e0 := R'.houses
    have ful : (iter (bS P i) h.toNat B0).2.2.2 = 12 → iter (bS P i) (P 2 0).toNat B0 = iter (bS P i) h.toNat B0 := fun z => by
      have := b_full I.1 z ((P 2 0).toNat - h.toNat) (by omega)
      rw [show h.toNat + ((P 2 0).toNat - h.toNat) = (P 2 0).toNat by omega] at this
      exact this
    by_cases hH : h < P 2 0
    · revert ih rb I ful
      generalize iter (bS P i) h.toNat B0 = B
      intro rb ih I ful
      obtain ⟨⟨i1, i2, i3, i4⟩, i5⟩ := I
      obtain ⟨r1, r2, r3⟩ := rb
      obtain ⟨⟨j1, j2⟩, j3, j4, j5⟩ := i3 i (by omega)
      have rh := r1 h.toNat (by omega)
      have ri := r2 i (by omega)
      have t1 := R'.tieI (a := B.2.1 i) (b := h) (by omega) (by omega)
      have t2 := R'.tieI (a := h) (b := B.2.1 i) (by omega) (by omega)
      have eh : ((h.toNat : Nat) : Int) = h := by omega
      have bs : bS P i h.toNat B = if B.1 h.toNat = 0 ∧ hrP P (B.2.1 i) h then (upd1 B.1 h.toNat 1, upd1 B.2.1 B.2.2.2 h, upd1 B.2.2.1 B.2.2.2 (B.2.2.1 i + 1), B.2.2.2 + 1) else B := by unfold bS; rw [eh]
      rw [bs] at ih
      have stay : ¬ (B.1 h.toNat = 0 ∧ hrP P (B.2.1 i) h) → TT G w w w k (0, 0) 4 45 [some (vr 11 0 0), some (vr 1 0 0), some (vi v2), some (vi (i : Int)), some (vi (h + 1))] [] σ' Q := fun z => by
        rw [if_neg z] at ih
        exact ih σ' (by omega) (by omega) (by omega) ⟨r1, r2, r3⟩ hs
      by_cases c12 : B.2.2.2 = 12
      · have nz : ¬ B.1 h.toNat = 0 := fun z => by have := cn_upd z (show h.toNat < 12 by omega); omega
        have r3' : σ' 11 4 0 0 = 12 := by rw [r3, c12]; rfl
        refine TT_vb ok4 (sm3_ok G w) 60 [45, 140] ?_
        simp -implicitDefEqProofs only [↓b4_0, ↓b4_28, ↓b4_36, ↓b4_42, ↓b4_45, ↓b4_54, ↓b4_63, ↓b4_73, ↓b4_85, ↓b4_88, ↓b4_134, ↓b4_140, ↓b4_146, b4_0, b4_28, b4_36, b4_42, b4_45, b4_54, b4_63, b4_73, b4_85, b4_88, b4_134, b4_140, b4_146, nLE0, layE0, layE4, e0, r3', k3_62, r62, I32, ↓xb, xb, ps, lpad, lat, aok2, rd2, aaok, aav, alok, alen, aok, akk, csum, isLg, cmpI, clsE, Option.elim, eq_self, List.mem_cons, List.not_mem_nil, or_false, false_or, List.append_nil, List.nil_append, List.cons_append, List.append_eq, List.replicate, List.length_cons, List.length_nil, List.map_cons, List.map_nil, ↓reduceIte, reduceCtorEq, if_true, if_false, true_and, and_true, false_and, and_false, and_self, not_true_eq_false, not_false_eq_true, forall_const, true_implies, false_implies, implies_true, Nat.reduceAdd, Nat.reduceSub, Nat.reduceLT, Nat.reduceLeDiff, Nat.reduceEqDiff, Nat.reduceMul, Nat.reducePow, Nat.add_one_ne_zero, Nat.add_one_sub_one, Nat.add_zero, Nat.zero_add, Int.reduceLT, Int.reduceLE, Int.reduceNeg, Int.reduceAdd, Int.reduceSub, Int.reduceToNat, Int.reduceEq, Int.reduceMul, Int.reducePow, Int.cast_ofNat_Int, Int.toNat_natCast, ne_eq, Bool.false_eq_true, true_or, or_true, or_self, Nat.not_lt_zero, ite_e0, ite_e1, lc_lt, lc_ge, lc_gt, lc_le, lc_eq, Classical.not_not]
        with_reducible repeat' (first | (refine And.intro ?_ ?_) | intro _)
        all_goals try omega
        rw [ful c12] at q
        all_goals first | omega | exact q σ' _ ⟨r1, r2, r3⟩ hs
      · by_cases c0 : B.1 h.toNat = 0
        · rw [c0] at rh
          by_cases c1 : hrP P (B.2.1 i) h
          · rw [if_pos ⟨c0, c1⟩] at ih
            have n11 : B.2.2.2 < 12 := by have := cn_upd c0 (show h.toNat < 12 by omega); omega
            have c1' : (0 < P 27 (12 * B.2.1 i + h).toNat ∨ 0 < P 27 (12 * h + B.2.1 i).toNat) = True := eq_true c1
            refine TT_vb ok4 (sm3_ok G w) 60 [45, 140] ?_
            simp -implicitDefEqProofs only [↓b4_0, ↓b4_28, ↓b4_36, ↓b4_42, ↓b4_45, ↓b4_54, ↓b4_63, ↓b4_73, ↓b4_85, ↓b4_88, ↓b4_134, ↓b4_140, ↓b4_146, b4_0, b4_28, b4_36, b4_42, b4_45, b4_54, b4_63, b4_73, b4_85, b4_88, b4_134, b4_140, b4_146, nLE0, layE0, layE4, e0, r3, rh, ri, t1, t2, c1', up_rd, k3_62, r62, I32, ↓xb, xb, ps, lpad, lat, aok2, rd2, aaok, aav, alok, alen, aok, akk, csum, isLg, cmpI, clsE, Option.elim, eq_self, List.mem_cons, List.not_mem_nil, or_false, false_or, List.append_nil, List.nil_append, List.cons_append, List.append_eq, List.replicate, List.length_cons, List.length_nil, List.map_cons, List.map_nil, ↓reduceIte, reduceCtorEq, if_true, if_false, true_and, and_true, false_and, and_false, and_self, not_true_eq_false, not_false_eq_true, forall_const, true_implies, false_implies, implies_true, Nat.reduceAdd, Nat.reduceSub, Nat.reduceLT, Nat.reduceLeDiff, Nat.reduceEqDiff, Nat.reduceMul, Nat.reducePow, Nat.add_one_ne_zero, Nat.add_one_sub_one, Nat.add_zero, Nat.zero_add, Int.reduceLT, Int.reduceLE, Int.reduceNeg, Int.reduceAdd, Int.reduceSub, Int.reduceToNat, Int.reduceEq, Int.reduceMul, Int.reducePow, Int.cast_ofNat_Int, Int.toNat_natCast, ne_eq, Bool.false_eq_true, true_or, or_true, or_self, Nat.not_lt_zero, ite_e0, ite_e1, lc_lt, lc_ge, lc_gt, lc_le, lc_eq, Classical.not_not]
            with_reducible repeat' (first | (refine And.intro ?_ ?_) | intro _)
            all_goals try omega
            all_goals first | omega | skip
            refine ih _ (by omega) (by omega) (by omega) ⟨fun h' hh => ?_, fun c hc => ?_, ?_⟩ ((((hs.put rfl).put rfl).put rfl).put rfl)
            · simp only [up_rd]
              show _ = upd1 B.1 h.toNat 1 h'
              unfold upd1
              simp
              split
              · rfl
              · exact r1 h' hh
            · have hc' : c < B.2.2.2 + 1 := hc
              show _ = upd1 B.2.1 B.2.2.2 h c ∧ _ = upd1 B.2.2.1 B.2.2.2 (B.2.2.1 i + 1) c
              unfold upd1
              by_cases e : c = B.2.2.2
              · subst e; simp [up_rd]
              · have := r2 c (by omega)
                simp [up_rd, e, this.1, this.2]
            · show _ = ((B.2.2.2 + 1 : Nat) : Int)
              simp [up_rd]
          · have c1' : (0 < P 27 (12 * B.2.1 i + h).toNat ∨ 0 < P 27 (12 * h + B.2.1 i).toNat) = False := eq_false c1
            refine TT_vb ok4 (sm3_ok G w) 60 [45, 140] ?_
            simp -implicitDefEqProofs only [↓b4_0, ↓b4_28, ↓b4_36, ↓b4_42, ↓b4_45, ↓b4_54, ↓b4_63, ↓b4_73, ↓b4_85, ↓b4_88, ↓b4_134, ↓b4_140, ↓b4_146, b4_0, b4_28, b4_36, b4_42, b4_45, b4_54, b4_63, b4_73, b4_85, b4_88, b4_134, b4_140, b4_146, nLE0, layE0, layE4, e0, r3, rh, ri, t1, t2, c1', up_rd, k3_62, r62, I32, ↓xb, xb, ps, lpad, lat, aok2, rd2, aaok, aav, alok, alen, aok, akk, csum, isLg, cmpI, clsE, Option.elim, eq_self, List.mem_cons, List.not_mem_nil, or_false, false_or, List.append_nil, List.nil_append, List.cons_append, List.append_eq, List.replicate, List.length_cons, List.length_nil, List.map_cons, List.map_nil, ↓reduceIte, reduceCtorEq, if_true, if_false, true_and, and_true, false_and, and_false, and_self, not_true_eq_false, not_false_eq_true, forall_const, true_implies, false_implies, implies_true, Nat.reduceAdd, Nat.reduceSub, Nat.reduceLT, Nat.reduceLeDiff, Nat.reduceEqDiff, Nat.reduceMul, Nat.reducePow, Nat.add_one_ne_zero, Nat.add_one_sub_one, Nat.add_zero, Nat.zero_add, Int.reduceLT, Int.reduceLE, Int.reduceNeg, Int.reduceAdd, Int.reduceSub, Int.reduceToNat, Int.reduceEq, Int.reduceMul, Int.reducePow, Int.cast_ofNat_Int, Int.toNat_natCast, ne_eq, Bool.false_eq_true, true_or, or_true, or_self, Nat.not_lt_zero, ite_e0, ite_e1, lc_lt, lc_ge, lc_gt, lc_le, lc_eq, Classical.not_not]
            with_reducible repeat' (first | (refine And.intro ?_ ?_) | intro _)
            all_goals try omega
            all_goals first | omega | exact stay (fun z => c1 z.2)
        · have rh' : ¬ σ' 11 3 0 h.toNat = 0 := by rw [rh]; exact c0
          refine TT_vb ok4 (sm3_ok G w) 60 [45, 140] ?_
          simp -implicitDefEqProofs only [↓b4_0, ↓b4_28, ↓b4_36, ↓b4_42, ↓b4_45, ↓b4_54, ↓b4_63, ↓b4_73, ↓b4_85, ↓b4_88, ↓b4_134, ↓b4_140, ↓b4_146, b4_0, b4_28, b4_36, b4_42, b4_45, b4_54, b4_63, b4_73, b4_85, b4_88, b4_134, b4_140, b4_146, nLE0, layE0, layE4, e0, r3, rh', k3_62, r62, I32, ↓xb, xb, ps, lpad, lat, aok2, rd2, aaok, aav, alok, alen, aok, akk, csum, isLg, cmpI, clsE, Option.elim, eq_self, List.mem_cons, List.not_mem_nil, or_false, false_or, List.append_nil, List.nil_append, List.cons_append, List.append_eq, List.replicate, List.length_cons, List.length_nil, List.map_cons, List.map_nil, ↓reduceIte, reduceCtorEq, if_true, if_false, true_and, and_true, false_and, and_false, and_self, not_true_eq_false, not_false_eq_true, forall_const, true_implies, false_implies, implies_true, Nat.reduceAdd, Nat.reduceSub, Nat.reduceLT, Nat.reduceLeDiff, Nat.reduceEqDiff, Nat.reduceMul, Nat.reducePow, Nat.add_one_ne_zero, Nat.add_one_sub_one, Nat.add_zero, Nat.zero_add, Int.reduceLT, Int.reduceLE, Int.reduceNeg, Int.reduceAdd, Int.reduceSub, Int.reduceToNat, Int.reduceEq, Int.reduceMul, Int.reducePow, Int.cast_ofNat_Int, Int.toNat_natCast, ne_eq, Bool.false_eq_true, true_or, or_true, or_self, Nat.not_lt_zero, ite_e0, ite_e1, lc_lt, lc_ge, lc_gt, lc_le, lc_eq, Classical.not_not]
          with_reducible repeat' (first | (refine And.intro ?_ ?_) | intro _)
          all_goals try omega
          all_goals first | omega | exact stay (fun z => c0 z.1)
    · have ei : h = P 2 0 := by omega
      rw [ei] at rb
      refine TT_vb ok4 (sm3_ok G w) 60 [45, 140] ?_
      simp -implicitDefEqProofs only [↓b4_0, ↓b4_28, ↓b4_36, ↓b4_42, ↓b4_45, ↓b4_54, ↓b4_63, ↓b4_73, ↓b4_85, ↓b4_88, ↓b4_134, ↓b4_140, ↓b4_146, b4_0, b4_28, b4_36, b4_42, b4_45, b4_54, b4_63, b4_73, b4_85, b4_88, b4_134, b4_140, b4_146, nLE0, layE0, layE4, e0, k3_62, r62, I32, ↓xb, xb, ps, lpad, lat, aok2, rd2, aaok, aav, alok, alen, aok, akk, csum, isLg, cmpI, clsE, Option.elim, eq_self, List.mem_cons, List.not_mem_nil, or_false, false_or, List.append_nil, List.nil_append, List.cons_append, List.append_eq, List.replicate, List.length_cons, List.length_nil, List.map_cons, List.map_nil, ↓reduceIte, reduceCtorEq, if_true, if_false, true_and, and_true, false_and, and_false, and_self, not_true_eq_false, not_false_eq_true, forall_const, true_implies, false_implies, implies_true, Nat.reduceAdd, Nat.reduceSub, Nat.reduceLT, Nat.reduceLeDiff, Nat.reduceEqDiff, Nat.reduceMul, Nat.reducePow, Nat.add_one_ne_zero, Nat.add_one_sub_one, Nat.add_zero, Nat.zero_add, Int.reduceLT, Int.reduceLE, Int.reduceNeg, Int.reduceAdd, Int.reduceSub, Int.reduceToNat, Int.reduceEq, Int.reduceMul, Int.reducePow, Int.cast_ofNat_Int, Int.toNat_natCast, ne_eq, Bool.false_eq_true, true_or, or_true, or_self, Nat.not_lt_zero, ite_e0, ite_e1, lc_lt, lc_ge, lc_gt, lc_le, lc_eq, Classical.not_not]
      with_reducible repeat' (first | (refine And.intro ?_ ?_) | intro _)
      all_goals try omega
      exact q σ' _ rb hs
set_option maxRecDepth 100000 in
set_option maxHeartbeats 1000000 in
theorem kc_sp_o (R : RT True σ 1 P) (W : WF P) (hk : 8 ≤ k) {v2 : Int} {Bf : BHT}
    (q : ∀ (σ' : Mem), RBc σ' Bf → same S11 σ σ' → Q (some (vi (Bf.2.2.1 (Bf.2.2.2 - 1)))) σ') :
    ∀ (m : Nat) (i : Nat) (B : BHT) (σ' : Mem) (l4 : Option AV), i + m = 12 → BI P B → Bf = bO P m i B → RBc σ' B → same S11 σ σ' → TT G w w w k (0, 0) 4 28 [some (vr 11 0 0), some (vr 1 0 0), some (vi v2), some (vi (i : Int)), l4] [] σ' Q
  | 0, i, B, σ', l4, h0, I, e, rb, hs => by
    obtain ⟨i1, i2, i3, i4⟩ := I
    have eB : Bf = B := e
    subst eB
    have rl := rb.2.1 (Bf.2.2.2 - 1) (by omega)
    have e9 : (((Bf.2.2.2 : Nat) : Int) - 1).toNat = Bf.2.2.2 - 1 := by omega
    have r3 := rb.2.2
    refine TT_vb ok4 (sm3_ok G w) 60 [28, 45] ?_
    simp -implicitDefEqProofs only [↓b4_0, ↓b4_28, ↓b4_36, ↓b4_42, ↓b4_45, ↓b4_54, ↓b4_63, ↓b4_73, ↓b4_85, ↓b4_88, ↓b4_134, ↓b4_140, ↓b4_146, b4_0, b4_28, b4_36, b4_42, b4_45, b4_54, b4_63, b4_73, b4_85, b4_88, b4_134, b4_140, b4_146, nLE0, layE0, layE4, r3, e9, rl, k3_62, r62, I32, ↓xb, xb, ps, lpad, lat, aok2, rd2, aaok, aav, alok, alen, aok, akk, csum, isLg, cmpI, clsE, Option.elim, eq_self, List.mem_cons, List.not_mem_nil, or_false, false_or, List.append_nil, List.nil_append, List.cons_append, List.append_eq, List.replicate, List.length_cons, List.length_nil, List.map_cons, List.map_nil, ↓reduceIte, reduceCtorEq, if_true, if_false, true_and, and_true, false_and, and_false, and_self, not_true_eq_false, not_false_eq_true, forall_const, true_implies, false_implies, implies_true, Nat.reduceAdd, Nat.reduceSub, Nat.reduceLT, Nat.reduceLeDiff, Nat.reduceEqDiff, Nat.reduceMul, Nat.reducePow, Nat.add_one_ne_zero, Nat.add_one_sub_one, Nat.add_zero, Nat.zero_add, Int.reduceLT, Int.reduceLE, Int.reduceNeg, Int.reduceAdd, Int.reduceSub, Int.reduceToNat, Int.reduceEq, Int.reduceMul, Int.reducePow, Int.cast_ofNat_Int, Int.toNat_natCast, ne_eq, Bool.false_eq_true, true_or, or_true, or_self, Nat.not_lt_zero, ite_e0, ite_e1, lc_lt, lc_ge, lc_gt, lc_le, lc_eq, Classical.not_not]
    with_reducible repeat' (first | (refine And.intro ?_ ?_) | intro _)
    all_goals try omega
    all_goals first | omega | exact q σ' rb hs
  | m + 1, i, B, σ', l4, h0, I, e, rb, hs => by
    have ih := kc_sp_o R W hk (v2 := v2) q m (i + 1)
    have w1 := W.sc.1
    have r3 := rb.2.2
    have I2 := I
    obtain ⟨i1, i2, i3, i4⟩ := I2
    by_cases hi : i < B.2.2.2
    · have e' : Bf = bO P m (i + 1) (iter (bS P i) (P 2 0).toNat B) := by
        rw [e]; exact if_pos hi
      refine TT_vb ok4 (sm3_ok G w) 60 [28, 45] ?_
      simp -implicitDefEqProofs only [↓b4_0, ↓b4_28, ↓b4_36, ↓b4_42, ↓b4_45, ↓b4_54, ↓b4_63, ↓b4_73, ↓b4_85, ↓b4_88, ↓b4_134, ↓b4_140, ↓b4_146, b4_0, b4_28, b4_36, b4_42, b4_45, b4_54, b4_63, b4_73, b4_85, b4_88, b4_134, b4_140, b4_146, nLE0, layE0, layE4, r3, k3_62, r62, I32, ↓xb, xb, ps, lpad, lat, aok2, rd2, aaok, aav, alok, alen, aok, akk, csum, isLg, cmpI, clsE, Option.elim, eq_self, List.mem_cons, List.not_mem_nil, or_false, false_or, List.append_nil, List.nil_append, List.cons_append, List.append_eq, List.replicate, List.length_cons, List.length_nil, List.map_cons, List.map_nil, ↓reduceIte, reduceCtorEq, if_true, if_false, true_and, and_true, false_and, and_false, and_self, not_true_eq_false, not_false_eq_true, forall_const, true_implies, false_implies, implies_true, Nat.reduceAdd, Nat.reduceSub, Nat.reduceLT, Nat.reduceLeDiff, Nat.reduceEqDiff, Nat.reduceMul, Nat.reducePow, Nat.add_one_ne_zero, Nat.add_one_sub_one, Nat.add_zero, Nat.zero_add, Int.reduceLT, Int.reduceLE, Int.reduceNeg, Int.reduceAdd, Int.reduceSub, Int.reduceToNat, Int.reduceEq, Int.reduceMul, Int.reducePow, Int.cast_ofNat_Int, Int.toNat_natCast, ne_eq, Bool.false_eq_true, true_or, or_true, or_self, Nat.not_lt_zero, ite_e0, ite_e1, lc_lt, lc_ge, lc_gt, lc_le, lc_eq, Classical.not_not]
      with_reducible repeat' (first | (refine And.intro ?_ ?_) | intro _)
      all_goals try omega
      all_goals first | omega | skip
      refine kc_sp_i (fun f j a b => (S11_1 hs _ _ _).trans (R f j a b)) W hk I hi (fun σ2 l4 rb2 hs2 => ?_) 13 0 σ' (by omega) (by omega) (by omega) rb same.refl
      refine TT_vb ok4 (sm3_ok G w) 60 [28] ?_
      simp -implicitDefEqProofs only [↓b4_0, ↓b4_28, ↓b4_36, ↓b4_42, ↓b4_45, ↓b4_54, ↓b4_63, ↓b4_73, ↓b4_85, ↓b4_88, ↓b4_134, ↓b4_140, ↓b4_146, b4_0, b4_28, b4_36, b4_42, b4_45, b4_54, b4_63, b4_73, b4_85, b4_88, b4_134, b4_140, b4_146, nLE0, layE0, layE4, r3, k3_62, r62, I32, ↓xb, xb, ps, lpad, lat, aok2, rd2, aaok, aav, alok, alen, aok, akk, csum, isLg, cmpI, clsE, Option.elim, eq_self, List.mem_cons, List.not_mem_nil, or_false, false_or, List.append_nil, List.nil_append, List.cons_append, List.append_eq, List.replicate, List.length_cons, List.length_nil, List.map_cons, List.map_nil, ↓reduceIte, reduceCtorEq, if_true, if_false, true_and, and_true, false_and, and_false, and_self, not_true_eq_false, not_false_eq_true, forall_const, true_implies, false_implies, implies_true, Nat.reduceAdd, Nat.reduceSub, Nat.reduceLT, Nat.reduceLeDiff, Nat.reduceEqDiff, Nat.reduceMul, Nat.reducePow, Nat.add_one_ne_zero, Nat.add_one_sub_one, Nat.add_zero, Nat.zero_add, Int.reduceLT, Int.reduceLE, Int.reduceNeg, Int.reduceAdd, Int.reduceSub, Int.reduceToNat, Int.reduceEq, Int.reduceMul, Int.reducePow, Int.cast_ofNat_Int, Int.toNat_natCast, ne_eq, Bool.false_eq_true, true_or, or_true, or_self, Nat.not_lt_zero, ite_e0, ite_e1, lc_lt, lc_ge, lc_gt, lc_le, lc_eq, Classical.not_not]
      with_reducible repeat' (first | (refine And.intro ?_ ?_) | intro _)
      all_goals try omega
      rw [show ((i : Nat) : Int) + 1 = ((i + 1 : Nat) : Int) by omega]
      exact ih _ σ2 _ (by omega) (bR_inv W I hi (P 2 0).toNat (by omega)).1 e' rb2 (hs.trans hs2)
    · have eB : Bf = B := by rw [e]; exact if_neg hi
      subst eB
      have rl := rb.2.1 (Bf.2.2.2 - 1) (by omega)
      have e9 : (((Bf.2.2.2 : Nat) : Int) - 1).toNat = Bf.2.2.2 - 1 := by omega
      refine TT_vb ok4 (sm3_ok G w) 60 [28, 45] ?_
      simp -implicitDefEqProofs only [↓b4_0, ↓b4_28, ↓b4_36, ↓b4_42, ↓b4_45, ↓b4_54, ↓b4_63, ↓b4_73, ↓b4_85, ↓b4_88, ↓b4_134, ↓b4_140, ↓b4_146, b4_0, b4_28, b4_36, b4_42, b4_45, b4_54, b4_63, b4_73, b4_85, b4_88, b4_134, b4_140, b4_146, nLE0, layE0, layE4, r3, e9, rl, k3_62, r62, I32, ↓xb, xb, ps, lpad, lat, aok2, rd2, aaok, aav, alok, alen, aok, akk, csum, isLg, cmpI, clsE, Option.elim, eq_self, List.mem_cons, List.not_mem_nil, or_false, false_or, List.append_nil, List.nil_append, List.cons_append, List.append_eq, List.replicate, List.length_cons, List.length_nil, List.map_cons, List.map_nil, ↓reduceIte, reduceCtorEq, if_true, if_false, true_and, and_true, false_and, and_false, and_self, not_true_eq_false, not_false_eq_true, forall_const, true_implies, false_implies, implies_true, Nat.reduceAdd, Nat.reduceSub, Nat.reduceLT, Nat.reduceLeDiff, Nat.reduceEqDiff, Nat.reduceMul, Nat.reducePow, Nat.add_one_ne_zero, Nat.add_one_sub_one, Nat.add_zero, Nat.zero_add, Int.reduceLT, Int.reduceLE, Int.reduceNeg, Int.reduceAdd, Int.reduceSub, Int.reduceToNat, Int.reduceEq, Int.reduceMul, Int.reducePow, Int.cast_ofNat_Int, Int.toNat_natCast, ne_eq, Bool.false_eq_true, true_or, or_true, or_self, Nat.not_lt_zero, ite_e0, ite_e1, lc_lt, lc_ge, lc_gt, lc_le, lc_eq, Classical.not_not]
      with_reducible repeat' (first | (refine And.intro ?_ ?_) | intro _)
      all_goals try omega
      all_goals first | omega | exact q σ' rb hs
set_option maxRecDepth 100000 in
set_option maxHeartbeats 1000000 in
theorem kc_spread (R : RT True σ 1 P) (W : WF P) (hk : 10 ≤ k) {T : Nat → Int} (hT : ∀ h, T h = 0 ∨ T h = 1) (hm : ∀ h : Nat, h < 12 → σ 11 3 0 h = T h) {h : Int} (hh : 0 ≤ h ∧ h < P 2 0) (h0 : T h.toNat = 0)
    (q : ∀ (σ' : Mem), RBc σ' (bF P T h.toNat) → same S11 σ σ' → Q (some (vi ((bF P T h.toNat).2.2.1 ((bF P T h.toNat).2.2.2 - 1)))) σ') : CC G w w k (0, 0) 4 [vr 11 0 0, vr 1 0 0, vi h] σ Q := by
  have w1 := W.sc.1
  refine CC_vb ok4 (by decide) (sm3_ok G w) 60 [28] (Nat.le_of_ble_eq_true rfl) ?_
  simp -implicitDefEqProofs only [↓b4_0, ↓b4_28, ↓b4_36, ↓b4_42, ↓b4_45, ↓b4_54, ↓b4_63, ↓b4_73, ↓b4_85, ↓b4_88, ↓b4_134, ↓b4_140, ↓b4_146, b4_0, b4_28, b4_36, b4_42, b4_45, b4_54, b4_63, b4_73, b4_85, b4_88, b4_134, b4_140, b4_146, nLE0, layE0, layE4, hk, k3_62, r62, I32, ↓xb, xb, ps, lpad, lat, aok2, rd2, aaok, aav, alok, alen, aok, akk, csum, isLg, cmpI, clsE, Option.elim, eq_self, List.mem_cons, List.not_mem_nil, or_false, false_or, List.append_nil, List.nil_append, List.cons_append, List.append_eq, List.replicate, List.length_cons, List.length_nil, List.map_cons, List.map_nil, ↓reduceIte, reduceCtorEq, if_true, if_false, true_and, and_true, false_and, and_false, and_self, not_true_eq_false, not_false_eq_true, forall_const, true_implies, false_implies, implies_true, Nat.reduceAdd, Nat.reduceSub, Nat.reduceLT, Nat.reduceLeDiff, Nat.reduceEqDiff, Nat.reduceMul, Nat.reducePow, Nat.add_one_ne_zero, Nat.add_one_sub_one, Nat.add_zero, Nat.zero_add, Int.reduceLT, Int.reduceLE, Int.reduceNeg, Int.reduceAdd, Int.reduceSub, Int.reduceToNat, Int.reduceEq, Int.reduceMul, Int.reducePow, Int.cast_ofNat_Int, Int.toNat_natCast, ne_eq, Bool.false_eq_true, true_or, or_true, or_self, Nat.not_lt_zero, ite_e0, ite_e1, lc_lt, lc_ge, lc_gt, lc_le, lc_eq, Classical.not_not]
  with_reducible repeat' (first | (refine And.intro ?_ ?_) | intro _)
  all_goals try omega
  refine kc_sp_o (σ := σ) R W (by omega) q 12 0 (b0 T h.toNat) _ _ (by omega) (b0_inv W hT h0 (by omega)) rfl ⟨fun h' hh' => ?_, fun c hc => ?_, ?_⟩ ((((same.refl.put rfl).put rfl).put rfl).put rfl)
  · show _ = upd1 T h.toNat 1 h'
    unfold upd1
    simp [up_rd]
    split
    · rfl
    · exact hm h' hh'
  · have hc' : c < 1 := hc
    have : c = 0 := by omega
    subst this
    show _ = ((h.toNat : Nat) : Int) ∧ _ = (0 : Int)
    simp [up_rd]; omega
  · show _ = ((1 : Nat) : Int)
    simp [up_rd]
set_option maxRecDepth 100000 in
set_option maxHeartbeats 1000000 in
theorem kx_hr_i (M : MR σ P) (W : WF P) (hk : 8 ≤ k) {v1 wo : Int} {i : Nat} {B0 : BHT} (I0 : BI P B0) (hi : i < B0.2.2.2) (hw : ∀ h : Nat, h < 12 → (h : Int) = wo → B0.1 h = 1)
    (q : ∀ (σ' : Mem) (l5 l6 : Option AV), RBx σ' wo (iter (bS P i) (P 2 0).toNat B0) → same Shx σ σ' → TT G w w w k (0, 0) 237 148 [some (vr 21 0 0), some (vi v1), some (vi wo), some (vi ((iter (bS P i) (P 2 0).toNat B0).2.2.2 : Int)), some (vi (i : Int)), l5, l6] [] σ' Q) :
    ∀ (m : Nat) (h : Int) (σ' : Mem) (l6 : Option AV), 0 ≤ h → h ≤ P 2 0 → P 2 0 < h + m → RBx σ' wo (iter (bS P i) h.toNat B0) → (∀ h' : Nat, h' < 12 → (h' : Int) = wo → (iter (bS P i) h.toNat B0).1 h' = 1) → same Shx σ σ' → TT G w w w k (0, 0) 237 28 [some (vr 21 0 0), some (vi v1), some (vi wo), some (vi ((iter (bS P i) h.toNat B0).2.2.2 : Int)), some (vi (i : Int)), some (vi h), l6] [] σ' Q
  | 0, h, σ', l6, h0, h1, h2, _, _, _ => by omega
  | m + 1, h, σ', l6, h0, h1, h2, rb, hw', hs => by
    have ih := kx_hr_i M W hk (v1 := v1) I0 hi hw q m (h + 1)
    rw [iter_toNat _ h0] at ih
    have w1 := W.sc.1
    have I := bR_inv W I0 hi h.toNat (by omega)
    have M' : MR σ' P := M.keep hs (fun f a b => by
      show ((21 : Nat) == 21 && (f == 71 || f == 74)) = false
      simp; omega)
    have hM : ∀ f j, 2 ≤ f → f ≤ 38 → σ' 21 f 0 j = P f j := M'
    by_cases hH : h < P 2 0
    · revert ih rb I hw'
      generalize iter (bS P i) h.toNat B0 = B
      intro rb hw' ih I
      obtain ⟨⟨i1, i2, i3, i4⟩, i5⟩ := I
      obtain ⟨r1, r2⟩ := rb
      obtain ⟨⟨j1, j2⟩, j3, j4, j5⟩ := i3 i (by omega)
      have rh := r1 h.toNat (by omega)
      have ri := r2 i (by omega)
      have eh : ((h.toNat : Nat) : Int) = h := by omega
      have bs : bS P i h.toNat B = if B.1 h.toNat = 0 ∧ hrP P (B.2.1 i) h then (upd1 B.1 h.toNat 1, upd1 B.2.1 B.2.2.2 h, upd1 B.2.2.1 B.2.2.2 (B.2.2.1 i + 1), B.2.2.2 + 1) else B := by unfold bS; rw [eh]
      rw [bs] at ih
      have stay : ∀ l6, ¬ (B.1 h.toNat = 0 ∧ hrP P (B.2.1 i) h) → TT G w w w k (0, 0) 237 28 [some (vr 21 0 0), some (vi v1), some (vi wo), some (vi (B.2.2.2 : Int)), some (vi (i : Int)), some (vi (h + 1)), l6] [] σ' Q := fun l6 z => by
        rw [if_neg z] at ih
        exact ih σ' l6 (by omega) (by omega) (by omega) ⟨r1, r2⟩ hw' hs
      by_cases c1 : 0 < P 27 (12 * h + B.2.1 i).toNat ∨ 0 < P 27 (12 * B.2.1 i + h).toNat
      · by_cases c0 : B.1 h.toNat = 0
        · have hne : ¬ h = wo := fun e => by have := hw' h.toNat (by omega) (by omega); omega
          have s1 : σ' 21 74 0 h.toNat = -1 := rh.mpr (Or.inl c0)
          rw [if_pos ⟨c0, c1.symm⟩] at ih
          have n11 : B.2.2.2 < 12 := by have := cn_upd c0 (show h.toNat < 12 by omega); omega
          have go : ∀ l6, TT G w w w k (0, 0) 237 28 [some (vr 21 0 0), some (vi v1), some (vi wo), some (vi (((B.2.2.2 + 1 : Nat)) : Int)), some (vi (i : Int)), some (vi (h + 1)), l6] [] (up (up σ' 21 74 0 h.toNat (B.2.2.1 i + 1)) 21 71 0 B.2.2.2 h) Q := fun l6 => by
            refine ih _ l6 (by omega) (by omega) (by omega) ⟨fun h' hh => ?_, fun c hc => ?_⟩ (fun h' a b => ?_) ((hs.put rfl).put rfl)
            · rw [upp_nf (by decide)]
              show _ ↔ (upd1 B.1 h.toNat 1 h' = 0 ∨ _)
              by_cases e : h' = h.toNat
              · subst e
                rw [upp_eq, upd1_eq]
                constructor <;> intro z <;> omega
              · rw [upp_nc e, upd1_ne e]; exact r1 h' hh
            · have hc' : c < B.2.2.2 + 1 := hc
              show _ = upd1 B.2.1 B.2.2.2 h c ∧ up (up σ' 21 74 0 h.toNat (B.2.2.1 i + 1)) 21 71 0 B.2.2.2 h 21 74 0 (upd1 B.2.1 B.2.2.2 h c).toNat = upd1 B.2.2.1 B.2.2.2 (B.2.2.1 i + 1) c
              by_cases e : c = B.2.2.2
              · subst e
                rw [upp_eq, upd1_eq, upd1_eq, upp_nf (by decide), upp_eq]
                exact ⟨rfl, rfl⟩
              · have z := r2 c (by omega)
                have y := (i3 c (by omega)).2.1
                rw [upp_nc e, upd1_ne e, upd1_ne e, upp_nf (by decide), upp_nf (by decide), upp_nc (fun e2 => by rw [e2] at y; omega)]
                exact z
            · show upd1 B.1 h.toNat 1 h' = 1
              unfold upd1; split
              · rfl
              · exact hw' h' a b
          by_cases c2 : 0 < P 27 (12 * h + B.2.1 i).toNat
          · refine TT_vb ok237 (sm3_ok G w) 60 [28, 148] ?_
            simp -implicitDefEqProofs only [↓b237_0, ↓b237_19, ↓b237_25, ↓b237_28, ↓b237_39, ↓b237_60, ↓b237_81, ↓b237_85, ↓b237_86, ↓b237_93, ↓b237_99, ↓b237_110, ↓b237_142, ↓b237_148, ↓b237_154, b237_0, b237_19, b237_25, b237_28, b237_39, b237_60, b237_81, b237_85, b237_86, b237_93, b237_99, b237_110, b237_142, b237_148, b237_154, nLE4, layE8, hM, s1, ri, hne, up_rd, I32, ↓xb, xb, ps, lpad, lat, aok2, rd2, aaok, aav, alok, alen, aok, akk, csum, isLg, cmpI, clsE, Option.elim, eq_self, List.mem_cons, List.not_mem_nil, or_false, false_or, List.append_nil, List.nil_append, List.cons_append, List.append_eq, List.replicate, List.length_cons, List.length_nil, List.map_cons, List.map_nil, ↓reduceIte, reduceCtorEq, if_true, if_false, true_and, and_true, false_and, and_false, and_self, not_true_eq_false, not_false_eq_true, forall_const, true_implies, false_implies, implies_true, Nat.reduceAdd, Nat.reduceSub, Nat.reduceLT, Nat.reduceLeDiff, Nat.reduceEqDiff, Nat.reduceMul, Nat.reducePow, Nat.add_one_ne_zero, Nat.add_one_sub_one, Nat.add_zero, Nat.zero_add, Int.reduceLT, Int.reduceLE, Int.reduceNeg, Int.reduceAdd, Int.reduceSub, Int.reduceToNat, Int.reduceEq, Int.reduceMul, Int.reducePow, Int.cast_ofNat_Int, Int.toNat_natCast, ne_eq, Bool.false_eq_true, true_or, or_true, or_self, Nat.not_lt_zero, ite_e0, ite_e1, lc_lt, lc_ge, lc_gt, lc_le, lc_eq, Classical.not_not]
            with_reducible repeat' (first | (refine And.intro ?_ ?_) | intro _)
            all_goals try omega
            all_goals first | omega | exact go _
          · have c3 : 0 < P 27 (12 * B.2.1 i + h).toNat := by omega
            refine TT_vb ok237 (sm3_ok G w) 60 [28, 148] ?_
            simp -implicitDefEqProofs only [↓b237_0, ↓b237_19, ↓b237_25, ↓b237_28, ↓b237_39, ↓b237_60, ↓b237_81, ↓b237_85, ↓b237_86, ↓b237_93, ↓b237_99, ↓b237_110, ↓b237_142, ↓b237_148, ↓b237_154, b237_0, b237_19, b237_25, b237_28, b237_39, b237_60, b237_81, b237_85, b237_86, b237_93, b237_99, b237_110, b237_142, b237_148, b237_154, nLE4, layE8, hM, s1, ri, hne, up_rd, I32, ↓xb, xb, ps, lpad, lat, aok2, rd2, aaok, aav, alok, alen, aok, akk, csum, isLg, cmpI, clsE, Option.elim, eq_self, List.mem_cons, List.not_mem_nil, or_false, false_or, List.append_nil, List.nil_append, List.cons_append, List.append_eq, List.replicate, List.length_cons, List.length_nil, List.map_cons, List.map_nil, ↓reduceIte, reduceCtorEq, if_true, if_false, true_and, and_true, false_and, and_false, and_self, not_true_eq_false, not_false_eq_true, forall_const, true_implies, false_implies, implies_true, Nat.reduceAdd, Nat.reduceSub, Nat.reduceLT, Nat.reduceLeDiff, Nat.reduceEqDiff, Nat.reduceMul, Nat.reducePow, Nat.add_one_ne_zero, Nat.add_one_sub_one, Nat.add_zero, Nat.zero_add, Int.reduceLT, Int.reduceLE, Int.reduceNeg, Int.reduceAdd, Int.reduceSub, Int.reduceToNat, Int.reduceEq, Int.reduceMul, Int.reducePow, Int.cast_ofNat_Int, Int.toNat_natCast, ne_eq, Bool.false_eq_true, true_or, or_true, or_self, Nat.not_lt_zero, ite_e0, ite_e1, lc_lt, lc_ge, lc_gt, lc_le, lc_eq, Classical.not_not]
            with_reducible repeat' (first | (refine And.intro ?_ ?_) | intro _)
            all_goals try omega
            all_goals first | omega | exact go _
        · by_cases hne : h = wo
          · have c9 := stay
            refine TT_vb ok237 (sm3_ok G w) 60 [28, 148] ?_
            simp -implicitDefEqProofs only [↓b237_0, ↓b237_19, ↓b237_25, ↓b237_28, ↓b237_39, ↓b237_60, ↓b237_81, ↓b237_85, ↓b237_86, ↓b237_93, ↓b237_99, ↓b237_110, ↓b237_142, ↓b237_148, ↓b237_154, b237_0, b237_19, b237_25, b237_28, b237_39, b237_60, b237_81, b237_85, b237_86, b237_93, b237_99, b237_110, b237_142, b237_148, b237_154, nLE4, layE8, hM, ri, hne, I32, ↓xb, xb, ps, lpad, lat, aok2, rd2, aaok, aav, alok, alen, aok, akk, csum, isLg, cmpI, clsE, Option.elim, eq_self, List.mem_cons, List.not_mem_nil, or_false, false_or, List.append_nil, List.nil_append, List.cons_append, List.append_eq, List.replicate, List.length_cons, List.length_nil, List.map_cons, List.map_nil, ↓reduceIte, reduceCtorEq, if_true, if_false, true_and, and_true, false_and, and_false, and_self, not_true_eq_false, not_false_eq_true, forall_const, true_implies, false_implies, implies_true, Nat.reduceAdd, Nat.reduceSub, Nat.reduceLT, Nat.reduceLeDiff, Nat.reduceEqDiff, Nat.reduceMul, Nat.reducePow, Nat.add_one_ne_zero, Nat.add_one_sub_one, Nat.add_zero, Nat.zero_add, Int.reduceLT, Int.reduceLE, Int.reduceNeg, Int.reduceAdd, Int.reduceSub, Int.reduceToNat, Int.reduceEq, Int.reduceMul, Int.reducePow, Int.cast_ofNat_Int, Int.toNat_natCast, ne_eq, Bool.false_eq_true, true_or, or_true, or_self, Nat.not_lt_zero, ite_e0, ite_e1, lc_lt, lc_ge, lc_gt, lc_le, lc_eq, Classical.not_not]
            with_reducible repeat' (first | (refine And.intro ?_ ?_) | intro _)
            all_goals try omega
            all_goals first | omega | (rw [hne] at c9; exact c9 _ (fun z => c0 (by rw [hne]; exact z.1)))
          · have s1 : ¬ σ' 21 74 0 h.toNat = -1 := fun z => by
              rcases rh.mp z with y | y
              · exact c0 y
              · omega
            refine TT_vb ok237 (sm3_ok G w) 60 [28, 148] ?_
            simp -implicitDefEqProofs only [↓b237_0, ↓b237_19, ↓b237_25, ↓b237_28, ↓b237_39, ↓b237_60, ↓b237_81, ↓b237_85, ↓b237_86, ↓b237_93, ↓b237_99, ↓b237_110, ↓b237_142, ↓b237_148, ↓b237_154, b237_0, b237_19, b237_25, b237_28, b237_39, b237_60, b237_81, b237_85, b237_86, b237_93, b237_99, b237_110, b237_142, b237_148, b237_154, nLE4, layE8, hM, s1, ri, hne, I32, ↓xb, xb, ps, lpad, lat, aok2, rd2, aaok, aav, alok, alen, aok, akk, csum, isLg, cmpI, clsE, Option.elim, eq_self, List.mem_cons, List.not_mem_nil, or_false, false_or, List.append_nil, List.nil_append, List.cons_append, List.append_eq, List.replicate, List.length_cons, List.length_nil, List.map_cons, List.map_nil, ↓reduceIte, reduceCtorEq, if_true, if_false, true_and, and_true, false_and, and_false, and_self, not_true_eq_false, not_false_eq_true, forall_const, true_implies, false_implies, implies_true, Nat.reduceAdd, Nat.reduceSub, Nat.reduceLT, Nat.reduceLeDiff, Nat.reduceEqDiff, Nat.reduceMul, Nat.reducePow, Nat.add_one_ne_zero, Nat.add_one_sub_one, Nat.add_zero, Nat.zero_add, Int.reduceLT, Int.reduceLE, Int.reduceNeg, Int.reduceAdd, Int.reduceSub, Int.reduceToNat, Int.reduceEq, Int.reduceMul, Int.reducePow, Int.cast_ofNat_Int, Int.toNat_natCast, ne_eq, Bool.false_eq_true, true_or, or_true, or_self, Nat.not_lt_zero, ite_e0, ite_e1, lc_lt, lc_ge, lc_gt, lc_le, lc_eq, Classical.not_not]
            with_reducible repeat' (first | (refine And.intro ?_ ?_) | intro _)
            all_goals try omega
            all_goals first | omega | exact stay _ (fun z => c0 z.1)
      · refine TT_vb ok237 (sm3_ok G w) 60 [28, 148] ?_
        simp -implicitDefEqProofs only [↓b237_0, ↓b237_19, ↓b237_25, ↓b237_28, ↓b237_39, ↓b237_60, ↓b237_81, ↓b237_85, ↓b237_86, ↓b237_93, ↓b237_99, ↓b237_110, ↓b237_142, ↓b237_148, ↓b237_154, b237_0, b237_19, b237_25, b237_28, b237_39, b237_60, b237_81, b237_85, b237_86, b237_93, b237_99, b237_110, b237_142, b237_148, b237_154, nLE4, layE8, hM, ri, I32, ↓xb, xb, ps, lpad, lat, aok2, rd2, aaok, aav, alok, alen, aok, akk, csum, isLg, cmpI, clsE, Option.elim, eq_self, List.mem_cons, List.not_mem_nil, or_false, false_or, List.append_nil, List.nil_append, List.cons_append, List.append_eq, List.replicate, List.length_cons, List.length_nil, List.map_cons, List.map_nil, ↓reduceIte, reduceCtorEq, if_true, if_false, true_and, and_true, false_and, and_false, and_self, not_true_eq_false, not_false_eq_true, forall_const, true_implies, false_implies, implies_true, Nat.reduceAdd, Nat.reduceSub, Nat.reduceLT, Nat.reduceLeDiff, Nat.reduceEqDiff, Nat.reduceMul, Nat.reducePow, Nat.add_one_ne_zero, Nat.add_one_sub_one, Nat.add_zero, Nat.zero_add, Int.reduceLT, Int.reduceLE, Int.reduceNeg, Int.reduceAdd, Int.reduceSub, Int.reduceToNat, Int.reduceEq, Int.reduceMul, Int.reducePow, Int.cast_ofNat_Int, Int.toNat_natCast, ne_eq, Bool.false_eq_true, true_or, or_true, or_self, Nat.not_lt_zero, ite_e0, ite_e1, lc_lt, lc_ge, lc_gt, lc_le, lc_eq, Classical.not_not]
        with_reducible repeat' (first | (refine And.intro ?_ ?_) | intro _)
        all_goals try omega
        all_goals first | omega | exact stay _ (fun z => c1 z.2.symm)
    · have ei : h = P 2 0 := by omega
      rw [ei] at rb ⊢
      refine TT_vb ok237 (sm3_ok G w) 60 [28, 148] ?_
      simp -implicitDefEqProofs only [↓b237_0, ↓b237_19, ↓b237_25, ↓b237_28, ↓b237_39, ↓b237_60, ↓b237_81, ↓b237_85, ↓b237_86, ↓b237_93, ↓b237_99, ↓b237_110, ↓b237_142, ↓b237_148, ↓b237_154, b237_0, b237_19, b237_25, b237_28, b237_39, b237_60, b237_81, b237_85, b237_86, b237_93, b237_99, b237_110, b237_142, b237_148, b237_154, nLE4, layE8, hM, I32, ↓xb, xb, ps, lpad, lat, aok2, rd2, aaok, aav, alok, alen, aok, akk, csum, isLg, cmpI, clsE, Option.elim, eq_self, List.mem_cons, List.not_mem_nil, or_false, false_or, List.append_nil, List.nil_append, List.cons_append, List.append_eq, List.replicate, List.length_cons, List.length_nil, List.map_cons, List.map_nil, ↓reduceIte, reduceCtorEq, if_true, if_false, true_and, and_true, false_and, and_false, and_self, not_true_eq_false, not_false_eq_true, forall_const, true_implies, false_implies, implies_true, Nat.reduceAdd, Nat.reduceSub, Nat.reduceLT, Nat.reduceLeDiff, Nat.reduceEqDiff, Nat.reduceMul, Nat.reducePow, Nat.add_one_ne_zero, Nat.add_one_sub_one, Nat.add_zero, Nat.zero_add, Int.reduceLT, Int.reduceLE, Int.reduceNeg, Int.reduceAdd, Int.reduceSub, Int.reduceToNat, Int.reduceEq, Int.reduceMul, Int.reducePow, Int.cast_ofNat_Int, Int.toNat_natCast, ne_eq, Bool.false_eq_true, true_or, or_true, or_self, Nat.not_lt_zero, ite_e0, ite_e1, lc_lt, lc_ge, lc_gt, lc_le, lc_eq, Classical.not_not]
      with_reducible repeat' (first | (refine And.intro ?_ ?_) | intro _)
      all_goals try omega
      exact q σ' _ _ rb hs
end HER

/-! 60.rows: rows (class) -/
theorem SXX_1 {σ σ' : Mem} (hs : same SXX σ σ') : ∀ f r c, σ' 1 f r c = σ 1 f r c := fun f r c => hs 1 f rfl r c
theorem SXX_2 {σ σ' : Mem} (hs : same (fun o f => o == 10 && (f == 1 || f == 2)) σ σ') : same SXX σ σ' := hs.mono (fun o f z => by
  have z' : (o == 10 && (f == 1 || f == 2)) = true := z
  rw [Bool.and_eq_true] at z'
  exact z'.1)
/-- what a search below level t keeps -/
def FRt (t : Nat) (σ σ' : Mem) : Prop := (∀ j, j < t → σ' 10 3 0 j = σ 10 3 0 j) ∧ (∀ j, j ≤ t → ∀ x, σ' 10 1 (j + 1) x = σ 10 1 (j + 1) x) ∧ (∀ j, j ≤ t → σ' 10 2 0 j = σ 10 2 0 j) ∧ same SXX σ σ'
theorem FRt.refl {t : Nat} {σ : Mem} : FRt t σ σ := ⟨fun _ _ => rfl, fun _ _ _ => rfl, fun _ _ => rfl, same.refl⟩
theorem FRt.trans {t : Nat} {σ σ' σ'' : Mem} (h : FRt t σ σ') (h' : FRt t σ' σ'') : FRt t σ σ'' := ⟨fun j hj => (h'.1 j hj).trans (h.1 j hj), fun j hj x => (h'.2.1 j hj x).trans (h.2.1 j hj x), fun j hj => (h'.2.2.1 j hj).trans (h.2.2.1 j hj), h.2.2.2.trans h'.2.2.2⟩
theorem FRt.down {t : Nat} {σ σ' : Mem} (h : FRt (t + 1) σ σ') : FRt t σ σ' := ⟨fun j hj => h.1 j (by omega), fun j hj x => h.2.1 j (by omega) x, fun j hj => h.2.2.1 j (by omega), h.2.2.2⟩
def agn (n : Nat) (f g : Nat → Int) : Prop := ∀ c, c < n → f c = g c
/-- the search from whatever best row -/
def RRl (b b' : Nat → Int) (l : Int) (a a' : (Nat → Int) × Int) : Prop := (a = (b, l) ∧ a' = (b', l)) ∨ a = a'
theorem lp_rr {b b' : Nat → Int} {l : Int} {f : Nat → (Nat → Int) × Int → (Nat → Int) × Int} (hf : ∀ w a a', RRl b b' l a a' → RRl b b' l (f w a) (f w a')) : ∀ (q w : Nat) (a a' : (Nat → Int) × Int), RRl b b' l a a' → RRl b b' l (lpF f q w a) (lpF f q w a')
  | 0, w, a, a', h => h
  | q + 1, w, a, a', h => lp_rr hf q (w + 1) _ _ (hf w a a' h)
theorem sr_rr {P : Pt} {b b' : Nat → Int} {l : Int} : ∀ (d t : Nat) (r : Nat → Int) (s a a' : (Nat → Int) × Int), RRl b b' l a a' → RRl b b' l (srF P d t r s a) (srF P d t r s a')
  | 0, t, r, s, a, a', h => by
    have e : a.2 = a'.2 := by
      rcases h with ⟨h1, h2⟩ | h
      · rw [h1, h2]
      · rw [h]
    show RRl b b' l (if s.2 < a.2 then (r, s.2) else a) (if s.2 < a'.2 then (r, s.2) else a')
    rw [e]
    split
    · exact Or.inr rfl
    · exact h
  | d + 1, t, r, s, a, a', h => lp_rr (fun w a a' h => by
    show RRl b b' l (if 0 < P 34 w then srF P d (t + 1) (upd1 r t w) (ndF P w s) a else a) (if 0 < P 34 w then srF P d (t + 1) (upd1 r t w) (ndF P w s) a' else a')
    split
    · exact sr_rr d (t + 1) _ _ a a' h
    · exact h) 5 0 a a' h
theorem lp_le {f : Nat → (Nat → Int) × Int → (Nat → Int) × Int} (hf : ∀ w a, (f w a).2 ≤ a.2) : ∀ (q w : Nat) (a : (Nat → Int) × Int), (lpF f q w a).2 ≤ a.2
  | 0, w, a => Int.le_refl _
  | q + 1, w, a => Int.le_trans (lp_le hf q (w + 1) _) (hf w a)
theorem sr_le {P : Pt} : ∀ (d t : Nat) (r : Nat → Int) (s a : (Nat → Int) × Int), (srF P d t r s a).2 ≤ a.2
  | 0, t, r, s, a => by
    show (if s.2 < a.2 then (r, s.2) else a).2 ≤ a.2
    split
    · show s.2 ≤ a.2; omega
    · exact Int.le_refl _
  | d + 1, t, r, s, a => lp_le (fun w a => by
    show (if 0 < P 34 w then srF P d (t + 1) (upd1 r t w) (ndF P w s) a else a).2 ≤ a.2
    split
    · exact sr_le d (t + 1) _ _ a
    · exact Int.le_refl _) 5 0 a
theorem lp_hit {f : Nat → (Nat → Int) × Int → (Nat → Int) × Int} {B : Int} {x : Nat} (hf : ∀ w a, (f w a).2 ≤ a.2) (hx : ∀ a, (f x a).2 ≤ B) : ∀ (q w : Nat) (a : (Nat → Int) × Int), w ≤ x → x < w + q → (lpF f q w a).2 ≤ B
  | 0, w, a, h1, h2 => by omega
  | q + 1, w, a, h1, h2 => by
    by_cases e : x = w
    · subst e
      exact Int.le_trans (lp_le hf q _ _) (hx a)
    · exact lp_hit hf hx q (w + 1) _ (by omega) (by omega)
theorem sr_bd {P : Pt} (W : WF P) {x : Nat} (hx : x < 5) (h0 : 0 < P 34 x) : ∀ (d t : Nat) (r : Nat → Int) (s a : (Nat → Int) × Int), (srF P d t r s a).2 ≤ s.2 + 4995 * d
  | 0, t, r, s, a => by
    show (if s.2 < a.2 then (r, s.2) else a).2 ≤ _
    split
    · show s.2 ≤ _; omega
    · omega
  | d + 1, t, r, s, a => by
    refine lp_hit (x := x) (fun w a => ?_) (fun a => ?_) 5 0 a (Nat.zero_le _) (by omega)
    · show (if 0 < P 34 w then srF P d (t + 1) (upd1 r t w) (ndF P w s) a else a).2 ≤ a.2
      split
      · exact sr_le d (t + 1) _ _ a
      · exact Int.le_refl _
    · show (if 0 < P 34 x then srF P d (t + 1) (upd1 r t x) (ndF P x s) a else a).2 ≤ _
      rw [if_pos h0]
      have ih := sr_bd W hx h0 d (t + 1) (upd1 r t x) (ndF P x s) a
      have hv := (hi_r W (w := x) (L := s.1) (c := s.2) 5 (by omega)).2
      have e : (ndF P x s).2 = iter (hiS P x s.1) 5 s.2 := rfl
      omega
theorem rw_any {P : Pt} (W : WF P) (ht : ∃ x, x < 5 ∧ 0 < P 34 x) {n : Nat} (hn : 1 ≤ n ∧ n ≤ 7) (b : Nat → Int) : lpF (fun w a => if 0 < P 34 w then srF P (n - 1) (0 + 1) (upd1 (fun _ => 0) 0 w) (ndF P w (fun t => P 35 t, 0)) a else a) 5 0 (b, 1000000) = srF P n 0 (fun _ => 0) (fun t => P 35 t, 0) (fun _ => 0, 1000000) := by
  obtain ⟨x, hx, h0⟩ := ht
  have e : ∀ a, lpF (fun w a => if 0 < P 34 w then srF P (n - 1) (0 + 1) (upd1 (fun _ => 0) 0 w) (ndF P w (fun t => P 35 t, 0)) a else a) 5 0 a = srF P n 0 (fun _ => 0) (fun t => P 35 t, 0) a := fun a => by
    obtain ⟨m, rfl⟩ : ∃ m, n = m + 1 := ⟨n - 1, by omega⟩
    rfl
  rw [e]
  have rr := sr_rr (P := P) (b := b) (b' := fun _ => 0) (l := 1000000) n 0 (fun _ => 0) (fun t => P 35 t, 0) (b, 1000000) (fun _ => 0, 1000000) (Or.inl ⟨rfl, rfl⟩)
  have bd := sr_bd W hx h0 n 0 (fun _ => 0) (fun t => P 35 t, 0) (b, 1000000)
  rcases rr with ⟨r1, _⟩ | r
  · rw [r1] at bd
    have bd' : (1000000 : Int) ≤ 0 + 4995 * (n : Int) := bd
    omega
  · exact r
section RWS
variable {G : Gl} {w : Wd} {k : Nat} {σ : Mem} {Q : Option AV → Mem → Prop} {P : Pt}
/-- the loop's head -/
abbrev HdR (G : Gl) (w : Wd) (k : Nat) (Q : Option AV → Mem → Prop) (n t : Int) (l s : Int) (σ : Mem) : Prop := ∀ l6 : Option AV, TT G w w w k (0, 0) 64 49 [some (vr 10 0 0), some (vr 1 0 0), some (vi n), some (vi l), some (vi t), some (vi s), l6] [] σ Q
set_option maxRecDepth 100000 in
set_option maxHeartbeats 1000000 in
theorem kc_dfs (W : WF P) (hk : 14 ≤ k) {n : Nat} (hn : n ≤ 7) : ∀ (d : Nat) (t : Nat) (r : Nat → Int) (s : (Nat → Int) × Int), t + d + 1 = n → (0 ≤ s.2 ∧ s.2 ≤ 4995 * t) → (∀ x, x < 5 → 0 ≤ s.1 x ∧ s.1 x ≤ 20) →
    ∀ (q wh : Nat) (a : (Nat → Int) × Int) (σ : Mem) (step : Nat), q + wh = 5 → RT True σ 1 P → a.2 ≤ 1000000 → 0 ≤ a.2 → agn t r (fun j => σ 10 3 0 j) → σ 10 3 0 t = (wh : Int) - 1 → (∀ x, x < 5 → σ 10 1 (t + 1) x = s.1 x) → σ 10 2 0 t = s.2 → agn n a.1 (fun j => σ 10 4 0 j) → step + cst d q ≤ 1000000 →
    (∀ (a' : (Nat → Int) × Int) (σ' : Mem) (st' : Nat), a' = lpF (fun w a => if 0 < P 34 w then srF P d (t + 1) (upd1 r t w) (ndF P w s) a else a) q wh a → a'.2 ≤ 1000000 → 0 ≤ a'.2 → FRt t σ σ' → agn n a'.1 (fun j => σ' 10 4 0 j) → st' ≤ step + cst d q → HdR G w k Q n ((t : Int) - 1) a'.2 st' σ') →
    HdR G w k Q n t a.2 step σ := by
  intro d
  induction d with
  | zero =>
    intro t r s htn hs2 hL q
    induction q with
    | zero =>
      intro wh a σ step hq R ha1 ha0 hr hrt hl hh hb hst K l6
      have e5 : wh = 5 := by omega
      subst e5
      have z := K a (up σ 10 3 0 t 5) (step + 1) rfl ha1 ha0 ⟨fun j hj => upp_nc (by omega), fun _ _ _ => upp_nf (by decide), fun _ _ => upp_nf (by decide), same.refl.put rfl⟩ (fun c hc => (hb c hc).trans (upp_nf (by decide)).symm) (by show step + 1 ≤ step + 1; omega)
      have hst' : step + 1 ≤ 1000000 := hst
      have hrt' : σ 10 3 0 t = 4 := hrt
      refine TT_vb ok64 (sm3_ok G w) 60 [49, 140] ?_
      simp -implicitDefEqProofs only [↓b64_0, ↓b64_6, ↓b64_12, ↓b64_18, ↓b64_27, ↓b64_36, ↓b64_49, ↓b64_56, ↓b64_61, ↓b64_87, ↓b64_93, ↓b64_100, ↓b64_105, ↓b64_114, ↓b64_118, ↓b64_126, ↓b64_164, ↓b64_170, ↓b64_140, b64_0, b64_6, b64_12, b64_18, b64_27, b64_36, b64_49, b64_56, b64_61, b64_87, b64_93, b64_100, b64_105, b64_114, b64_118, b64_126, b64_164, b64_170, b64_140, nLE1, layE5, layE4, hrt', up_rd, n3_66, I32, ↓xb, xb, ps, lpad, lat, aok2, rd2, aaok, aav, alok, alen, aok, akk, csum, isLg, cmpI, clsE, Option.elim, eq_self, List.mem_cons, List.not_mem_nil, or_false, false_or, List.append_nil, List.nil_append, List.cons_append, List.append_eq, List.replicate, List.length_cons, List.length_nil, List.map_cons, List.map_nil, ↓reduceIte, reduceCtorEq, if_true, if_false, true_and, and_true, false_and, and_false, and_self, not_true_eq_false, not_false_eq_true, forall_const, true_implies, false_implies, implies_true, Nat.reduceAdd, Nat.reduceSub, Nat.reduceLT, Nat.reduceLeDiff, Nat.reduceEqDiff, Nat.reduceMul, Nat.reducePow, Nat.add_one_ne_zero, Nat.add_one_sub_one, Nat.add_zero, Nat.zero_add, Int.reduceLT, Int.reduceLE, Int.reduceNeg, Int.reduceAdd, Int.reduceSub, Int.reduceToNat, Int.reduceEq, Int.reduceMul, Int.reducePow, Int.cast_ofNat_Int, Int.toNat_natCast, ne_eq, Bool.false_eq_true, true_or, or_true, or_self, Nat.not_lt_zero, ite_e0, ite_e1, lc_lt, lc_ge, lc_gt, lc_le, lc_eq, Classical.not_not]
      with_reducible repeat' (first | (refine And.intro ?_ ?_) | intro _)
      all_goals try omega
      all_goals first | omega | skip
      rw [show ((t : Nat) : Int) + -1 = (t : Int) - 1 by omega, show ((step : Nat) : Int) + 1 = ((step + 1 : Nat) : Int) by omega]
      exact z _
    | succ q ihq =>
      intro wh a σ step hq R ha1 ha0 hr hrt hl hh hb hst K l6
      have w5 : wh < 5 := by omega
      have hst' : step + (q + 1 + 1) ≤ 1000000 := hst
      have g0 := R.turner0 (n := wh) (by omega)
      have tu := W.tu (n := wh) w5
      have hrt' : σ 10 3 0 t + 1 = (wh : Int) := by omega
      have wn : ((wh : Nat) : Int).toNat = wh := by omega
      have up0 : FRt t σ (up σ 10 3 0 t wh) := ⟨fun j hj => upp_nc (by omega), fun _ _ _ => upp_nf (by decide), fun _ _ => upp_nf (by decide), same.refl.put rfl⟩
      by_cases hw : 0 < P 34 wh
      · have hw' : ¬ P 34 wh ≤ 0 := by omega
        have g0' : up σ 10 3 0 t wh 1 18 (wh + 1) 0 = P 34 wh := g0
        have R1 : RT True (up σ 10 3 0 t wh) 1 P := R.put2 (by decide)
        refine TT_vb ok64 (sm3_ok G w) 60 [49, 140] ?_
        simp -implicitDefEqProofs only [↓b64_0, ↓b64_6, ↓b64_12, ↓b64_18, ↓b64_27, ↓b64_36, ↓b64_49, ↓b64_56, ↓b64_61, ↓b64_87, ↓b64_93, ↓b64_100, ↓b64_105, ↓b64_114, ↓b64_118, ↓b64_126, ↓b64_164, ↓b64_170, ↓b64_140, b64_0, b64_6, b64_12, b64_18, b64_27, b64_36, b64_49, b64_56, b64_61, b64_87, b64_93, b64_100, b64_105, b64_114, b64_118, b64_126, b64_164, b64_170, b64_140, nLE1, layE5, layE4, hrt', g0', hw', wn, up_rd, n3_66, I32, ↓xb, xb, ps, lpad, lat, aok2, rd2, aaok, aav, alok, alen, aok, akk, csum, isLg, cmpI, clsE, Option.elim, eq_self, List.mem_cons, List.not_mem_nil, or_false, false_or, List.append_nil, List.nil_append, List.cons_append, List.append_eq, List.replicate, List.length_cons, List.length_nil, List.map_cons, List.map_nil, ↓reduceIte, reduceCtorEq, if_true, if_false, true_and, and_true, false_and, and_false, and_self, not_true_eq_false, not_false_eq_true, forall_const, true_implies, false_implies, implies_true, Nat.reduceAdd, Nat.reduceSub, Nat.reduceLT, Nat.reduceLeDiff, Nat.reduceEqDiff, Nat.reduceMul, Nat.reducePow, Nat.add_one_ne_zero, Nat.add_one_sub_one, Nat.add_zero, Nat.zero_add, Int.reduceLT, Int.reduceLE, Int.reduceNeg, Int.reduceAdd, Int.reduceSub, Int.reduceToNat, Int.reduceEq, Int.reduceMul, Int.reducePow, Int.cast_ofNat_Int, Int.toNat_natCast, ne_eq, Bool.false_eq_true, true_or, or_true, or_self, Nat.not_lt_zero, ite_e0, ite_e1, lc_lt, lc_ge, lc_gt, lc_le, lc_eq, Classical.not_not]
        with_reducible repeat' (first | (refine And.intro ?_ ?_) | intro _)
        all_goals try omega
        all_goals first | omega | skip
        refine kc_ha R1 W (by omega) (t := t) (wh := wh) (by omega) (by omega) (s := s) (by omega) hL (fun x hx => ?_) ?_ (fun σ2 h1 h2 s2 o1 o2 => ?_)
        · rw [show ((t : Nat) : Int).toNat = t by omega, upp_nf (by decide)]; exact hl x hx
        · rw [show ((t : Nat) : Int).toNat = t by omega, upp_nf (by decide)]; exact hh
        · rw [wn] at h1 h2 ⊢
          rw [show ((t : Nat) : Int).toNat = t by omega] at h1 h2 o1 o2
          have s2' := SXX_2 s2
          have R2 : RT True σ2 1 P := fun f j x y => (SXX_1 s2' _ _ _).trans (R1 f j x y)
          have F2 : FRt t σ σ2 := up0.trans ⟨fun j hj => s2 10 3 rfl 0 j, fun j hj x => o1 _ _ (by omega), fun j hj => o2 _ (by omega), s2'⟩
          have hr3 : ∀ j, j ≤ t → σ2 10 3 0 j = upd1 r t wh j := fun j hj => by
            rw [s2 10 3 rfl 0 j]
            by_cases e : j = t
            · subst e; rw [upp_eq, upd1_eq]
            · rw [upp_nc e, upd1_ne e]; exact (hr j (by omega)).symm
          have hv := hi_r W (w := wh) (L := s.1) (c := s.2) 5 (by omega)
          have nd2 : (ndF P wh s).2 = iter (hiS P wh s.1) 5 s.2 := rfl
          have sr : srF P 0 (t + 1) (upd1 r t wh) (ndF P wh s) a = if (ndF P wh s).2 < a.2 then (upd1 r t wh, (ndF P wh s).2) else a := rfl
          have hb2 : agn n a.1 (fun j => σ2 10 4 0 j) := fun c hc => ((hb c hc).trans (upp_nf (by decide)).symm).trans (s2 10 4 rfl 0 c).symm
          have go : ∀ (a2 : (Nat → Int) × Int) (σ3 : Mem), a2 = srF P 0 (t + 1) (upd1 r t wh) (ndF P wh s) a → a2.2 ≤ 1000000 → 0 ≤ a2.2 → FRt t σ σ3 → σ3 10 3 0 t = (wh : Int) → agn n a2.1 (fun j => σ3 10 4 0 j) → HdR G w k Q n t a2.2 (step + 1 : Nat) σ3 := fun a2 σ3 ea h1 h0 F3 ht3 hb3 => by
            refine ihq (wh + 1) a2 σ3 (step + 1) (by omega) (fun f j x y => (SXX_1 F3.2.2.2 _ _ _).trans (R f j x y)) h1 h0 (fun c hc => (hr c hc).trans (F3.1 c hc).symm) (by rw [ht3]; omega) (fun x hx => (F3.2.1 t (Nat.le_refl _) x).trans (hl x hx)) ((F3.2.2.1 t (Nat.le_refl _)).trans hh) hb3 (by show step + 1 + (q + 1) ≤ 1000000; omega) (fun a' σ' st' e1 e2 e3 e4 e5 e6 => K a' σ' st' ?_ e2 e3 (F3.trans e4) e5 (by have e6' : st' ≤ step + 1 + (q + 1) := e6; show st' ≤ step + (q + 1 + 1); omega))
            rw [e1, ea]
            show _ = lpF _ q (wh + 1) (if 0 < P 34 wh then srF P 0 (t + 1) (upd1 r t wh) (ndF P wh s) a else a)
            rw [if_pos hw]
          by_cases c : (ndF P wh s).2 < a.2
          · rw [if_pos c] at sr
            have c' : ¬ a.2 ≤ (ndF P wh s).2 := by omega
            simp -implicitDefEqProofs only [↓b64_0, ↓b64_6, ↓b64_12, ↓b64_18, ↓b64_27, ↓b64_36, ↓b64_49, ↓b64_56, ↓b64_61, ↓b64_87, ↓b64_93, ↓b64_100, ↓b64_105, ↓b64_114, ↓b64_118, ↓b64_126, ↓b64_164, ↓b64_170, ↓b64_140, b64_0, b64_6, b64_12, b64_18, b64_27, b64_36, b64_49, b64_56, b64_61, b64_87, b64_93, b64_100, b64_105, b64_114, b64_118, b64_126, b64_164, b64_170, b64_140, nLE1, layE5, layE4, c', n3_66, I32, ↓xb, xb, ps, lpad, lat, aok2, rd2, aaok, aav, alok, alen, aok, akk, csum, isLg, cmpI, clsE, Option.elim, eq_self, List.mem_cons, List.not_mem_nil, or_false, false_or, List.append_nil, List.nil_append, List.cons_append, List.append_eq, List.replicate, List.length_cons, List.length_nil, List.map_cons, List.map_nil, ↓reduceIte, reduceCtorEq, if_true, if_false, true_and, and_true, false_and, and_false, and_self, not_true_eq_false, not_false_eq_true, forall_const, true_implies, false_implies, implies_true, Nat.reduceAdd, Nat.reduceSub, Nat.reduceLT, Nat.reduceLeDiff, Nat.reduceEqDiff, Nat.reduceMul, Nat.reducePow, Nat.add_one_ne_zero, Nat.add_one_sub_one, Nat.add_zero, Nat.zero_add, Int.reduceLT, Int.reduceLE, Int.reduceNeg, Int.reduceAdd, Int.reduceSub, Int.reduceToNat, Int.reduceEq, Int.reduceMul, Int.reducePow, Int.cast_ofNat_Int, Int.toNat_natCast, ne_eq, Bool.false_eq_true, true_or, or_true, or_self, Nat.not_lt_zero, ite_e0, ite_e1, lc_lt, lc_ge, lc_gt, lc_le, lc_eq, Classical.not_not]
            with_reducible repeat' (first | (refine And.intro ?_ ?_) | intro _)
            all_goals try omega
            all_goals first | omega | skip
            refine TT_vn ok64 (sm3_ok G w) 60 14 [161] ?_
            have row2 : (t : Int) + 1 = ((t + 1 : Nat) : Int) := by omega
            have rn : ((t + 1 : Nat) : Int).toNat = t + 1 := by omega
            simp -implicitDefEqProofs only [↓b64_0, ↓b64_6, ↓b64_12, ↓b64_18, ↓b64_27, ↓b64_36, ↓b64_49, ↓b64_56, ↓b64_61, ↓b64_87, ↓b64_93, ↓b64_100, ↓b64_105, ↓b64_114, ↓b64_118, ↓b64_126, ↓b64_164, ↓b64_170, ↓b64_140, b64_0, b64_6, b64_12, b64_18, b64_27, b64_36, b64_49, b64_56, b64_61, b64_87, b64_93, b64_100, b64_105, b64_114, b64_118, b64_126, b64_164, b64_170, b64_140, nLE1, layE5, layE4, row2, rn, h2, n3_66, I32, ↓xb, xb, ps, lpad, lat, aok2, rd2, aaok, aav, alok, alen, aok, akk, csum, isLg, cmpI, clsE, Option.elim, eq_self, List.mem_cons, List.not_mem_nil, or_false, false_or, List.append_nil, List.nil_append, List.cons_append, List.append_eq, List.replicate, List.length_cons, List.length_nil, List.map_cons, List.map_nil, ↓reduceIte, reduceCtorEq, if_true, if_false, true_and, and_true, false_and, and_false, and_self, not_true_eq_false, not_false_eq_true, forall_const, true_implies, false_implies, implies_true, Nat.reduceAdd, Nat.reduceSub, Nat.reduceLT, Nat.reduceLeDiff, Nat.reduceEqDiff, Nat.reduceMul, Nat.reducePow, Nat.add_one_ne_zero, Nat.add_one_sub_one, Nat.add_zero, Nat.zero_add, Int.reduceLT, Int.reduceLE, Int.reduceNeg, Int.reduceAdd, Int.reduceSub, Int.reduceToNat, Int.reduceEq, Int.reduceMul, Int.reducePow, Int.cast_ofNat_Int, Int.toNat_natCast, ne_eq, Bool.false_eq_true, true_or, or_true, or_self, Nat.not_lt_zero, ite_e0, ite_e1, lc_lt, lc_ge, lc_gt, lc_le, lc_eq, Classical.not_not]
            with_reducible repeat' (first | (refine And.intro ?_ ?_) | intro _)
            all_goals try omega
            all_goals first | omega | skip
            have dd := TT_cpy (pc := 161) ok64 (ix := 36) (x := -1) (z := 5) rfl
            refine S_cpyi dd.1 dd.2 (by decide) (by decide) (by decide) (by decide) (by decide) (by decide) (by omega) (show ((n : Nat) : Int) ≤ ((7 : Nat) : Int) by omega) (show ((n : Nat) : Int) ≤ ((7 : Nat) : Int) by omega) (by omega) (by decide) ?_
            have tn : ((n : Nat) : Int).toNat = n := by omega
            rw [tn]
            have s3 : FRt t σ2 (cpM σ2 10 3 0 10 4 0 n) := ⟨fun j hj => cpM_ne (fun e => absurd e.2.1 (by decide)), fun j hj x => cpM_ne (fun e => absurd e.2.1 (by decide)), fun j hj => cpM_ne (fun e => absurd e.2.1 (by decide)), fun o g z r c => cpM_ne (fun e => by
              have z' : (o == 10) = false := z
              rw [e.1] at z'; simp at z')⟩
            refine TT_vb ok64 (sm3_ok G w) 60 [49] ?_
            simp -implicitDefEqProofs only [↓b64_0, ↓b64_6, ↓b64_12, ↓b64_18, ↓b64_27, ↓b64_36, ↓b64_49, ↓b64_56, ↓b64_61, ↓b64_87, ↓b64_93, ↓b64_100, ↓b64_105, ↓b64_114, ↓b64_118, ↓b64_126, ↓b64_164, ↓b64_170, ↓b64_140, b64_0, b64_6, b64_12, b64_18, b64_27, b64_36, b64_49, b64_56, b64_61, b64_87, b64_93, b64_100, b64_105, b64_114, b64_118, b64_126, b64_164, b64_170, b64_140, nLE1, layE5, layE4, hk, n3_66, I32, ↓xb, xb, ps, lpad, lat, aok2, rd2, aaok, aav, alok, alen, aok, akk, csum, isLg, cmpI, clsE, Option.elim, eq_self, List.mem_cons, List.not_mem_nil, or_false, false_or, List.append_nil, List.nil_append, List.cons_append, List.append_eq, List.replicate, List.length_cons, List.length_nil, List.map_cons, List.map_nil, ↓reduceIte, reduceCtorEq, if_true, if_false, true_and, and_true, false_and, and_false, and_self, not_true_eq_false, not_false_eq_true, forall_const, true_implies, false_implies, implies_true, Nat.reduceAdd, Nat.reduceSub, Nat.reduceLT, Nat.reduceLeDiff, Nat.reduceEqDiff, Nat.reduceMul, Nat.reducePow, Nat.add_one_ne_zero, Nat.add_one_sub_one, Nat.add_zero, Nat.zero_add, Int.reduceLT, Int.reduceLE, Int.reduceNeg, Int.reduceAdd, Int.reduceSub, Int.reduceToNat, Int.reduceEq, Int.reduceMul, Int.reducePow, Int.cast_ofNat_Int, Int.toNat_natCast, ne_eq, Bool.false_eq_true, true_or, or_true, or_self, Nat.not_lt_zero, ite_e0, ite_e1, lc_lt, lc_ge, lc_gt, lc_le, lc_eq, Classical.not_not]
            with_reducible repeat' (first | (refine And.intro ?_ ?_) | intro _)
            all_goals try omega
            all_goals first | omega | skip
            rw [show ((step : Nat) : Int) + 1 = ((step + 1 : Nat) : Int) by omega]
            refine go (upd1 r t wh, (ndF P wh s).2) _ sr.symm (by show (ndF P wh s).2 ≤ _; omega) (by show 0 ≤ (ndF P wh s).2; omega) (F2.trans s3) ?_ (fun c' hc => ?_) _
            · rw [cpM_ne (fun e => absurd e.2.1 (by decide)), hr3 t (Nat.le_refl _), upd1_eq]
            · show upd1 r t wh c' = cpM σ2 10 3 0 10 4 0 n 10 4 0 c'
              rw [cpM_eq hc, hr3 c' (by omega)]
          · rw [if_neg c] at sr
            have c' : a.2 ≤ (ndF P wh s).2 := by omega
            simp -implicitDefEqProofs only [↓b64_0, ↓b64_6, ↓b64_12, ↓b64_18, ↓b64_27, ↓b64_36, ↓b64_49, ↓b64_56, ↓b64_61, ↓b64_87, ↓b64_93, ↓b64_100, ↓b64_105, ↓b64_114, ↓b64_118, ↓b64_126, ↓b64_164, ↓b64_170, ↓b64_140, b64_0, b64_6, b64_12, b64_18, b64_27, b64_36, b64_49, b64_56, b64_61, b64_87, b64_93, b64_100, b64_105, b64_114, b64_118, b64_126, b64_164, b64_170, b64_140, nLE1, layE5, layE4, c', n3_66, I32, ↓xb, xb, ps, lpad, lat, aok2, rd2, aaok, aav, alok, alen, aok, akk, csum, isLg, cmpI, clsE, Option.elim, eq_self, List.mem_cons, List.not_mem_nil, or_false, false_or, List.append_nil, List.nil_append, List.cons_append, List.append_eq, List.replicate, List.length_cons, List.length_nil, List.map_cons, List.map_nil, ↓reduceIte, reduceCtorEq, if_true, if_false, true_and, and_true, false_and, and_false, and_self, not_true_eq_false, not_false_eq_true, forall_const, true_implies, false_implies, implies_true, Nat.reduceAdd, Nat.reduceSub, Nat.reduceLT, Nat.reduceLeDiff, Nat.reduceEqDiff, Nat.reduceMul, Nat.reducePow, Nat.add_one_ne_zero, Nat.add_one_sub_one, Nat.add_zero, Nat.zero_add, Int.reduceLT, Int.reduceLE, Int.reduceNeg, Int.reduceAdd, Int.reduceSub, Int.reduceToNat, Int.reduceEq, Int.reduceMul, Int.reducePow, Int.cast_ofNat_Int, Int.toNat_natCast, ne_eq, Bool.false_eq_true, true_or, or_true, or_self, Nat.not_lt_zero, ite_e0, ite_e1, lc_lt, lc_ge, lc_gt, lc_le, lc_eq, Classical.not_not]
            with_reducible repeat' (first | (refine And.intro ?_ ?_) | intro _)
            all_goals try omega
            all_goals first | omega | skip
            rw [show ((step : Nat) : Int) + 1 = ((step + 1 : Nat) : Int) by omega]
            exact go a σ2 sr.symm ha1 ha0 F2 (by rw [hr3 t (Nat.le_refl _), upd1_eq]) hb2 _
      · have hw' : P 34 wh ≤ 0 := by omega
        have g0' : up σ 10 3 0 t wh 1 18 (wh + 1) 0 = P 34 wh := g0
        refine TT_vb ok64 (sm3_ok G w) 60 [49, 140] ?_
        simp -implicitDefEqProofs only [↓b64_0, ↓b64_6, ↓b64_12, ↓b64_18, ↓b64_27, ↓b64_36, ↓b64_49, ↓b64_56, ↓b64_61, ↓b64_87, ↓b64_93, ↓b64_100, ↓b64_105, ↓b64_114, ↓b64_118, ↓b64_126, ↓b64_164, ↓b64_170, ↓b64_140, b64_0, b64_6, b64_12, b64_18, b64_27, b64_36, b64_49, b64_56, b64_61, b64_87, b64_93, b64_100, b64_105, b64_114, b64_118, b64_126, b64_164, b64_170, b64_140, nLE1, layE5, layE4, hrt', g0', hw', wn, up_rd, n3_66, I32, ↓xb, xb, ps, lpad, lat, aok2, rd2, aaok, aav, alok, alen, aok, akk, csum, isLg, cmpI, clsE, Option.elim, eq_self, List.mem_cons, List.not_mem_nil, or_false, false_or, List.append_nil, List.nil_append, List.cons_append, List.append_eq, List.replicate, List.length_cons, List.length_nil, List.map_cons, List.map_nil, ↓reduceIte, reduceCtorEq, if_true, if_false, true_and, and_true, false_and, and_false, and_self, not_true_eq_false, not_false_eq_true, forall_const, true_implies, false_implies, implies_true, Nat.reduceAdd, Nat.reduceSub, Nat.reduceLT, Nat.reduceLeDiff, Nat.reduceEqDiff, Nat.reduceMul, Nat.reducePow, Nat.add_one_ne_zero, Nat.add_one_sub_one, Nat.add_zero, Nat.zero_add, Int.reduceLT, Int.reduceLE, Int.reduceNeg, Int.reduceAdd, Int.reduceSub, Int.reduceToNat, Int.reduceEq, Int.reduceMul, Int.reducePow, Int.cast_ofNat_Int, Int.toNat_natCast, ne_eq, Bool.false_eq_true, true_or, or_true, or_self, Nat.not_lt_zero, ite_e0, ite_e1, lc_lt, lc_ge, lc_gt, lc_le, lc_eq, Classical.not_not]
        with_reducible repeat' (first | (refine And.intro ?_ ?_) | intro _)
        all_goals try omega
        all_goals first | omega | skip
        rw [show ((step : Nat) : Int) + 1 = ((step + 1 : Nat) : Int) by omega]
        refine ihq (wh + 1) a (up σ 10 3 0 t wh) (step + 1) (by omega) (R.put2 (by decide)) ha1 ha0 (fun c hc => (hr c hc).trans (upp_nc (by omega)).symm) (by rw [upp_eq]; omega) (fun x hx => (upp_nf (by decide)).trans (hl x hx)) ((upp_nf (by decide)).trans hh) (fun c hc => (hb c hc).trans (upp_nf (by decide)).symm) (by show step + 1 + (q + 1) ≤ 1000000; omega) (fun a' σ' st' e1 e2 e3 e4 e5 e6 => K a' σ' st' ?_ e2 e3 (up0.trans e4) e5 (by have e6' : st' ≤ step + 1 + (q + 1) := e6; show st' ≤ step + (q + 1 + 1); omega)) _
        rw [e1]
        show _ = lpF _ q (wh + 1) (if 0 < P 34 wh then srF P 0 (t + 1) (upd1 r t wh) (ndF P wh s) a else a)
        rw [if_neg hw]
  | succ d ihd =>
    intro t r s htn hs2 hL q
    induction q with
    | zero =>
      intro wh a σ step hq R ha1 ha0 hr hrt hl hh hb hst K l6
      have e5 : wh = 5 := by omega
      subst e5
      have hst' : step + (0 * (cst d 5 + 1) + 1) ≤ 1000000 := hst
      rw [Nat.zero_mul, Nat.zero_add] at hst'
      have z := K a (up σ 10 3 0 t 5) (step + 1) rfl ha1 ha0 ⟨fun j hj => upp_nc (by omega), fun _ _ _ => upp_nf (by decide), fun _ _ => upp_nf (by decide), same.refl.put rfl⟩ (fun c hc => (hb c hc).trans (upp_nf (by decide)).symm) (by show step + 1 ≤ step + (0 * (cst d 5 + 1) + 1); rw [Nat.zero_mul]; omega)
      have hrt' : σ 10 3 0 t = 4 := hrt
      refine TT_vb ok64 (sm3_ok G w) 60 [49, 140] ?_
      simp -implicitDefEqProofs only [↓b64_0, ↓b64_6, ↓b64_12, ↓b64_18, ↓b64_27, ↓b64_36, ↓b64_49, ↓b64_56, ↓b64_61, ↓b64_87, ↓b64_93, ↓b64_100, ↓b64_105, ↓b64_114, ↓b64_118, ↓b64_126, ↓b64_164, ↓b64_170, ↓b64_140, b64_0, b64_6, b64_12, b64_18, b64_27, b64_36, b64_49, b64_56, b64_61, b64_87, b64_93, b64_100, b64_105, b64_114, b64_118, b64_126, b64_164, b64_170, b64_140, nLE1, layE5, layE4, hrt', up_rd, n3_66, I32, ↓xb, xb, ps, lpad, lat, aok2, rd2, aaok, aav, alok, alen, aok, akk, csum, isLg, cmpI, clsE, Option.elim, eq_self, List.mem_cons, List.not_mem_nil, or_false, false_or, List.append_nil, List.nil_append, List.cons_append, List.append_eq, List.replicate, List.length_cons, List.length_nil, List.map_cons, List.map_nil, ↓reduceIte, reduceCtorEq, if_true, if_false, true_and, and_true, false_and, and_false, and_self, not_true_eq_false, not_false_eq_true, forall_const, true_implies, false_implies, implies_true, Nat.reduceAdd, Nat.reduceSub, Nat.reduceLT, Nat.reduceLeDiff, Nat.reduceEqDiff, Nat.reduceMul, Nat.reducePow, Nat.add_one_ne_zero, Nat.add_one_sub_one, Nat.add_zero, Nat.zero_add, Int.reduceLT, Int.reduceLE, Int.reduceNeg, Int.reduceAdd, Int.reduceSub, Int.reduceToNat, Int.reduceEq, Int.reduceMul, Int.reducePow, Int.cast_ofNat_Int, Int.toNat_natCast, ne_eq, Bool.false_eq_true, true_or, or_true, or_self, Nat.not_lt_zero, ite_e0, ite_e1, lc_lt, lc_ge, lc_gt, lc_le, lc_eq, Classical.not_not]
      with_reducible repeat' (first | (refine And.intro ?_ ?_) | intro _)
      all_goals try omega
      all_goals first | omega | skip
      rw [show ((t : Nat) : Int) + -1 = (t : Int) - 1 by omega, show ((step : Nat) : Int) + 1 = ((step + 1 : Nat) : Int) by omega]
      exact z _
    | succ q ihq =>
      intro wh a σ step hq R ha1 ha0 hr hrt hl hh hb hst K l6
      have w5 : wh < 5 := by omega
      have ecs : cst (d + 1) (q + 1) = cst (d + 1) q + (cst d 5 + 1) := by
        show (q + 1) * (cst d 5 + 1) + 1 = q * (cst d 5 + 1) + 1 + (cst d 5 + 1)
        rw [Nat.succ_mul]; omega
      rw [ecs] at hst
      have g0 := R.turner0 (n := wh) (by omega)
      have tu := W.tu (n := wh) w5
      have hrt' : σ 10 3 0 t + 1 = (wh : Int) := by omega
      have wn : ((wh : Nat) : Int).toNat = wh := by omega
      have up0 : FRt t σ (up σ 10 3 0 t wh) := ⟨fun j hj => upp_nc (by omega), fun _ _ _ => upp_nf (by decide), fun _ _ => upp_nf (by decide), same.refl.put rfl⟩
      have go : ∀ (a2 : (Nat → Int) × Int) (σ3 : Mem) (st3 : Nat), a2 = (if 0 < P 34 wh then srF P (d + 1) (t + 1) (upd1 r t wh) (ndF P wh s) a else a) → a2.2 ≤ 1000000 → 0 ≤ a2.2 → FRt t σ σ3 → σ3 10 3 0 t = (wh : Int) → agn n a2.1 (fun j => σ3 10 4 0 j) → st3 ≤ step + (cst d 5 + 1) → HdR G w k Q n t a2.2 st3 σ3 := fun a2 σ3 st3 ea h1 h0 F3 ht3 hb3 hst3 => by
        refine ihq (wh + 1) a2 σ3 st3 (by omega) (fun f j x y => (SXX_1 F3.2.2.2 _ _ _).trans (R f j x y)) h1 h0 (fun c hc => (hr c hc).trans (F3.1 c hc).symm) (by rw [ht3]; omega) (fun x hx => (F3.2.1 t (Nat.le_refl _) x).trans (hl x hx)) ((F3.2.2.1 t (Nat.le_refl _)).trans hh) hb3 (by omega) (fun a' σ' st' e1 e2 e3 e4 e5 e6 => K a' σ' st' ?_ e2 e3 (F3.trans e4) e5 (by rw [ecs]; omega))
        rw [e1, ea]
        rfl
      by_cases hw : 0 < P 34 wh
      · have hw' : ¬ P 34 wh ≤ 0 := by omega
        have g0' : up σ 10 3 0 t wh 1 18 (wh + 1) 0 = P 34 wh := g0
        have R1 : RT True (up σ 10 3 0 t wh) 1 P := R.put2 (by decide)
        rw [if_pos hw] at go
        refine TT_vb ok64 (sm3_ok G w) 60 [49, 140] ?_
        simp -implicitDefEqProofs only [↓b64_0, ↓b64_6, ↓b64_12, ↓b64_18, ↓b64_27, ↓b64_36, ↓b64_49, ↓b64_56, ↓b64_61, ↓b64_87, ↓b64_93, ↓b64_100, ↓b64_105, ↓b64_114, ↓b64_118, ↓b64_126, ↓b64_164, ↓b64_170, ↓b64_140, b64_0, b64_6, b64_12, b64_18, b64_27, b64_36, b64_49, b64_56, b64_61, b64_87, b64_93, b64_100, b64_105, b64_114, b64_118, b64_126, b64_164, b64_170, b64_140, nLE1, layE5, layE4, hrt', g0', hw', wn, up_rd, n3_66, I32, ↓xb, xb, ps, lpad, lat, aok2, rd2, aaok, aav, alok, alen, aok, akk, csum, isLg, cmpI, clsE, Option.elim, eq_self, List.mem_cons, List.not_mem_nil, or_false, false_or, List.append_nil, List.nil_append, List.cons_append, List.append_eq, List.replicate, List.length_cons, List.length_nil, List.map_cons, List.map_nil, ↓reduceIte, reduceCtorEq, if_true, if_false, true_and, and_true, false_and, and_false, and_self, not_true_eq_false, not_false_eq_true, forall_const, true_implies, false_implies, implies_true, Nat.reduceAdd, Nat.reduceSub, Nat.reduceLT, Nat.reduceLeDiff, Nat.reduceEqDiff, Nat.reduceMul, Nat.reducePow, Nat.add_one_ne_zero, Nat.add_one_sub_one, Nat.add_zero, Nat.zero_add, Int.reduceLT, Int.reduceLE, Int.reduceNeg, Int.reduceAdd, Int.reduceSub, Int.reduceToNat, Int.reduceEq, Int.reduceMul, Int.reducePow, Int.cast_ofNat_Int, Int.toNat_natCast, ne_eq, Bool.false_eq_true, true_or, or_true, or_self, Nat.not_lt_zero, ite_e0, ite_e1, lc_lt, lc_ge, lc_gt, lc_le, lc_eq, Classical.not_not]
        with_reducible repeat' (first | (refine And.intro ?_ ?_) | intro _)
        all_goals try omega
        all_goals first | omega | skip
        refine kc_ha R1 W (by omega) (t := t) (wh := wh) (by omega) (by omega) (s := s) (by omega) hL (fun x hx => ?_) ?_ (fun σ2 h1 h2 s2 o1 o2 => ?_)
        · rw [show ((t : Nat) : Int).toNat = t by omega, upp_nf (by decide)]; exact hl x hx
        · rw [show ((t : Nat) : Int).toNat = t by omega, upp_nf (by decide)]; exact hh
        · rw [wn] at h1 h2 ⊢
          rw [show ((t : Nat) : Int).toNat = t by omega] at h1 h2 o1 o2
          have s2' := SXX_2 s2
          have R2 : RT True σ2 1 P := fun f j x y => (SXX_1 s2' _ _ _).trans (R1 f j x y)
          have F2 : FRt t σ σ2 := up0.trans ⟨fun j hj => s2 10 3 rfl 0 j, fun j hj x => o1 _ _ (by omega), fun j hj => o2 _ (by omega), s2'⟩
          have hr3 : ∀ j, j ≤ t → σ2 10 3 0 j = upd1 r t wh j := fun j hj => by
            rw [s2 10 3 rfl 0 j]
            by_cases e : j = t
            · subst e; rw [upp_eq, upd1_eq]
            · rw [upp_nc e, upd1_ne e]; exact (hr j (by omega)).symm
          have hv := hi_r W (w := wh) (L := s.1) (c := s.2) 5 (by omega)
          have nd2 : (ndF P wh s).2 = iter (hiS P wh s.1) 5 s.2 := rfl
          have nd1 : ∀ x, x < 5 → 0 ≤ (ndF P wh s).1 x ∧ (ndF P wh s).1 x ≤ 20 := fun x hx => by
            have y := hL x hx
            have z := (W.tu (n := x) hx).1
            show 0 ≤ lvF P wh s.1 x ∧ lvF P wh s.1 x ≤ 20
            unfold lvF; split <;> omega
          have hb2 : agn n a.1 (fun j => σ2 10 4 0 j) := fun c hc => ((hb c hc).trans (upp_nf (by decide)).symm).trans (s2 10 4 rfl 0 c).symm
          by_cases c : (ndF P wh s).2 < a.2
          · have c' : ¬ a.2 ≤ (ndF P wh s).2 := by omega
            have c2 : ¬ (n : Int) ≤ (t : Int) + 1 := by omega
            simp -implicitDefEqProofs only [↓b64_0, ↓b64_6, ↓b64_12, ↓b64_18, ↓b64_27, ↓b64_36, ↓b64_49, ↓b64_56, ↓b64_61, ↓b64_87, ↓b64_93, ↓b64_100, ↓b64_105, ↓b64_114, ↓b64_118, ↓b64_126, ↓b64_164, ↓b64_170, ↓b64_140, b64_0, b64_6, b64_12, b64_18, b64_27, b64_36, b64_49, b64_56, b64_61, b64_87, b64_93, b64_100, b64_105, b64_114, b64_118, b64_126, b64_164, b64_170, b64_140, nLE1, layE5, layE4, c', c2, n3_66, I32, ↓xb, xb, ps, lpad, lat, aok2, rd2, aaok, aav, alok, alen, aok, akk, csum, isLg, cmpI, clsE, Option.elim, eq_self, List.mem_cons, List.not_mem_nil, or_false, false_or, List.append_nil, List.nil_append, List.cons_append, List.append_eq, List.replicate, List.length_cons, List.length_nil, List.map_cons, List.map_nil, ↓reduceIte, reduceCtorEq, if_true, if_false, true_and, and_true, false_and, and_false, and_self, not_true_eq_false, not_false_eq_true, forall_const, true_implies, false_implies, implies_true, Nat.reduceAdd, Nat.reduceSub, Nat.reduceLT, Nat.reduceLeDiff, Nat.reduceEqDiff, Nat.reduceMul, Nat.reducePow, Nat.add_one_ne_zero, Nat.add_one_sub_one, Nat.add_zero, Nat.zero_add, Int.reduceLT, Int.reduceLE, Int.reduceNeg, Int.reduceAdd, Int.reduceSub, Int.reduceToNat, Int.reduceEq, Int.reduceMul, Int.reducePow, Int.cast_ofNat_Int, Int.toNat_natCast, ne_eq, Bool.false_eq_true, true_or, or_true, or_self, Nat.not_lt_zero, ite_e0, ite_e1, lc_lt, lc_ge, lc_gt, lc_le, lc_eq, Classical.not_not]
            with_reducible repeat' (first | (refine And.intro ?_ ?_) | intro _)
            all_goals try omega
            all_goals first | omega | skip
            rw [show ((step : Nat) : Int) + 1 = ((step + 1 : Nat) : Int) by omega, show ((t : Nat) : Int) + 1 = ((t + 1 : Nat) : Int) by omega]
            rw [show (((t + 1 : Nat) : Int)).toNat = t + 1 by omega]
            have F4 : FRt t σ2 (up σ2 10 3 0 (t + 1) (-1)) := ⟨fun j hj => upp_nc (by omega), fun _ _ _ => upp_nf (by decide), fun _ _ => upp_nf (by decide), same.refl.put rfl⟩
            refine ihd (t + 1) (upd1 r t wh) (ndF P wh s) (by omega) (by omega) nd1 5 0 a (up σ2 10 3 0 (t + 1) (-1)) (step + 1) (by omega) (R2.put2 (by decide)) ha1 ha0 (fun j hj => ?_) (by rw [upp_eq]; rfl) (fun x hx => (upp_nf (by decide)).trans (h1 x hx)) ((upp_nf (by decide)).trans h2) (fun c hc => (hb2 c hc).trans (upp_nf (by decide)).symm) (by omega) (fun a' σ' st' e1 e2 e3 e4 e5 e6 => ?_) _
            · show upd1 r t wh j = up σ2 10 3 0 (t + 1) (-1) 10 3 0 j
              rw [upp_nc (by omega)]; exact (hr3 j (by omega)).symm
            · rw [show ((t + 1 : Nat) : Int) - 1 = (t : Int) by omega]
              refine go a' σ' st' e1 e2 e3 ((F2.trans F4).trans e4.down) ?_ e5 (by omega)
              rw [e4.1 t (by omega), upp_nc (by omega), hr3 t (Nat.le_refl _), upd1_eq]
          · have c' : a.2 ≤ (ndF P wh s).2 := by omega
            simp -implicitDefEqProofs only [↓b64_0, ↓b64_6, ↓b64_12, ↓b64_18, ↓b64_27, ↓b64_36, ↓b64_49, ↓b64_56, ↓b64_61, ↓b64_87, ↓b64_93, ↓b64_100, ↓b64_105, ↓b64_114, ↓b64_118, ↓b64_126, ↓b64_164, ↓b64_170, ↓b64_140, b64_0, b64_6, b64_12, b64_18, b64_27, b64_36, b64_49, b64_56, b64_61, b64_87, b64_93, b64_100, b64_105, b64_114, b64_118, b64_126, b64_164, b64_170, b64_140, nLE1, layE5, layE4, c', n3_66, I32, ↓xb, xb, ps, lpad, lat, aok2, rd2, aaok, aav, alok, alen, aok, akk, csum, isLg, cmpI, clsE, Option.elim, eq_self, List.mem_cons, List.not_mem_nil, or_false, false_or, List.append_nil, List.nil_append, List.cons_append, List.append_eq, List.replicate, List.length_cons, List.length_nil, List.map_cons, List.map_nil, ↓reduceIte, reduceCtorEq, if_true, if_false, true_and, and_true, false_and, and_false, and_self, not_true_eq_false, not_false_eq_true, forall_const, true_implies, false_implies, implies_true, Nat.reduceAdd, Nat.reduceSub, Nat.reduceLT, Nat.reduceLeDiff, Nat.reduceEqDiff, Nat.reduceMul, Nat.reducePow, Nat.add_one_ne_zero, Nat.add_one_sub_one, Nat.add_zero, Nat.zero_add, Int.reduceLT, Int.reduceLE, Int.reduceNeg, Int.reduceAdd, Int.reduceSub, Int.reduceToNat, Int.reduceEq, Int.reduceMul, Int.reducePow, Int.cast_ofNat_Int, Int.toNat_natCast, ne_eq, Bool.false_eq_true, true_or, or_true, or_self, Nat.not_lt_zero, ite_e0, ite_e1, lc_lt, lc_ge, lc_gt, lc_le, lc_eq, Classical.not_not]
            with_reducible repeat' (first | (refine And.intro ?_ ?_) | intro _)
            all_goals try omega
            all_goals first | omega | skip
            rw [show ((step : Nat) : Int) + 1 = ((step + 1 : Nat) : Int) by omega]
            exact go a σ2 (step + 1) (sr_ge W (d + 1) _ _ _ a c').symm ha1 ha0 F2 (by rw [hr3 t (Nat.le_refl _), upd1_eq]) hb2 (by omega) _
      · have hw' : P 34 wh ≤ 0 := by omega
        have g0' : up σ 10 3 0 t wh 1 18 (wh + 1) 0 = P 34 wh := g0
        rw [if_neg hw] at go
        refine TT_vb ok64 (sm3_ok G w) 60 [49, 140] ?_
        simp -implicitDefEqProofs only [↓b64_0, ↓b64_6, ↓b64_12, ↓b64_18, ↓b64_27, ↓b64_36, ↓b64_49, ↓b64_56, ↓b64_61, ↓b64_87, ↓b64_93, ↓b64_100, ↓b64_105, ↓b64_114, ↓b64_118, ↓b64_126, ↓b64_164, ↓b64_170, ↓b64_140, b64_0, b64_6, b64_12, b64_18, b64_27, b64_36, b64_49, b64_56, b64_61, b64_87, b64_93, b64_100, b64_105, b64_114, b64_118, b64_126, b64_164, b64_170, b64_140, nLE1, layE5, layE4, hrt', g0', hw', wn, up_rd, n3_66, I32, ↓xb, xb, ps, lpad, lat, aok2, rd2, aaok, aav, alok, alen, aok, akk, csum, isLg, cmpI, clsE, Option.elim, eq_self, List.mem_cons, List.not_mem_nil, or_false, false_or, List.append_nil, List.nil_append, List.cons_append, List.append_eq, List.replicate, List.length_cons, List.length_nil, List.map_cons, List.map_nil, ↓reduceIte, reduceCtorEq, if_true, if_false, true_and, and_true, false_and, and_false, and_self, not_true_eq_false, not_false_eq_true, forall_const, true_implies, false_implies, implies_true, Nat.reduceAdd, Nat.reduceSub, Nat.reduceLT, Nat.reduceLeDiff, Nat.reduceEqDiff, Nat.reduceMul, Nat.reducePow, Nat.add_one_ne_zero, Nat.add_one_sub_one, Nat.add_zero, Nat.zero_add, Int.reduceLT, Int.reduceLE, Int.reduceNeg, Int.reduceAdd, Int.reduceSub, Int.reduceToNat, Int.reduceEq, Int.reduceMul, Int.reducePow, Int.cast_ofNat_Int, Int.toNat_natCast, ne_eq, Bool.false_eq_true, true_or, or_true, or_self, Nat.not_lt_zero, ite_e0, ite_e1, lc_lt, lc_ge, lc_gt, lc_le, lc_eq, Classical.not_not]
        with_reducible repeat' (first | (refine And.intro ?_ ?_) | intro _)
        all_goals try omega
        all_goals first | omega | skip
        rw [show ((step : Nat) : Int) + 1 = ((step + 1 : Nat) : Int) by omega]
        exact go a (up σ 10 3 0 t wh) (step + 1) rfl ha1 ha0 up0 (by rw [upp_eq]) (fun c hc => (hb c hc).trans (upp_nf (by decide)).symm) (by omega) _
def rw0 (P : Pt) (n : Nat) : (Nat → Int) × Int := srF P n 0 (fun _ => 0) (fun t => P 35 t, 0) (fun _ => 0, 1000000)
set_option maxRecDepth 100000 in
set_option maxHeartbeats 1000000 in
theorem kc_lh_l (R0 : RT True σ 1 P) (hk : 8 ≤ k) {v2 v3 : Int} (q : ∀ (σ' : Mem), (∀ x, x < 5 → σ' 10 1 1 x = P 35 x) → same (fun o f => o == 10 && f == 1) σ σ' → TT G w w w k (0, 0) 64 36 [some (vr 10 0 0), some (vr 1 0 0), some (vi v2), some (vi v3), some (vi 5), none, none] [] σ' Q) :
    ∀ (m : Nat) (i : Int) (σ' : Mem), 0 ≤ i → i ≤ 5 → 5 < i + m → (∀ x : Nat, (x : Int) < i → σ' 10 1 1 x = P 35 x) → same (fun o f => o == 10 && f == 1) σ σ' → TT G w w w k (0, 0) 64 6 [some (vr 10 0 0), some (vr 1 0 0), some (vi v2), some (vi v3), some (vi i), none, none] [] σ' Q
  | 0, i, σ', h0, h1, h2, _, _ => by omega
  | m + 1, i, σ', h0, h1, h2, hc, hs => by
    have ih := kc_lh_l R0 hk (v2 := v2) (v3 := v3) q m (i + 1)
    have R : RT True σ' 1 P := fun f j a b => (hs 1 _ rfl _ _).trans (R0 f j a b)
    by_cases hi : i < 5
    · have g1 := R.turner1 (n := i.toNat) (by omega)
      refine TT_vb ok64 (sm3_ok G w) 60 [6, 36] ?_
      simp -implicitDefEqProofs only [↓b64_0, ↓b64_6, ↓b64_12, ↓b64_18, ↓b64_27, ↓b64_36, ↓b64_49, ↓b64_56, ↓b64_61, ↓b64_87, ↓b64_93, ↓b64_100, ↓b64_105, ↓b64_114, ↓b64_118, ↓b64_126, ↓b64_164, ↓b64_170, ↓b64_140, b64_0, b64_6, b64_12, b64_18, b64_27, b64_36, b64_49, b64_56, b64_61, b64_87, b64_93, b64_100, b64_105, b64_114, b64_118, b64_126, b64_164, b64_170, b64_140, nLE1, layE5, layE4, g1, n3_66, I32, ↓xb, xb, ps, lpad, lat, aok2, rd2, aaok, aav, alok, alen, aok, akk, csum, isLg, cmpI, clsE, Option.elim, eq_self, List.mem_cons, List.not_mem_nil, or_false, false_or, List.append_nil, List.nil_append, List.cons_append, List.append_eq, List.replicate, List.length_cons, List.length_nil, List.map_cons, List.map_nil, ↓reduceIte, reduceCtorEq, if_true, if_false, true_and, and_true, false_and, and_false, and_self, not_true_eq_false, not_false_eq_true, forall_const, true_implies, false_implies, implies_true, Nat.reduceAdd, Nat.reduceSub, Nat.reduceLT, Nat.reduceLeDiff, Nat.reduceEqDiff, Nat.reduceMul, Nat.reducePow, Nat.add_one_ne_zero, Nat.add_one_sub_one, Nat.add_zero, Nat.zero_add, Int.reduceLT, Int.reduceLE, Int.reduceNeg, Int.reduceAdd, Int.reduceSub, Int.reduceToNat, Int.reduceEq, Int.reduceMul, Int.reducePow, Int.cast_ofNat_Int, Int.toNat_natCast, ne_eq, Bool.false_eq_true, true_or, or_true, or_self, Nat.not_lt_zero, ite_e0, ite_e1, lc_lt, lc_ge, lc_gt, lc_le, lc_eq, Classical.not_not]
      with_reducible repeat' (first | (refine And.intro ?_ ?_) | intro _)
      all_goals try omega
      all_goals first | omega | skip
      refine ih _ (by omega) (by omega) (by omega) (fun x hx => ?_) (hs.put rfl)
      by_cases e : x = i.toNat
      · subst e; rw [upp_eq]
      · rw [upp_nc e]; exact hc x (by omega)
    · have ei : i = 5 := by omega
      subst ei
      refine TT_vb ok64 (sm3_ok G w) 60 [6, 36] ?_
      simp -implicitDefEqProofs only [↓b64_0, ↓b64_6, ↓b64_12, ↓b64_18, ↓b64_27, ↓b64_36, ↓b64_49, ↓b64_56, ↓b64_61, ↓b64_87, ↓b64_93, ↓b64_100, ↓b64_105, ↓b64_114, ↓b64_118, ↓b64_126, ↓b64_164, ↓b64_170, ↓b64_140, b64_0, b64_6, b64_12, b64_18, b64_27, b64_36, b64_49, b64_56, b64_61, b64_87, b64_93, b64_100, b64_105, b64_114, b64_118, b64_126, b64_164, b64_170, b64_140, nLE1, layE5, layE4, h0, n3_66, I32, ↓xb, xb, ps, lpad, lat, aok2, rd2, aaok, aav, alok, alen, aok, akk, csum, isLg, cmpI, clsE, Option.elim, eq_self, List.mem_cons, List.not_mem_nil, or_false, false_or, List.append_nil, List.nil_append, List.cons_append, List.append_eq, List.replicate, List.length_cons, List.length_nil, List.map_cons, List.map_nil, ↓reduceIte, reduceCtorEq, if_true, if_false, true_and, and_true, false_and, and_false, and_self, not_true_eq_false, not_false_eq_true, forall_const, true_implies, false_implies, implies_true, Nat.reduceAdd, Nat.reduceSub, Nat.reduceLT, Nat.reduceLeDiff, Nat.reduceEqDiff, Nat.reduceMul, Nat.reducePow, Nat.add_one_ne_zero, Nat.add_one_sub_one, Nat.add_zero, Nat.zero_add, Int.reduceLT, Int.reduceLE, Int.reduceNeg, Int.reduceAdd, Int.reduceSub, Int.reduceToNat, Int.reduceEq, Int.reduceMul, Int.reducePow, Int.cast_ofNat_Int, Int.toNat_natCast, ne_eq, Bool.false_eq_true, true_or, or_true, or_self, Nat.not_lt_zero, ite_e0, ite_e1, lc_lt, lc_ge, lc_gt, lc_le, lc_eq, Classical.not_not]
      with_reducible repeat' (first | (refine And.intro ?_ ?_) | intro _)
      all_goals try omega
      all_goals first | omega | exact q σ' (fun x hx => hc x (by omega)) hs
set_option maxRecDepth 100000 in
set_option maxHeartbeats 1000000 in
theorem kc_lh (R : RT True σ 1 P) (W : WF P) (ht : ∃ x, x < 5 ∧ 0 < P 34 x) (hk : 18 ≤ k) {n : Int} (hn : 1 ≤ n ∧ n ≤ 7) (h2 : σ 10 2 0 0 = 0) (q : ∀ σ', agn n.toNat (rw0 P n.toNat).1 (fun j => σ' 10 4 0 j) → σ' 10 2 0 0 = 0 → same SXX σ σ' → Q (some (vi (rw0 P n.toNat).2)) σ') : CC G w w k (0, 0) 64 [vr 10 0 0, vr 1 0 0, vi n] σ Q := by
  refine CC_vb ok64 (by decide) (sm3_ok G w) 60 [6] (Nat.le_of_ble_eq_true rfl) ?_
  simp -implicitDefEqProofs only [↓b64_0, ↓b64_6, ↓b64_12, ↓b64_18, ↓b64_27, ↓b64_36, ↓b64_49, ↓b64_56, ↓b64_61, ↓b64_87, ↓b64_93, ↓b64_100, ↓b64_105, ↓b64_114, ↓b64_118, ↓b64_126, ↓b64_164, ↓b64_170, ↓b64_140, b64_0, b64_6, b64_12, b64_18, b64_27, b64_36, b64_49, b64_56, b64_61, b64_87, b64_93, b64_100, b64_105, b64_114, b64_118, b64_126, b64_164, b64_170, b64_140, nLE1, layE5, layE4, hk, n3_66, I32, ↓xb, xb, ps, lpad, lat, aok2, rd2, aaok, aav, alok, alen, aok, akk, csum, isLg, cmpI, clsE, Option.elim, eq_self, List.mem_cons, List.not_mem_nil, or_false, false_or, List.append_nil, List.nil_append, List.cons_append, List.append_eq, List.replicate, List.length_cons, List.length_nil, List.map_cons, List.map_nil, ↓reduceIte, reduceCtorEq, if_true, if_false, true_and, and_true, false_and, and_false, and_self, not_true_eq_false, not_false_eq_true, forall_const, true_implies, false_implies, implies_true, Nat.reduceAdd, Nat.reduceSub, Nat.reduceLT, Nat.reduceLeDiff, Nat.reduceEqDiff, Nat.reduceMul, Nat.reducePow, Nat.add_one_ne_zero, Nat.add_one_sub_one, Nat.add_zero, Nat.zero_add, Int.reduceLT, Int.reduceLE, Int.reduceNeg, Int.reduceAdd, Int.reduceSub, Int.reduceToNat, Int.reduceEq, Int.reduceMul, Int.reducePow, Int.cast_ofNat_Int, Int.toNat_natCast, ne_eq, Bool.false_eq_true, true_or, or_true, or_self, Nat.not_lt_zero, ite_e0, ite_e1, lc_lt, lc_ge, lc_gt, lc_le, lc_eq, Classical.not_not]
  with_reducible repeat' (first | (refine And.intro ?_ ?_) | intro _)
  all_goals try omega
  refine kc_lh_l (σ := σ) R (by omega) (fun σ1 h1 s1 => ?_) 6 0 σ (by omega) (by omega) (by omega) (fun x hx => by omega) same.refl
  have s1' : same SXX σ σ1 := s1.mono (fun o f z => by
    have z' : (o == 10 && f == 1) = true := z
    rw [Bool.and_eq_true] at z'
    exact z'.1)
  refine TT_vb ok64 (sm3_ok G w) 60 [49] ?_
  simp -implicitDefEqProofs only [↓b64_0, ↓b64_6, ↓b64_12, ↓b64_18, ↓b64_27, ↓b64_36, ↓b64_49, ↓b64_56, ↓b64_61, ↓b64_87, ↓b64_93, ↓b64_100, ↓b64_105, ↓b64_114, ↓b64_118, ↓b64_126, ↓b64_164, ↓b64_170, ↓b64_140, b64_0, b64_6, b64_12, b64_18, b64_27, b64_36, b64_49, b64_56, b64_61, b64_87, b64_93, b64_100, b64_105, b64_114, b64_118, b64_126, b64_164, b64_170, b64_140, nLE1, layE5, layE4, hk, n3_66, I32, ↓xb, xb, ps, lpad, lat, aok2, rd2, aaok, aav, alok, alen, aok, akk, csum, isLg, cmpI, clsE, Option.elim, eq_self, List.mem_cons, List.not_mem_nil, or_false, false_or, List.append_nil, List.nil_append, List.cons_append, List.append_eq, List.replicate, List.length_cons, List.length_nil, List.map_cons, List.map_nil, ↓reduceIte, reduceCtorEq, if_true, if_false, true_and, and_true, false_and, and_false, and_self, not_true_eq_false, not_false_eq_true, forall_const, true_implies, false_implies, implies_true, Nat.reduceAdd, Nat.reduceSub, Nat.reduceLT, Nat.reduceLeDiff, Nat.reduceEqDiff, Nat.reduceMul, Nat.reducePow, Nat.add_one_ne_zero, Nat.add_one_sub_one, Nat.add_zero, Nat.zero_add, Int.reduceLT, Int.reduceLE, Int.reduceNeg, Int.reduceAdd, Int.reduceSub, Int.reduceToNat, Int.reduceEq, Int.reduceMul, Int.reducePow, Int.cast_ofNat_Int, Int.toNat_natCast, ne_eq, Bool.false_eq_true, true_or, or_true, or_self, Nat.not_lt_zero, ite_e0, ite_e1, lc_lt, lc_ge, lc_gt, lc_le, lc_eq, Classical.not_not]
  with_reducible repeat' (first | (refine And.intro ?_ ?_) | intro _)
  all_goals try omega
  have en : ((n.toNat : Nat) : Int) = n := by omega
  have F0 : same SXX σ (up σ1 10 3 0 0 (-1)) := s1'.put rfl
  have fin := kc_dfs (G := G) (w := w) (k := k) (Q := Q) W (by omega) (n := n.toNat) (by omega) (n.toNat - 1) 0 (fun _ => 0) (fun t => P 35 t, 0) (by omega) ⟨by show (0 : Int) ≤ 0; omega, by show (0 : Int) ≤ 4995 * ((0 : Nat) : Int); omega⟩ (fun x hx => (W.tu (n := x) hx).2.1) 5 0 (fun j => σ1 10 4 0 j, 1000000) (up σ1 10 3 0 0 (-1)) 0 rfl (fun f j x y => (SXX_1 F0 _ _ _).trans (R f j x y)) (by show (1000000 : Int) ≤ 1000000; omega) (by show (0 : Int) ≤ 1000000; omega) (fun c hc => absurd hc (Nat.not_lt_zero c)) (by rw [upp_eq]; rfl) (fun x hx => (upp_nf (by decide)).trans (h1 x hx)) ((upp_nf (by decide)).trans ((s1 10 2 rfl 0 0).trans h2)) (fun c hc => (upp_nf (by decide)).symm) (by
    have : n = 1 ∨ n = 2 ∨ n = 3 ∨ n = 4 ∨ n = 5 ∨ n = 6 ∨ n = 7 := by omega
    rcases this with rfl | rfl | rfl | rfl | rfl | rfl | rfl <;> decide) (fun a' σ' st' e1 e2 e3 e4 e5 e6 l6 => by
    have ea : a' = rw0 P n.toNat := by
      rw [e1]
      exact rw_any W ht (by omega) _
    rw [ea] at e5 e2 ⊢
    have z := q σ' e5 (by
      rw [e4.2.2.1 0 (Nat.le_refl 0), upp_nf (by decide)]
      exact (s1 10 2 rfl 0 0).trans h2) (F0.trans e4.2.2.2)
    refine TT_vb ok64 (sm3_ok G w) 60 [] ?_
    simp -implicitDefEqProofs only [↓b64_0, ↓b64_6, ↓b64_12, ↓b64_18, ↓b64_27, ↓b64_36, ↓b64_49, ↓b64_56, ↓b64_61, ↓b64_87, ↓b64_93, ↓b64_100, ↓b64_105, ↓b64_114, ↓b64_118, ↓b64_126, ↓b64_164, ↓b64_170, ↓b64_140, b64_0, b64_6, b64_12, b64_18, b64_27, b64_36, b64_49, b64_56, b64_61, b64_87, b64_93, b64_100, b64_105, b64_114, b64_118, b64_126, b64_164, b64_170, b64_140, nLE1, layE5, layE4, hk, n3_66, I32, ↓xb, xb, ps, lpad, lat, aok2, rd2, aaok, aav, alok, alen, aok, akk, csum, isLg, cmpI, clsE, Option.elim, eq_self, List.mem_cons, List.not_mem_nil, or_false, false_or, List.append_nil, List.nil_append, List.cons_append, List.append_eq, List.replicate, List.length_cons, List.length_nil, List.map_cons, List.map_nil, ↓reduceIte, reduceCtorEq, if_true, if_false, true_and, and_true, false_and, and_false, and_self, not_true_eq_false, not_false_eq_true, forall_const, true_implies, false_implies, implies_true, Nat.reduceAdd, Nat.reduceSub, Nat.reduceLT, Nat.reduceLeDiff, Nat.reduceEqDiff, Nat.reduceMul, Nat.reducePow, Nat.add_one_ne_zero, Nat.add_one_sub_one, Nat.add_zero, Nat.zero_add, Int.reduceLT, Int.reduceLE, Int.reduceNeg, Int.reduceAdd, Int.reduceSub, Int.reduceToNat, Int.reduceEq, Int.reduceMul, Int.reducePow, Int.cast_ofNat_Int, Int.toNat_natCast, ne_eq, Bool.false_eq_true, true_or, or_true, or_self, Nat.not_lt_zero, ite_e0, ite_e1, lc_lt, lc_ge, lc_gt, lc_le, lc_eq, Classical.not_not]
    with_reducible repeat' (first | (refine And.intro ?_ ?_) | intro _)
    all_goals try omega
    all_goals first | omega | exact z)
  have z := fin none
  rw [en] at z
  exact z
def rwA (b : (Nat → Int) × Int) (kk : Int) : Int := if kk = -1 then b.2 else b.1 kk.toNat
theorem ht_ex : ∀ n : Nat, iter (htP P) n 0 ≠ 0 → ∃ w, w < n ∧ 0 < P 34 w
  | 0, h => absurd rfl h
  | n + 1, h => by
    by_cases c : iter (htP P) n 0 = 0
    · refine ⟨n, by omega, ?_⟩
      have e : iter (htP P) (n + 1) 0 = if iter (htP P) n 0 = 0 ∧ P 34 n ≤ 0 then 0 else 1 := rfl
      rw [e] at h
      by_cases d : P 34 n ≤ 0
      · rw [if_pos ⟨c, d⟩] at h; exact absurd rfl h
      · omega
    · obtain ⟨x, h1, h2⟩ := ht_ex n c
      exact ⟨x, by omega, h2⟩
set_option maxRecDepth 100000 in
set_option maxHeartbeats 1000000 in
theorem kc_rows7 (R : RT True σ 1 P) (W : WF P) (hk : 22 ≤ k) {n kk : Int} (h2 : σ 10 2 0 0 = 0) (q0 : ¬ ((1 ≤ n ∧ n ≤ 7) ∧ (-1 ≤ kk ∧ kk < n)) → Q (some (vi (-1))) σ)
    (q1 : (1 ≤ n ∧ n ≤ 7) ∧ (-1 ≤ kk ∧ kk < n) → (∀ x, x < 5 → ¬ 0 < P 34 x) → Q (some (vi (-2))) σ)
    (q2 : (1 ≤ n ∧ n ≤ 7) ∧ (-1 ≤ kk ∧ kk < n) → (∃ x, x < 5 ∧ 0 < P 34 x) → ∀ σ', σ' 10 2 0 0 = 0 → same SXX σ σ' → Q (some (vi (rwA (rw0 P n.toNat) kk))) σ') : CC G w w k (0, 0) 117 [vr 0 0 0, vi n, vi kk] σ Q := by
  by_cases c : (1 ≤ n ∧ n ≤ 7) ∧ (-1 ≤ kk ∧ kk < n)
  · refine CC_vb ok117 (by decide) (sm3_ok G w) 60 [] (Nat.le_of_ble_eq_true rfl) ?_
    simp -implicitDefEqProofs only [↓b117_0, ↓b117_7, ↓b117_10, ↓b117_18, ↓b117_21, ↓b117_23, ↓b117_30, ↓b117_33, ↓b117_36, ↓b117_48, ↓b117_54, ↓b117_58, ↓b117_66, b117_0, b117_7, b117_10, b117_18, b117_21, b117_23, b117_30, b117_33, b117_36, b117_48, b117_54, b117_58, b117_66, nLE2, layE7, layE4, layE3, layE2, hk, k3_76, r76, n3_61, n3_64, n3_65, I32, ↓xb, xb, ps, lpad, lat, aok2, rd2, aaok, aav, alok, alen, aok, akk, csum, isLg, cmpI, clsE, Option.elim, eq_self, List.mem_cons, List.not_mem_nil, or_false, false_or, List.append_nil, List.nil_append, List.cons_append, List.append_eq, List.replicate, List.length_cons, List.length_nil, List.map_cons, List.map_nil, ↓reduceIte, reduceCtorEq, if_true, if_false, true_and, and_true, false_and, and_false, and_self, not_true_eq_false, not_false_eq_true, forall_const, true_implies, false_implies, implies_true, Nat.reduceAdd, Nat.reduceSub, Nat.reduceLT, Nat.reduceLeDiff, Nat.reduceEqDiff, Nat.reduceMul, Nat.reducePow, Nat.add_one_ne_zero, Nat.add_one_sub_one, Nat.add_zero, Nat.zero_add, Int.reduceLT, Int.reduceLE, Int.reduceNeg, Int.reduceAdd, Int.reduceSub, Int.reduceToNat, Int.reduceEq, Int.reduceMul, Int.reducePow, Int.cast_ofNat_Int, Int.toNat_natCast, ne_eq, Bool.false_eq_true, true_or, or_true, or_self, Nat.not_lt_zero, ite_e0, ite_e1, lc_lt, lc_ge, lc_gt, lc_le, lc_eq, Classical.not_not]
    with_reducible repeat' (first | (refine And.intro ?_ ?_) | intro _)
    all_goals try omega
    all_goals first | omega | skip
    refine kc_has R W (by omega) ?_
    rcases htP_b (P := P) 5 with hz | hz
    · rw [hz]
      have q1' := q1 c (fun x hx h => by
        have : ∀ m : Nat, iter (htP P) (x + 1 + m) 0 ≠ 0 := fun m => by
          induction m with
          | zero =>
            show (if iter (htP P) x 0 = 0 ∧ P 34 x ≤ 0 then (0 : Int) else 1) ≠ 0
            rw [if_neg (fun z => by omega)]; decide
          | succ m ihm =>
            show (if iter (htP P) (x + 1 + m) 0 = 0 ∧ P 34 (x + 1 + m) ≤ 0 then (0 : Int) else 1) ≠ 0
            rw [if_neg (fun z => ihm z.1)]; decide
        have z := this (5 - (x + 1))
        rw [show x + 1 + (5 - (x + 1)) = 5 by omega] at z
        exact z hz)
      simp -implicitDefEqProofs only [↓b117_0, ↓b117_7, ↓b117_10, ↓b117_18, ↓b117_21, ↓b117_23, ↓b117_30, ↓b117_33, ↓b117_36, ↓b117_48, ↓b117_54, ↓b117_58, ↓b117_66, b117_0, b117_7, b117_10, b117_18, b117_21, b117_23, b117_30, b117_33, b117_36, b117_48, b117_54, b117_58, b117_66, nLE2, layE7, layE4, layE3, layE2, hk, k3_76, r76, n3_61, n3_64, n3_65, I32, ↓xb, xb, ps, lpad, lat, aok2, rd2, aaok, aav, alok, alen, aok, akk, csum, isLg, cmpI, clsE, Option.elim, eq_self, List.mem_cons, List.not_mem_nil, or_false, false_or, List.append_nil, List.nil_append, List.cons_append, List.append_eq, List.replicate, List.length_cons, List.length_nil, List.map_cons, List.map_nil, ↓reduceIte, reduceCtorEq, if_true, if_false, true_and, and_true, false_and, and_false, and_self, not_true_eq_false, not_false_eq_true, forall_const, true_implies, false_implies, implies_true, Nat.reduceAdd, Nat.reduceSub, Nat.reduceLT, Nat.reduceLeDiff, Nat.reduceEqDiff, Nat.reduceMul, Nat.reducePow, Nat.add_one_ne_zero, Nat.add_one_sub_one, Nat.add_zero, Nat.zero_add, Int.reduceLT, Int.reduceLE, Int.reduceNeg, Int.reduceAdd, Int.reduceSub, Int.reduceToNat, Int.reduceEq, Int.reduceMul, Int.reducePow, Int.cast_ofNat_Int, Int.toNat_natCast, ne_eq, Bool.false_eq_true, true_or, or_true, or_self, Nat.not_lt_zero, ite_e0, ite_e1, lc_lt, lc_ge, lc_gt, lc_le, lc_eq, Classical.not_not]
      with_reducible repeat' (first | (refine And.intro ?_ ?_) | intro _)
      all_goals try omega
      all_goals first | omega | exact q1'
    · have ex := ht_ex (P := P) 5 (by rw [hz]; decide)
      rw [hz]
      simp -implicitDefEqProofs only [↓b117_0, ↓b117_7, ↓b117_10, ↓b117_18, ↓b117_21, ↓b117_23, ↓b117_30, ↓b117_33, ↓b117_36, ↓b117_48, ↓b117_54, ↓b117_58, ↓b117_66, b117_0, b117_7, b117_10, b117_18, b117_21, b117_23, b117_30, b117_33, b117_36, b117_48, b117_54, b117_58, b117_66, nLE2, layE7, layE4, layE3, layE2, hk, k3_76, r76, n3_61, n3_64, n3_65, I32, ↓xb, xb, ps, lpad, lat, aok2, rd2, aaok, aav, alok, alen, aok, akk, csum, isLg, cmpI, clsE, Option.elim, eq_self, List.mem_cons, List.not_mem_nil, or_false, false_or, List.append_nil, List.nil_append, List.cons_append, List.append_eq, List.replicate, List.length_cons, List.length_nil, List.map_cons, List.map_nil, ↓reduceIte, reduceCtorEq, if_true, if_false, true_and, and_true, false_and, and_false, and_self, not_true_eq_false, not_false_eq_true, forall_const, true_implies, false_implies, implies_true, Nat.reduceAdd, Nat.reduceSub, Nat.reduceLT, Nat.reduceLeDiff, Nat.reduceEqDiff, Nat.reduceMul, Nat.reducePow, Nat.add_one_ne_zero, Nat.add_one_sub_one, Nat.add_zero, Nat.zero_add, Int.reduceLT, Int.reduceLE, Int.reduceNeg, Int.reduceAdd, Int.reduceSub, Int.reduceToNat, Int.reduceEq, Int.reduceMul, Int.reducePow, Int.cast_ofNat_Int, Int.toNat_natCast, ne_eq, Bool.false_eq_true, true_or, or_true, or_self, Nat.not_lt_zero, ite_e0, ite_e1, lc_lt, lc_ge, lc_gt, lc_le, lc_eq, Classical.not_not]
      with_reducible repeat' (first | (refine And.intro ?_ ?_) | intro _)
      all_goals try omega
      all_goals first | omega | skip
      refine kc_lh R W ex (by omega) c.1 h2 (fun σ1 h1 h0 s1 => ?_)
      have z := q2 c ex σ1 h0 s1
      by_cases c6 : kk = -1
      · rw [show rwA (rw0 P n.toNat) kk = (rw0 P n.toNat).2 from if_pos c6] at z
        simp -implicitDefEqProofs only [↓b117_0, ↓b117_7, ↓b117_10, ↓b117_18, ↓b117_21, ↓b117_23, ↓b117_30, ↓b117_33, ↓b117_36, ↓b117_48, ↓b117_54, ↓b117_58, ↓b117_66, b117_0, b117_7, b117_10, b117_18, b117_21, b117_23, b117_30, b117_33, b117_36, b117_48, b117_54, b117_58, b117_66, nLE2, layE7, layE4, layE3, layE2, c6, k3_76, r76, n3_61, n3_64, n3_65, I32, ↓xb, xb, ps, lpad, lat, aok2, rd2, aaok, aav, alok, alen, aok, akk, csum, isLg, cmpI, clsE, Option.elim, eq_self, List.mem_cons, List.not_mem_nil, or_false, false_or, List.append_nil, List.nil_append, List.cons_append, List.append_eq, List.replicate, List.length_cons, List.length_nil, List.map_cons, List.map_nil, ↓reduceIte, reduceCtorEq, if_true, if_false, true_and, and_true, false_and, and_false, and_self, not_true_eq_false, not_false_eq_true, forall_const, true_implies, false_implies, implies_true, Nat.reduceAdd, Nat.reduceSub, Nat.reduceLT, Nat.reduceLeDiff, Nat.reduceEqDiff, Nat.reduceMul, Nat.reducePow, Nat.add_one_ne_zero, Nat.add_one_sub_one, Nat.add_zero, Nat.zero_add, Int.reduceLT, Int.reduceLE, Int.reduceNeg, Int.reduceAdd, Int.reduceSub, Int.reduceToNat, Int.reduceEq, Int.reduceMul, Int.reducePow, Int.cast_ofNat_Int, Int.toNat_natCast, ne_eq, Bool.false_eq_true, true_or, or_true, or_self, Nat.not_lt_zero, ite_e0, ite_e1, lc_lt, lc_ge, lc_gt, lc_le, lc_eq, Classical.not_not]
        with_reducible repeat' (first | (refine And.intro ?_ ?_) | intro _)
        all_goals try omega
        all_goals first | omega | exact z
      · rw [show rwA (rw0 P n.toNat) kk = (rw0 P n.toNat).1 kk.toNat from if_neg c6] at z
        have hb := h1 kk.toNat (by omega)
        have hb' : σ1 10 4 0 kk.toNat = (rw0 P n.toNat).1 kk.toNat := hb.symm
        simp -implicitDefEqProofs only [↓b117_0, ↓b117_7, ↓b117_10, ↓b117_18, ↓b117_21, ↓b117_23, ↓b117_30, ↓b117_33, ↓b117_36, ↓b117_48, ↓b117_54, ↓b117_58, ↓b117_66, b117_0, b117_7, b117_10, b117_18, b117_21, b117_23, b117_30, b117_33, b117_36, b117_48, b117_54, b117_58, b117_66, nLE2, layE7, layE4, layE3, layE2, c6, k3_76, r76, n3_61, n3_64, n3_65, I32, ↓xb, xb, ps, lpad, lat, aok2, rd2, aaok, aav, alok, alen, aok, akk, csum, isLg, cmpI, clsE, Option.elim, eq_self, List.mem_cons, List.not_mem_nil, or_false, false_or, List.append_nil, List.nil_append, List.cons_append, List.append_eq, List.replicate, List.length_cons, List.length_nil, List.map_cons, List.map_nil, ↓reduceIte, reduceCtorEq, if_true, if_false, true_and, and_true, false_and, and_false, and_self, not_true_eq_false, not_false_eq_true, forall_const, true_implies, false_implies, implies_true, Nat.reduceAdd, Nat.reduceSub, Nat.reduceLT, Nat.reduceLeDiff, Nat.reduceEqDiff, Nat.reduceMul, Nat.reducePow, Nat.add_one_ne_zero, Nat.add_one_sub_one, Nat.add_zero, Nat.zero_add, Int.reduceLT, Int.reduceLE, Int.reduceNeg, Int.reduceAdd, Int.reduceSub, Int.reduceToNat, Int.reduceEq, Int.reduceMul, Int.reducePow, Int.cast_ofNat_Int, Int.toNat_natCast, ne_eq, Bool.false_eq_true, true_or, or_true, or_self, Nat.not_lt_zero, ite_e0, ite_e1, lc_lt, lc_ge, lc_gt, lc_le, lc_eq, Classical.not_not]
        with_reducible repeat' (first | (refine And.intro ?_ ?_) | intro _)
        all_goals try omega
        refine CC_vb ok65 (by decide) (sm3_ok G w) 60 [] (Nat.le_of_ble_eq_true rfl) ?_
        simp -implicitDefEqProofs only [↓b65_0, ↓b65_4, ↓b65_13, ↓b65_22, ↓b65_23, b65_0, b65_4, b65_13, b65_22, b65_23, nLE1, layE5, layE4, hb', I32, ↓xb, xb, ps, lpad, lat, aok2, rd2, aaok, aav, alok, alen, aok, akk, csum, isLg, cmpI, clsE, Option.elim, eq_self, List.mem_cons, List.not_mem_nil, or_false, false_or, List.append_nil, List.nil_append, List.cons_append, List.append_eq, List.replicate, List.length_cons, List.length_nil, List.map_cons, List.map_nil, ↓reduceIte, reduceCtorEq, if_true, if_false, true_and, and_true, false_and, and_false, and_self, not_true_eq_false, not_false_eq_true, forall_const, true_implies, false_implies, implies_true, Nat.reduceAdd, Nat.reduceSub, Nat.reduceLT, Nat.reduceLeDiff, Nat.reduceEqDiff, Nat.reduceMul, Nat.reducePow, Nat.add_one_ne_zero, Nat.add_one_sub_one, Nat.add_zero, Nat.zero_add, Int.reduceLT, Int.reduceLE, Int.reduceNeg, Int.reduceAdd, Int.reduceSub, Int.reduceToNat, Int.reduceEq, Int.reduceMul, Int.reducePow, Int.cast_ofNat_Int, Int.toNat_natCast, ne_eq, Bool.false_eq_true, true_or, or_true, or_self, Nat.not_lt_zero, ite_e0, ite_e1, lc_lt, lc_ge, lc_gt, lc_le, lc_eq, Classical.not_not]
        with_reducible repeat' (first | (refine And.intro ?_ ?_) | intro _)
        all_goals try omega
        all_goals first | omega | skip
        simp -implicitDefEqProofs only [↓b117_0, ↓b117_7, ↓b117_10, ↓b117_18, ↓b117_21, ↓b117_23, ↓b117_30, ↓b117_33, ↓b117_36, ↓b117_48, ↓b117_54, ↓b117_58, ↓b117_66, b117_0, b117_7, b117_10, b117_18, b117_21, b117_23, b117_30, b117_33, b117_36, b117_48, b117_54, b117_58, b117_66, nLE2, layE7, layE4, layE3, layE2, c6, k3_76, r76, n3_61, n3_64, n3_65, I32, ↓xb, xb, ps, lpad, lat, aok2, rd2, aaok, aav, alok, alen, aok, akk, csum, isLg, cmpI, clsE, Option.elim, eq_self, List.mem_cons, List.not_mem_nil, or_false, false_or, List.append_nil, List.nil_append, List.cons_append, List.append_eq, List.replicate, List.length_cons, List.length_nil, List.map_cons, List.map_nil, ↓reduceIte, reduceCtorEq, if_true, if_false, true_and, and_true, false_and, and_false, and_self, not_true_eq_false, not_false_eq_true, forall_const, true_implies, false_implies, implies_true, Nat.reduceAdd, Nat.reduceSub, Nat.reduceLT, Nat.reduceLeDiff, Nat.reduceEqDiff, Nat.reduceMul, Nat.reducePow, Nat.add_one_ne_zero, Nat.add_one_sub_one, Nat.add_zero, Nat.zero_add, Int.reduceLT, Int.reduceLE, Int.reduceNeg, Int.reduceAdd, Int.reduceSub, Int.reduceToNat, Int.reduceEq, Int.reduceMul, Int.reducePow, Int.cast_ofNat_Int, Int.toNat_natCast, ne_eq, Bool.false_eq_true, true_or, or_true, or_self, Nat.not_lt_zero, ite_e0, ite_e1, lc_lt, lc_ge, lc_gt, lc_le, lc_eq, Classical.not_not]
        with_reducible repeat' (first | (refine And.intro ?_ ?_) | intro _)
        all_goals try omega
        all_goals first | omega | exact z
  · refine CC_vb ok117 (by decide) (sm3_ok G w) 60 [23] (Nat.le_of_ble_eq_true rfl) ?_
    simp -implicitDefEqProofs only [↓b117_0, ↓b117_7, ↓b117_10, ↓b117_18, ↓b117_21, ↓b117_23, ↓b117_30, ↓b117_33, ↓b117_36, ↓b117_48, ↓b117_54, ↓b117_58, ↓b117_66, b117_0, b117_7, b117_10, b117_18, b117_21, b117_23, b117_30, b117_33, b117_36, b117_48, b117_54, b117_58, b117_66, nLE2, layE7, layE4, layE3, layE2, hk, k3_76, r76, n3_61, n3_64, n3_65, I32, ↓xb, xb, ps, lpad, lat, aok2, rd2, aaok, aav, alok, alen, aok, akk, csum, isLg, cmpI, clsE, Option.elim, eq_self, List.mem_cons, List.not_mem_nil, or_false, false_or, List.append_nil, List.nil_append, List.cons_append, List.append_eq, List.replicate, List.length_cons, List.length_nil, List.map_cons, List.map_nil, ↓reduceIte, reduceCtorEq, if_true, if_false, true_and, and_true, false_and, and_false, and_self, not_true_eq_false, not_false_eq_true, forall_const, true_implies, false_implies, implies_true, Nat.reduceAdd, Nat.reduceSub, Nat.reduceLT, Nat.reduceLeDiff, Nat.reduceEqDiff, Nat.reduceMul, Nat.reducePow, Nat.add_one_ne_zero, Nat.add_one_sub_one, Nat.add_zero, Nat.zero_add, Int.reduceLT, Int.reduceLE, Int.reduceNeg, Int.reduceAdd, Int.reduceSub, Int.reduceToNat, Int.reduceEq, Int.reduceMul, Int.reducePow, Int.cast_ofNat_Int, Int.toNat_natCast, ne_eq, Bool.false_eq_true, true_or, or_true, or_self, Nat.not_lt_zero, ite_e0, ite_e1, lc_lt, lc_ge, lc_gt, lc_le, lc_eq, Classical.not_not]
    with_reducible repeat' (first | (refine And.intro ?_ ?_) | intro _)
    all_goals try omega
    all_goals first | omega | exact q0 c
end RWS

/-! 34.near: who is nearest, by the check -/
def LTn (P : Pt) (f x y : Int) : Prop := farP P f x < farP P f y ∨ (farP P f x = farP P f y ∧ x < y)
theorem far_sym {P : Pt} {a b : Int} : farP P a b = farP P b a := by unfold farP ab; (repeat' split) <;> omega
theorem posA_all {b : Int → Bool} {a : Nat → Int} : ∀ d c : Nat, posA b a d ≤ c → c < d → b (a c) = true
  | 0, c, _, h => absurd h (by omega)
  | d + 1, c, h1, h2 => by
    by_cases z : b (a d) = true
    · by_cases e : c = d
      · rw [e]; exact z
      · rw [posA_go z] at h1
        exact posA_all d c h1 (by omega)
    · rw [posA_stop z] at h1; omega
theorem posA_lt {b : Int → Bool} {a : Nat → Int} : ∀ d : Nat, posA b a d = 0 ∨ ¬ b (a (posA b a d - 1)) = true
  | 0 => Or.inl rfl
  | d + 1 => by
    by_cases z : b (a d) = true
    · rw [posA_go z]; exact posA_lt d
    · rw [posA_stop z]; exact Or.inr z
theorem so_sort {P : Pt} {f : Int} (n : Nat) : ∀ c d : Nat, c < d → (d : Int) < (soP P f n).2 → LTn P f ((soP P f n).1 c) ((soP P f n).1 d) := by
  induction n with
  | zero => intro c d h1 h2; have h3 : (d : Int) < 0 := h2; omega
  | succ n ih =>
    obtain ⟨v1, v2, v3⟩ := soP_inv (P := P) (f := f) n
    have e : soP P f (n + 1) = if (n : Int) = f then soP P f n else (insA (soB P f n) (soP P f n).1 (soP P f n).2.toNat n, (soP P f n).2 + 1) := rfl
    rw [e]
    split
    · exact ih
    · intro c d h1 h2
      have h2' : (d : Int) < (soP P f n).2 + 1 := h2
      have l := posA_le (b := soB P f n) (a := (soP P f n).1) (soP P f n).2.toNat
      have pa := posA_all (b := soB P f n) (a := (soP P f n).1) (soP P f n).2.toNat
      have pl := posA_lt (b := soB P f n) (a := (soP P f n).1) (soP P f n).2.toNat
      show LTn P f (insA (soB P f n) (soP P f n).1 (soP P f n).2.toNat n c) (insA (soB P f n) (soP P f n).1 (soP P f n).2.toNat n d)
      revert l pa pl
      unfold insA
      generalize posA (soB P f n) (soP P f n).1 (soP P f n).2.toNat = p
      intro l pa pl
      have fr : ∀ c : Nat, p ≤ c → c < (soP P f n).2.toNat → LTn P f n ((soP P f n).1 c) := fun c a b => Or.inl (of_decide_eq_true (pa c a b))
      have bk : ∀ c : Nat, c < p → LTn P f ((soP P f n).1 c) n := fun c a => by
        have q : ¬ farP P f n < farP P f ((soP P f n).1 (p - 1)) := fun z => by
          rcases pl with pl | pl
          · omega
          · exact pl (decide_eq_true z)
        have x := v3 c (by omega)
        by_cases e : c = p - 1
        · rw [e] at x ⊢
          unfold LTn; omega
        · have y := ih c (p - 1) (by omega) (by omega)
          unfold LTn at y ⊢; omega
      unfold shA
      by_cases c1 : c = p
      · rw [if_pos c1, if_neg (by omega : ¬ d = p), if_neg (by omega : ¬ d < p), if_pos (by omega : d ≤ (soP P f n).2.toNat)]
        exact fr _ (by omega) (by omega)
      · rw [if_neg c1]
        by_cases d1 : d = p
        · rw [if_pos d1, if_pos (by omega : c < p)]
          exact bk _ (by omega)
        · rw [if_neg d1]
          by_cases c2 : c < p
          · rw [if_pos c2]
            by_cases d2 : d < p
            · rw [if_pos d2]; exact ih c d h1 (by omega)
            · rw [if_neg d2, if_pos (by omega : d ≤ (soP P f n).2.toNat)]
              exact ih c (d - 1) (by omega) (by omega)
          · rw [if_neg c2, if_pos (by omega : c ≤ (soP P f n).2.toNat), if_neg (by omega : ¬ d < p), if_pos (by omega : d ≤ (soP P f n).2.toNat)]
            exact ih (c - 1) (d - 1) (by omega) (by omega)
theorem so_mem {P : Pt} {f : Int} (n : Nat) : ∀ x : Nat, x < n → (x : Int) ≠ f → ∃ c : Nat, (c : Int) < (soP P f n).2 ∧ (soP P f n).1 c = x := by
  induction n with
  | zero => intro x h; omega
  | succ n ih =>
    obtain ⟨v1, v2, v3⟩ := soP_inv (P := P) (f := f) n
    have e : soP P f (n + 1) = if (n : Int) = f then soP P f n else (insA (soB P f n) (soP P f n).1 (soP P f n).2.toNat n, (soP P f n).2 + 1) := rfl
    rw [e]
    intro x h1 h2
    split
    · exact ih x (by omega) h2
    · have l := posA_le (b := soB P f n) (a := (soP P f n).1) (soP P f n).2.toNat
      show ∃ c : Nat, (c : Int) < (soP P f n).2 + 1 ∧ insA (soB P f n) (soP P f n).1 (soP P f n).2.toNat n c = x
      unfold insA shA
      revert l
      generalize posA (soB P f n) (soP P f n).1 (soP P f n).2.toNat = p
      intro l
      by_cases hx : x = n
      · exact ⟨p, by omega, by rw [if_pos rfl, hx]⟩
      · obtain ⟨c, c1, c2⟩ := ih x (by omega) h2
        by_cases cp : c < p
        · exact ⟨c, by omega, by rw [if_neg (by omega), if_pos cp]; exact c2⟩
        · exact ⟨c + 1, by omega, by rw [if_neg (by omega), if_neg (by omega), if_pos (by omega), show c + 1 - 1 = c by omega]; exact c2⟩
/-- the best of those that are asked, below o -/
def NB (P : Pt) (h : Int) (ask : Int → Prop) (o best : Int) : Prop := (best = -1 ∧ ∀ x : Int, 0 ≤ x → x < o → ¬ ask x) ∨ ((0 ≤ best ∧ best < o) ∧ ask best ∧ ∀ x : Int, 0 ≤ x → x < o → ask x → x = best ∨ LTn P h best x)
theorem NB_uniq {P : Pt} {h : Int} {ask : Int → Prop} {o a b : Int} (h1 : NB P h ask o a) (h2 : NB P h ask o b) : a = b := by
  rcases h1 with ⟨a1, a2⟩ | ⟨a1, a2, a3⟩ <;> rcases h2 with ⟨b1, b2⟩ | ⟨b1, b2, b3⟩
  · rw [a1, b1]
  · exact absurd b2 (a2 b b1.1 b1.2)
  · exact absurd a2 (b2 a a1.1 a1.2)
  · rcases a3 b b1.1 b1.2 b2 with e | e
    · exact e.symm
    · rcases b3 a a1.1 a1.2 a2 with e' | e'
      · exact e'
      · unfold LTn at e e'; omega
/-- those that are still asked after j of them -/
def askP (P : Pt) (h : Int) (j : Nat) (x : Int) : Prop := x ≠ h ∧ ∀ c : Nat, c < j → nrP P h c ≠ x
theorem NB_nr {P : Pt} (W : WF P) {h : Int} (hh : 0 ≤ h ∧ h < P 2 0) {j : Nat} (hj : (j : Int) < P 2 0 - 1) : NB P h (askP P h j) (P 2 0) (nrP P h j) := by
  have w1 := W.sc.1
  have cn := soP_cnt (P := P) hh.1 (P 2 0).toNat
  rw [if_pos (by omega)] at cn
  have r := nr_r W hh hj
  refine Or.inr ⟨⟨r.1, r.2.1⟩, ⟨r.2.2, fun c hc e => ?_⟩, fun x x0 x1 hx => ?_⟩
  · have s : LTn P h (nrP P h c) (nrP P h j) := so_sort (P := P) (f := h) (P 2 0).toNat c j hc (by omega)
    rw [e] at s
    unfold LTn at s; omega
  · obtain ⟨c, c1, c2⟩ := so_mem (P := P) (f := h) (P 2 0).toNat x.toNat (by omega) (by have := hx.1; omega)
    have c2' : nrP P h c = x := by unfold nrP; rw [c2]; omega
    have cj : ¬ c < j := fun z => hx.2 c z c2'
    by_cases e : c = j
    · left; rw [← c2', e]
    · right
      rw [← c2']
      exact so_sort (P := P) (f := h) (P 2 0).toNat j c (by omega) c1
theorem NB_end {P : Pt} (W : WF P) {h : Int} (hh : 0 ≤ h ∧ h < P 2 0) {j : Nat} (hj : ¬ (j : Int) < P 2 0 - 1) : NB P h (askP P h j) (P 2 0) (-1) := by
  have w1 := W.sc.1
  have cn := soP_cnt (P := P) hh.1 (P 2 0).toNat
  rw [if_pos (by omega)] at cn
  refine Or.inl ⟨rfl, fun x x0 x1 hx => ?_⟩
  obtain ⟨c, c1, c2⟩ := so_mem (P := P) (f := h) (P 2 0).toNat x.toNat (by omega) (by have := hx.1; omega)
  refine hx.2 c (by omega) ?_
  unfold nrP; rw [c2]; omega
section NEAR
variable {G : Gl} {w : Wd} {k : Nat} {σ : Mem} {Q : Option AV → Mem → Prop} {P : Pt}
set_option maxRecDepth 100000 in
set_option maxHeartbeats 1000000 in
theorem kx_near_l (M : MR σ P) (W : WF P) (hk : 8 ≤ k) {h : Int} (hh : 0 ≤ h ∧ h < P 2 0) {ask : Int → Prop} (ha : ∀ x : Int, 0 ≤ x → x < P 2 0 → (σ 21 63 0 x.toNat = 0 ↔ ¬ ask x)) (q : ∀ b, NB P h ask (P 2 0) b → Q (some (vi b)) σ) : ∀ (m : Nat) (o b : Int), 0 ≤ o → o ≤ P 2 0 → P 2 0 < o + m → NB P h ask o b → TT G w w w k (0, 0) 190 4 [some (vr 21 0 0), some (vi h), some (vi b), some (vi o)] [] σ Q
  | 0, o, b, h0, h1, h2, _ => by omega
  | m + 1, o, b, h0, h1, h2, hb => by
    have ih := kx_near_l M W hk hh ha q m (o + 1)
    have w1 := W.sc.1
    have hM : ∀ f i, 2 ≤ f → f ≤ 38 → σ 21 f 0 i = P f i := M
    have hb1 : b = -1 ∨ (0 ≤ b ∧ b < o) := by rcases hb with z | z <;> omega
    by_cases ho : o < P 2 0
    · have x1 := M.xy W (a := o) (by omega)
      have x2 := M.xy W (a := h) (by omega)
      have x3 := M.far_m (a := o) (b := h)
      have x5 := M.far_m (a := b) (b := h)
      have xf := farP_r W (a := o) (b := h) (by omega) (by omega)
      have hao := ha o h0 ho
      have skip : ¬ ask o → NB P h ask (o + 1) b := fun z => by
        rcases hb with ⟨b1, b2⟩ | ⟨b1, b2, b3⟩
        · exact Or.inl ⟨b1, fun x x0 x1 => by
            by_cases e : x = o
            · rw [e]; exact z
            · exact b2 x x0 (by omega)⟩
        · exact Or.inr ⟨by omega, b2, fun x x0 x1 hx => by
            by_cases e : x = o
            · rw [e] at hx; exact absurd hx z
            · exact b3 x x0 (by omega) hx⟩
      have take0 : ask o → b = -1 → NB P h ask (o + 1) o := fun z e => by
        rcases hb with ⟨b1, b2⟩ | ⟨b1, b2, b3⟩
        · exact Or.inr ⟨by omega, z, fun x x0 x1 hx => by
            by_cases e : x = o
            · exact Or.inl e
            · exact absurd hx (b2 x x0 (by omega))⟩
        · omega
      have take1 : ask o → b ≠ -1 → farP P o h < farP P b h → NB P h ask (o + 1) o := fun z e lt => by
        rcases hb with ⟨b1, b2⟩ | ⟨b1, b2, b3⟩
        · omega
        · refine Or.inr ⟨by omega, z, fun x x0 x1 hx => ?_⟩
          by_cases e : x = o
          · exact Or.inl e
          · rw [far_sym (a := o), far_sym (a := b)] at lt
            rcases b3 x x0 (by omega) hx with e2 | e2
            · right; rw [e2]; exact Or.inl lt
            · right; unfold LTn at e2 ⊢; omega
      have keep1 : b ≠ -1 → ¬ farP P o h < farP P b h → NB P h ask (o + 1) b := fun e lt => by
        rcases hb with ⟨b1, b2⟩ | ⟨b1, b2, b3⟩
        · omega
        · refine Or.inr ⟨by omega, b2, fun x x0 x1 hx => ?_⟩
          rw [far_sym (a := o), far_sym (a := b)] at lt
          by_cases e : x = o
          · right; rw [e]; unfold LTn; omega
          · exact b3 x x0 (by omega) hx
      rcases hb1 with bz | bz
      · refine TT_vb ok190 (sm3_ok G w) 60 [4] ?_
        simp -implicitDefEqProofs only [↓b190_0, ↓b190_4, ↓b190_14, ↓b190_23, ↓b190_28, ↓b190_34, ↓b190_40, ↓b190_43, ↓b190_45, ↓b190_51, b190_0, b190_4, b190_14, b190_23, b190_28, b190_34, b190_40, b190_43, b190_45, b190_51, nLE3, layE8, hM, bz, k3_133, r133, I32, ↓xb, xb, ps, lpad, lat, aok2, rd2, aaok, aav, alok, alen, aok, akk, csum, isLg, cmpI, clsE, Option.elim, eq_self, List.mem_cons, List.not_mem_nil, or_false, false_or, List.append_nil, List.nil_append, List.cons_append, List.append_eq, List.replicate, List.length_cons, List.length_nil, List.map_cons, List.map_nil, ↓reduceIte, reduceCtorEq, if_true, if_false, true_and, and_true, false_and, and_false, and_self, not_true_eq_false, not_false_eq_true, forall_const, true_implies, false_implies, implies_true, Nat.reduceAdd, Nat.reduceSub, Nat.reduceLT, Nat.reduceLeDiff, Nat.reduceEqDiff, Nat.reduceMul, Nat.reducePow, Nat.add_one_ne_zero, Nat.add_one_sub_one, Nat.add_zero, Nat.zero_add, Int.reduceLT, Int.reduceLE, Int.reduceNeg, Int.reduceAdd, Int.reduceSub, Int.reduceToNat, Int.reduceEq, Int.reduceMul, Int.reducePow, Int.cast_ofNat_Int, Int.toNat_natCast, ne_eq, Bool.false_eq_true, true_or, or_true, or_self, Nat.not_lt_zero, ite_e0, ite_e1, lc_lt, lc_ge, lc_gt, lc_le, lc_eq, Classical.not_not]
        with_reducible repeat' (first | (refine And.intro ?_ ?_) | intro _)
        all_goals try omega
        · exact ih _ (by omega) (by omega) (by omega) (bz ▸ skip (hao.mp (by assumption)))
        · exact ih _ (by omega) (by omega) (by omega) (take0 (Classical.not_not.mp (fun z => absurd (hao.mpr z) (by assumption))) bz)
      · have x4 := M.xy W (a := b) (by omega)
        have xg := farP_r W (a := b) (b := h) (by omega) (by omega)
        have bz' : ¬ b = -1 := by omega
        refine TT_vb ok190 (sm3_ok G w) 60 [4] ?_
        simp -implicitDefEqProofs only [↓b190_0, ↓b190_4, ↓b190_14, ↓b190_23, ↓b190_28, ↓b190_34, ↓b190_40, ↓b190_43, ↓b190_45, ↓b190_51, b190_0, b190_4, b190_14, b190_23, b190_28, b190_34, b190_40, b190_43, b190_45, b190_51, nLE3, layE8, hM, bz', x1, x2, x3, x4, x5, k3_133, r133, I32, ↓xb, xb, ps, lpad, lat, aok2, rd2, aaok, aav, alok, alen, aok, akk, csum, isLg, cmpI, clsE, Option.elim, eq_self, List.mem_cons, List.not_mem_nil, or_false, false_or, List.append_nil, List.nil_append, List.cons_append, List.append_eq, List.replicate, List.length_cons, List.length_nil, List.map_cons, List.map_nil, ↓reduceIte, reduceCtorEq, if_true, if_false, true_and, and_true, false_and, and_false, and_self, not_true_eq_false, not_false_eq_true, forall_const, true_implies, false_implies, implies_true, Nat.reduceAdd, Nat.reduceSub, Nat.reduceLT, Nat.reduceLeDiff, Nat.reduceEqDiff, Nat.reduceMul, Nat.reducePow, Nat.add_one_ne_zero, Nat.add_one_sub_one, Nat.add_zero, Nat.zero_add, Int.reduceLT, Int.reduceLE, Int.reduceNeg, Int.reduceAdd, Int.reduceSub, Int.reduceToNat, Int.reduceEq, Int.reduceMul, Int.reducePow, Int.cast_ofNat_Int, Int.toNat_natCast, ne_eq, Bool.false_eq_true, true_or, or_true, or_self, Nat.not_lt_zero, ite_e0, ite_e1, lc_lt, lc_ge, lc_gt, lc_le, lc_eq, Classical.not_not]
        with_reducible repeat' (first | (refine And.intro ?_ ?_) | intro _)
        all_goals try omega
        · exact ih _ (by omega) (by omega) (by omega) (skip (hao.mp (by assumption)))
        · exact ih _ (by omega) (by omega) (by omega) (keep1 bz' (by omega))
        · exact ih _ (by omega) (by omega) (by omega) (take1 (Classical.not_not.mp (fun z => absurd (hao.mpr z) (by assumption))) bz' (by omega))
    · refine TT_vb ok190 (sm3_ok G w) 60 [4] ?_
      simp -implicitDefEqProofs only [↓b190_0, ↓b190_4, ↓b190_14, ↓b190_23, ↓b190_28, ↓b190_34, ↓b190_40, ↓b190_43, ↓b190_45, ↓b190_51, b190_0, b190_4, b190_14, b190_23, b190_28, b190_34, b190_40, b190_43, b190_45, b190_51, nLE3, layE8, hM, k3_133, r133, I32, ↓xb, xb, ps, lpad, lat, aok2, rd2, aaok, aav, alok, alen, aok, akk, csum, isLg, cmpI, clsE, Option.elim, eq_self, List.mem_cons, List.not_mem_nil, or_false, false_or, List.append_nil, List.nil_append, List.cons_append, List.append_eq, List.replicate, List.length_cons, List.length_nil, List.map_cons, List.map_nil, ↓reduceIte, reduceCtorEq, if_true, if_false, true_and, and_true, false_and, and_false, and_self, not_true_eq_false, not_false_eq_true, forall_const, true_implies, false_implies, implies_true, Nat.reduceAdd, Nat.reduceSub, Nat.reduceLT, Nat.reduceLeDiff, Nat.reduceEqDiff, Nat.reduceMul, Nat.reducePow, Nat.add_one_ne_zero, Nat.add_one_sub_one, Nat.add_zero, Nat.zero_add, Int.reduceLT, Int.reduceLE, Int.reduceNeg, Int.reduceAdd, Int.reduceSub, Int.reduceToNat, Int.reduceEq, Int.reduceMul, Int.reducePow, Int.cast_ofNat_Int, Int.toNat_natCast, ne_eq, Bool.false_eq_true, true_or, or_true, or_self, Nat.not_lt_zero, ite_e0, ite_e1, lc_lt, lc_ge, lc_gt, lc_le, lc_eq, Classical.not_not]
      with_reducible repeat' (first | (refine And.intro ?_ ?_) | intro _)
      all_goals try omega
      have e : o = P 2 0 := by omega
      rw [e] at hb
      exact q b hb
set_option maxRecDepth 100000 in
set_option maxHeartbeats 1000000 in
theorem kx_near (M : MR σ P) (W : WF P) (hk : 8 ≤ k) {h : Int} (hh : 0 ≤ h ∧ h < P 2 0) {ask : Int → Prop} (ha : ∀ x : Int, 0 ≤ x → x < P 2 0 → (σ 21 63 0 x.toNat = 0 ↔ ¬ ask x)) (q : ∀ b, NB P h ask (P 2 0) b → Q (some (vi b)) σ) : CC G w w k (0, 0) 190 [vr 21 0 0, vi h] σ Q := by
  have w1 := W.sc.1
  refine CC_vb ok190 (by decide) (sm3_ok G w) 60 [4] (Nat.le_of_ble_eq_true rfl) ?_
  simp -implicitDefEqProofs only [↓b190_0, ↓b190_4, ↓b190_14, ↓b190_23, ↓b190_28, ↓b190_34, ↓b190_40, ↓b190_43, ↓b190_45, ↓b190_51, b190_0, b190_4, b190_14, b190_23, b190_28, b190_34, b190_40, b190_43, b190_45, b190_51, nLE3, layE8, hk, k3_133, r133, I32, ↓xb, xb, ps, lpad, lat, aok2, rd2, aaok, aav, alok, alen, aok, akk, csum, isLg, cmpI, clsE, Option.elim, eq_self, List.mem_cons, List.not_mem_nil, or_false, false_or, List.append_nil, List.nil_append, List.cons_append, List.append_eq, List.replicate, List.length_cons, List.length_nil, List.map_cons, List.map_nil, ↓reduceIte, reduceCtorEq, if_true, if_false, true_and, and_true, false_and, and_false, and_self, not_true_eq_false, not_false_eq_true, forall_const, true_implies, false_implies, implies_true, Nat.reduceAdd, Nat.reduceSub, Nat.reduceLT, Nat.reduceLeDiff, Nat.reduceEqDiff, Nat.reduceMul, Nat.reducePow, Nat.add_one_ne_zero, Nat.add_one_sub_one, Nat.add_zero, Nat.zero_add, Int.reduceLT, Int.reduceLE, Int.reduceNeg, Int.reduceAdd, Int.reduceSub, Int.reduceToNat, Int.reduceEq, Int.reduceMul, Int.reducePow, Int.cast_ofNat_Int, Int.toNat_natCast, ne_eq, Bool.false_eq_true, true_or, or_true, or_self, Nat.not_lt_zero, ite_e0, ite_e1, lc_lt, lc_ge, lc_gt, lc_le, lc_eq, Classical.not_not]
  with_reducible repeat' (first | (refine And.intro ?_ ?_) | intro _)
  all_goals try omega
  exact kx_near_l M W (by omega) hh ha q 13 0 (-1) (by omega) (by omega) (by omega) (Or.inl ⟨rfl, fun x x0 x1 => by omega⟩)
end NEAR

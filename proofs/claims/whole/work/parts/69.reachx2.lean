/-! 69.reachx2: the table of joins (check), whole -/
def BTj (J : Nat → Int) (s h m : Nat) (b0 b : Int) : Prop := b ≤ b0 ∧ (∀ a, a ≠ 0 → a &&& s = a → a < s → m ≤ a → b ≤ J (12 * a + h) + J (12 * (s ^^^ a) + h)) ∧ (b = b0 ∨ ∃ a, a ≠ 0 ∧ a < s ∧ a &&& s = a ∧ b = J (12 * a + h) + J (12 * (s ^^^ a) + h))
def TJ (P : Pt) (n set : Nat) (J : Nat → Int) (s : Nat) : Prop :=
  (∀ a x, a < s → x < n → a ≠ 0 → a &&& set = a → 0 ≤ J (12 * a + x) ∧ J (12 * a + x) ≤ 99999) ∧
  (∀ x, x < n → set.testBit x = true → 2 ^ x < s → J (12 * 2 ^ x + x) ≤ 0) ∧
  (∀ a c x, x < n → a ≠ 0 → c ≠ 0 → a &&& c = 0 → (a ||| c) &&& set = a ||| c → a ||| c < s → J (12 * (a ||| c) + x) ≤ J (12 * a + x) + J (12 * c + x)) ∧
  (∀ a x o, x < n → o < n → a ≠ 0 → a &&& set = a → a < s → J (12 * a + x) ≤ J (12 * a + o) + dP P o x) ∧
  (∀ a x, x < n → a ≠ 0 → a &&& set = a → a < s → ∃ o b, o < n ∧ J (12 * a + x) = b + dP P o x ∧ (b = 99999 ∨ (a = 2 ^ o ∧ b = 0) ∨ ∃ t r, t ≠ 0 ∧ r ≠ 0 ∧ t &&& r = 0 ∧ t ||| r = a ∧ b = J (12 * t + o) + J (12 * r + o)))
theorem TJ.skip {P : Pt} {n set s : Nat} {J : Nat → Int} (h : TJ P n set J s) (hs : ¬ s &&& set = s) : TJ P n set J (s + 1) := by
  obtain ⟨h1, h2, h3, h4, h5⟩ := h
  have ne : ∀ a, a &&& set = a → a < s + 1 → a < s := fun a ha hl => by
    have : a ≠ s := fun e => hs (e ▸ ha)
    omega
  refine ⟨fun a x hl hx ha hs' => h1 a x (ne a hs' hl) hx ha hs', fun x hx hb hl => h2 x hx hb (ne _ ?_ hl), fun a c x hx ha hc h0 hi hl => h3 a c x hx ha hc h0 hi (ne _ hi hl), fun a x o hx ho ha hi hl => h4 a x o hx ho ha hi (ne a hi hl), fun a x hx ha hi hl => h5 a x hx ha hi (ne a hi hl)⟩
  apply Nat.eq_of_testBit_eq
  intro i
  rw [Nat.testBit_and]
  by_cases e : x = i
  · subst e; rw [hb, Bool.and_true]
  · rw [Nat.testBit_two_pow_of_ne e]; rfl
theorem TJ.step {P : Pt} {n set s : Nat} {J J' b : Nat → Int} (h : TJ P n set J s) (hn : n ≤ 12) (hs0 : s ≠ 0) (hs : s &&& set = s)
    (hb : ∀ x, x < n → (0 ≤ b x ∧ b x ≤ 99999) ∧ BTj J s x 1 (if s = 2 ^ x then 0 else 99999) (b x)) (hJ : ∀ c, c < 12 * s → J' c = J c)
    (hr : ∀ x, x < n → RW P n b n x (J' (12 * s + x))) : TJ P n set J' (s + 1) := by
  obtain ⟨h1, h2, h3, h4, h5⟩ := h
  have md := met_d (P := P)
  have hJ' : ∀ a x, a < s → x < n → J' (12 * a + x) = J (12 * a + x) := fun a x ha hx => hJ _ (by omega)
  refine ⟨fun a x hl hx ha hs' => ?_, fun x hx hb' hl => ?_, fun a c x hx ha hc h0 hi hl => ?_, fun a x o hx ho ha hi hl => ?_, fun a x hx ha hi hl => ?_⟩
  · by_cases e : a = s
    · subst e
      obtain ⟨r1, o, ho, r2⟩ := hr x hx
      have z := r1 x hx
      have d0 := md.2.1 x
      have dn := md.1 o x
      have b1 := (hb x hx).1
      have b2 := (hb o ho).1
      omega
    · rw [hJ' a x (by omega) hx]; exact h1 a x (by omega) hx ha hs'
  · by_cases e : 2 ^ x = s
    · obtain ⟨r1, _⟩ := hr x hx
      have z := r1 x hx
      have d0 := md.2.1 x
      have b2 := (hb x hx).2.1
      rw [if_pos e.symm] at b2
      rw [e]
      omega
    · rw [hJ' _ x (by omega) hx]; exact h2 x hx hb' (by omega)
  · have lt := sub_lt hc h0 rfl
    have lt2 : c < a ||| c := sub_lt (t := c) (r := a) ha (by rw [Nat.and_comm]; exact h0) (Nat.or_comm c a)
    rw [hJ' a x (by omega) hx, hJ' c x (by omega) hx]
    by_cases e : a ||| c = s
    · obtain ⟨r1, _⟩ := hr x hx
      have z := r1 x hx
      have d0 := md.2.1 x
      have b2 := (hb x hx).2.2.1 a ha (by rw [← e]; exact or_and) (by omega) (by omega)
      have xo : s ^^^ a = c := by rw [← e]; exact xor_of h0
      rw [xo] at b2
      rw [e]
      omega
    · rw [hJ' _ x (by omega) hx]; exact h3 a c x hx ha hc h0 hi (by omega)
  · by_cases e : a = s
    · subst e
      obtain ⟨_, p, hp, r2⟩ := hr o ho
      have z := (hr x hx).1 p hp
      have tr := md.2.2.2 p o x
      omega
    · rw [hJ' a x (by omega) hx, hJ' a o (by omega) ho]; exact h4 a x o hx ho ha hi (by omega)
  · by_cases e : a = s
    · subst e
      obtain ⟨_, o, ho, r2⟩ := hr x hx
      refine ⟨o, b o, ho, r2, ?_⟩
      rcases (hb o ho).2.2.2 with z | ⟨t, t0, t1, t2, t3⟩
      · by_cases c : a = 2 ^ o
        · rw [if_pos c] at z; exact Or.inr (Or.inl ⟨c, z⟩)
        · rw [if_neg c] at z; exact Or.inl z
      · have xs := xor_sub t2
        have x0 : a ^^^ t ≠ 0 := fun y => by
          have z := xs.2
          rw [y, Nat.or_zero] at z
          omega
        have xl : a ^^^ t < a := sub_lt (t := a ^^^ t) (r := t) t0 (by rw [Nat.and_comm]; exact xs.1) (by rw [Nat.or_comm]; exact xs.2)
        refine Or.inr (Or.inr ⟨t, a ^^^ t, t0, x0, xs.1, xs.2, ?_⟩)
        rw [hJ' t o t1 ho, hJ' _ o xl ho]
        exact t3
    · obtain ⟨o, b', ho, z1, z2⟩ := h5 a x hx ha hi (by omega)
      refine ⟨o, b', ho, by rw [hJ' a x (by omega) hx]; exact z1, ?_⟩
      rcases z2 with z2 | z2 | ⟨t, r, u1, u2, u3, u4, u5⟩
      · exact Or.inl z2
      · exact Or.inr (Or.inl z2)
      · have tl : t < a := sub_lt u2 u3 u4
        have rl : r < a := sub_lt (t := r) (r := t) u1 (by rw [Nat.and_comm]; exact u3) (by rw [Nat.or_comm]; exact u4)
        exact Or.inr (Or.inr ⟨t, r, u1, u2, u3, u4, by rw [hJ' t o (by omega) ho, hJ' r o (by omega) ho]; exact u5⟩)
section RCY
variable {G : Gl} {w : Wd} {k : Nat} {σ : Mem} {Q : Option AV → Mem → Prop} {P : Pt}
set_option maxRecDepth 100000 in
set_option maxHeartbeats 1000000 in
theorem kx_jt (hk : 8 ≤ k) {J : Nat → Int} {s : Nat} {h set n b0 : Int} (hs : s < 4096) (hh : 0 ≤ h ∧ h < 12) (hJ : ∀ a, a < s → σ 21 70 0 (12 * a + h.toNat) = J (12 * a + h.toNat)) (hr : ∀ a, a ≠ 0 → a < s → a &&& s = a → 0 ≤ J (12 * a + h.toNat) ∧ J (12 * a + h.toNat) ≤ 99999)
    (q : ∀ (b : Int) (l7 : Option AV), BTj J s h.toNat 1 b0 b → 0 ≤ b → b ≤ 99999 → TT G w w w k (0, 0) 220 130 [some (vr 21 0 0), some (vi set), some (vi n), some (vi s), some (vi h), some (vi b), some (vi 0), l7] [] σ Q) :
    ∀ (m t : Nat) (b : Int) (l7 : Option AV), t < m → t < s → t &&& s = t → BTj J s h.toNat (t + 1) b0 b → 0 ≤ b → b ≤ 99999 → TT G w w w k (0, 0) 220 67 [some (vr 21 0 0), some (vi set), some (vi n), some (vi s), some (vi h), some (vi b), some (vi t), l7] [] σ Q
  | 0, t, b, l7, h0, _, _, _, _, _ => by omega
  | m + 1, t, b, l7, h0, hts, hi, hb, b0', b1 => by
    have ih := kx_jt hk (n := n) (set := set) hs hh hJ hr q m
    by_cases c : t = 0
    · subst c
      have r := q b l7 hb b0' b1
      refine TT_vb ok220 (sm3_ok G w) 60 [67, 130] ?_
      simp -implicitDefEqProofs only [↓b220_0, ↓b220_11, ↓b220_17, ↓b220_19, ↓b220_21, ↓b220_26, ↓b220_34, ↓b220_37, ↓b220_43, ↓b220_51, ↓b220_55, ↓b220_58, ↓b220_67, ↓b220_72, ↓b220_110, ↓b220_115, ↓b220_117, ↓b220_130, ↓b220_150, ↓b220_156, ↓b220_162, ↓b220_166, ↓b220_170, ↓b220_173, ↓b220_177, ↓b220_183, ↓b220_187, ↓b220_203, ↓b220_218, ↓b220_219, ↓b220_226, b220_0, b220_11, b220_17, b220_19, b220_21, b220_26, b220_34, b220_37, b220_43, b220_51, b220_55, b220_58, b220_67, b220_72, b220_110, b220_115, b220_117, b220_130, b220_150, b220_156, b220_162, b220_166, b220_170, b220_173, b220_177, b220_183, b220_187, b220_203, b220_218, b220_219, b220_226, nLE4, layE8, hk, n3_221, I32, ↓xb, xb, ps, lpad, lat, aok2, rd2, aaok, aav, alok, alen, aok, akk, csum, isLg, cmpI, clsE, Option.elim, eq_self, List.mem_cons, List.not_mem_nil, or_false, false_or, List.append_nil, List.nil_append, List.cons_append, List.append_eq, List.replicate, List.length_cons, List.length_nil, List.map_cons, List.map_nil, ↓reduceIte, reduceCtorEq, if_true, if_false, true_and, and_true, false_and, and_false, and_self, not_true_eq_false, not_false_eq_true, forall_const, true_implies, false_implies, implies_true, Nat.reduceAdd, Nat.reduceSub, Nat.reduceLT, Nat.reduceLeDiff, Nat.reduceEqDiff, Nat.reduceMul, Nat.reducePow, Nat.add_one_ne_zero, Nat.add_one_sub_one, Nat.add_zero, Nat.zero_add, Int.reduceLT, Int.reduceLE, Int.reduceNeg, Int.reduceAdd, Int.reduceSub, Int.reduceToNat, Int.reduceEq, Int.reduceMul, Int.reducePow, Int.cast_ofNat_Int, Int.toNat_natCast, ne_eq, Bool.false_eq_true, true_or, or_true, or_self, Nat.not_lt_zero, ite_e0, ite_e1, lc_lt, lc_ge, lc_gt, lc_le, lc_eq, Classical.not_not]
      with_reducible repeat' (first | (refine And.intro ?_ ?_) | intro _)
      all_goals try omega
      all_goals first | omega | exact r
    · have xs := xor_sub hi
      have x0 : s ^^^ t ≠ 0 := fun y => by
        have z := xs.2
        rw [y, Nat.or_zero] at z
        omega
      have xl : s ^^^ t < s := sub_lt (t := s ^^^ t) (r := t) c (by rw [Nat.and_comm]; exact xs.1) (by rw [Nat.or_comm]; exact xs.2)
      have xi : (s ^^^ t) &&& s = s ^^^ t := sub_in (t := s ^^^ t) (r := t) (by rw [Nat.or_comm]; exact xs.2) (Nat.and_self s)
      have bx := bxor_nat (a := (s : Int)) (b := (t : Int)) (by omega) (by omega)
      rw [Int.toNat_natCast, Int.toNat_natCast] at bx
      have be := band_nat (a := (t : Int) - 1) (b := (s : Int)) (by omega) (by omega)
      rw [Int.toNat_natCast, show ((t : Int) - 1).toNat = t - 1 by omega] at be
      have sn := sub_next (t + 1) t s
      have i1 : (12 * (t : Int) + h).toNat = 12 * t + h.toNat := by omega
      have i2 : (12 * ((s ^^^ t : Nat) : Int) + h).toNat = 12 * (s ^^^ t) + h.toNat := by omega
      have j1 := hJ t hts
      have j2 := hJ _ xl
      have r1 := hr t c hts hi
      have r2 := hr _ x0 xl xi
      have tl : (t - 1) &&& s ≤ t - 1 := Nat.and_le_left
      have ti : ((t - 1) &&& s) &&& s = (t - 1) &&& s := by rw [Nat.and_assoc, Nat.and_self]
      have fin : ∀ b', b' = min b (J (12 * t + h.toNat) + J (12 * (s ^^^ t) + h.toNat)) → BTj J s h.toNat (((t - 1) &&& s) + 1) b0 b' := fun b' e => by
        have k1 : b ≤ J (12 * t + h.toNat) + J (12 * (s ^^^ t) + h.toNat) → b' = b := fun z => by omega
        have k2 : ¬ b ≤ J (12 * t + h.toNat) + J (12 * (s ^^^ t) + h.toNat) → b' = J (12 * t + h.toNat) + J (12 * (s ^^^ t) + h.toNat) := fun z => by omega
        obtain ⟨z1, z2, z3⟩ := hb
        refine ⟨by omega, fun a a0 ai al am => ?_, ?_⟩
        · by_cases e1 : a = t
          · subst e1; omega
          · by_cases e2 : a < t
            · have := sn a (by omega) hi ai e2
              omega
            · have := z2 a a0 ai al (by omega)
              omega
        · by_cases e1 : b ≤ J (12 * t + h.toNat) + J (12 * (s ^^^ t) + h.toNat)
          · rw [k1 e1]; exact z3
          · exact Or.inr ⟨t, c, hts, hi, k2 e1⟩
      by_cases cc : b ≤ J (12 * t + h.toNat) + J (12 * (s ^^^ t) + h.toNat)
      · have f := ih ((t - 1) &&& s) b (some (vi (J (12 * t + h.toNat) + J (12 * (s ^^^ t) + h.toNat)))) (by omega) (by omega) ti (fin b (by omega)) b0' b1
        refine TT_vb ok220 (sm3_ok G w) 60 [67, 130] ?_
        simp -implicitDefEqProofs only [↓b220_0, ↓b220_11, ↓b220_17, ↓b220_19, ↓b220_21, ↓b220_26, ↓b220_34, ↓b220_37, ↓b220_43, ↓b220_51, ↓b220_55, ↓b220_58, ↓b220_67, ↓b220_72, ↓b220_110, ↓b220_115, ↓b220_117, ↓b220_130, ↓b220_150, ↓b220_156, ↓b220_162, ↓b220_166, ↓b220_170, ↓b220_173, ↓b220_177, ↓b220_183, ↓b220_187, ↓b220_203, ↓b220_218, ↓b220_219, ↓b220_226, b220_0, b220_11, b220_17, b220_19, b220_21, b220_26, b220_34, b220_37, b220_43, b220_51, b220_55, b220_58, b220_67, b220_72, b220_110, b220_115, b220_117, b220_130, b220_150, b220_156, b220_162, b220_166, b220_170, b220_173, b220_177, b220_183, b220_187, b220_203, b220_218, b220_219, b220_226, nLE4, layE8, bx, be, i1, i2, j1, j2, n3_221, I32, ↓xb, xb, ps, lpad, lat, aok2, rd2, aaok, aav, alok, alen, aok, akk, csum, isLg, cmpI, clsE, Option.elim, eq_self, List.mem_cons, List.not_mem_nil, or_false, false_or, List.append_nil, List.nil_append, List.cons_append, List.append_eq, List.replicate, List.length_cons, List.length_nil, List.map_cons, List.map_nil, ↓reduceIte, reduceCtorEq, if_true, if_false, true_and, and_true, false_and, and_false, and_self, not_true_eq_false, not_false_eq_true, forall_const, true_implies, false_implies, implies_true, Nat.reduceAdd, Nat.reduceSub, Nat.reduceLT, Nat.reduceLeDiff, Nat.reduceEqDiff, Nat.reduceMul, Nat.reducePow, Nat.add_one_ne_zero, Nat.add_one_sub_one, Nat.add_zero, Nat.zero_add, Int.reduceLT, Int.reduceLE, Int.reduceNeg, Int.reduceAdd, Int.reduceSub, Int.reduceToNat, Int.reduceEq, Int.reduceMul, Int.reducePow, Int.cast_ofNat_Int, Int.toNat_natCast, ne_eq, Bool.false_eq_true, true_or, or_true, or_self, Nat.not_lt_zero, ite_e0, ite_e1, lc_lt, lc_ge, lc_gt, lc_le, lc_eq, Classical.not_not]
        with_reducible repeat' (first | (refine And.intro ?_ ?_) | intro _)
        all_goals try omega
        all_goals first | omega | exact f
      · have f := ih ((t - 1) &&& s) (J (12 * t + h.toNat) + J (12 * (s ^^^ t) + h.toNat)) (some (vi (J (12 * t + h.toNat) + J (12 * (s ^^^ t) + h.toNat)))) (by omega) (by omega) ti (fin _ (by omega)) (by omega) (by omega)
        refine TT_vb ok220 (sm3_ok G w) 60 [67, 130] ?_
        simp -implicitDefEqProofs only [↓b220_0, ↓b220_11, ↓b220_17, ↓b220_19, ↓b220_21, ↓b220_26, ↓b220_34, ↓b220_37, ↓b220_43, ↓b220_51, ↓b220_55, ↓b220_58, ↓b220_67, ↓b220_72, ↓b220_110, ↓b220_115, ↓b220_117, ↓b220_130, ↓b220_150, ↓b220_156, ↓b220_162, ↓b220_166, ↓b220_170, ↓b220_173, ↓b220_177, ↓b220_183, ↓b220_187, ↓b220_203, ↓b220_218, ↓b220_219, ↓b220_226, b220_0, b220_11, b220_17, b220_19, b220_21, b220_26, b220_34, b220_37, b220_43, b220_51, b220_55, b220_58, b220_67, b220_72, b220_110, b220_115, b220_117, b220_130, b220_150, b220_156, b220_162, b220_166, b220_170, b220_173, b220_177, b220_183, b220_187, b220_203, b220_218, b220_219, b220_226, nLE4, layE8, bx, be, i1, i2, j1, j2, n3_221, I32, ↓xb, xb, ps, lpad, lat, aok2, rd2, aaok, aav, alok, alen, aok, akk, csum, isLg, cmpI, clsE, Option.elim, eq_self, List.mem_cons, List.not_mem_nil, or_false, false_or, List.append_nil, List.nil_append, List.cons_append, List.append_eq, List.replicate, List.length_cons, List.length_nil, List.map_cons, List.map_nil, ↓reduceIte, reduceCtorEq, if_true, if_false, true_and, and_true, false_and, and_false, and_self, not_true_eq_false, not_false_eq_true, forall_const, true_implies, false_implies, implies_true, Nat.reduceAdd, Nat.reduceSub, Nat.reduceLT, Nat.reduceLeDiff, Nat.reduceEqDiff, Nat.reduceMul, Nat.reducePow, Nat.add_one_ne_zero, Nat.add_one_sub_one, Nat.add_zero, Nat.zero_add, Int.reduceLT, Int.reduceLE, Int.reduceNeg, Int.reduceAdd, Int.reduceSub, Int.reduceToNat, Int.reduceEq, Int.reduceMul, Int.reducePow, Int.cast_ofNat_Int, Int.toNat_natCast, ne_eq, Bool.false_eq_true, true_or, or_true, or_self, Nat.not_lt_zero, ite_e0, ite_e1, lc_lt, lc_ge, lc_gt, lc_le, lc_eq, Classical.not_not]
        with_reducible repeat' (first | (refine And.intro ?_ ?_) | intro _)
        all_goals try omega
        all_goals first | omega | exact f
set_option maxRecDepth 100000 in
set_option maxHeartbeats 1000000 in
theorem kx_jh (hk : 10 ≤ k) {s : Nat} {set : Int} (hn : 0 ≤ P 2 0 ∧ P 2 0 ≤ 12) (hs : s < 4096) (hs0 : s ≠ 0) (hr : ∀ a x, a ≠ 0 → a < s → a &&& s = a → x < (P 2 0).toNat → 0 ≤ σ 21 70 0 (12 * a + x) ∧ σ 21 70 0 (12 * a + x) ≤ 99999)
    (q : ∀ (σ' : Mem) (l5 l6 l7 : Option AV), (∀ x, x < (P 2 0).toNat → (0 ≤ σ' 21 70 0 (12 * s + x) ∧ σ' 21 70 0 (12 * s + x) ≤ 99999) ∧ BTj (σ 21 70 0) s x 1 (if s = 2 ^ x then 0 else 99999) (σ' 21 70 0 (12 * s + x))) → (∀ c, c < 12 * s → σ' 21 70 0 c = σ 21 70 0 c) → same S701 σ σ' →
      TT G w w w k (0, 0) 220 150 [some (vr 21 0 0), some (vi set), some (vi (P 2 0)), some (vi s), some (vi (P 2 0)), l5, l6, l7] [] σ' Q) :
    ∀ (m : Nat) (h : Int) (σ' : Mem) (l5 l6 l7 : Option AV), 0 ≤ h → h ≤ P 2 0 → P 2 0 < h + m → (∀ x, x < h.toNat → (0 ≤ σ' 21 70 0 (12 * s + x) ∧ σ' 21 70 0 (12 * s + x) ≤ 99999) ∧ BTj (σ 21 70 0) s x 1 (if s = 2 ^ x then 0 else 99999) (σ' 21 70 0 (12 * s + x))) → (∀ c, c < 12 * s → σ' 21 70 0 c = σ 21 70 0 c) → same S701 σ σ' →
      TT G w w w k (0, 0) 220 37 [some (vr 21 0 0), some (vi set), some (vi (P 2 0)), some (vi s), some (vi h), l5, l6, l7] [] σ' Q
  | 0, h, σ', l5, l6, l7, h0, h1, h2, _, _, _ => by omega
  | m + 1, h, σ', l5, l6, l7, h0, h1, h2, hd, hc, hs' => by
    have ih := kx_jh hk (set := set) hn hs hs0 hr q m (h + 1)
    by_cases hi : h < P 2 0
    · have be := band_nat (a := (s : Int) - 1) (b := (s : Int)) (by omega) (by omega)
      rw [Int.toNat_natCast, show ((s : Int) - 1).toNat = s - 1 by omega] at be
      have tl : (s - 1) &&& s ≤ s - 1 := Nat.and_le_left
      have ti : ((s - 1) &&& s) &&& s = (s - 1) &&& s := by rw [Nat.and_assoc, Nat.and_self]
      have sn := sub_next (s + 1) s s
      have pv := p2_12 (n := h) (by omega)
      have pe : ((2 ^ h.toNat : Nat) : Int) = 2 ^ h.toNat := by rw [Int.natCast_pow]; rfl
      have one : (1 : Int) * 2 ^ h.toNat = 2 ^ h.toNat := by omega
      have ix : (12 * (s : Int) + h).toNat = 12 * s + h.toNat := by omega
      have go : ∀ (b0 : Int) (l7 : Option AV), b0 = (if s = 2 ^ h.toNat then 0 else 99999) → TT G w w w k (0, 0) 220 67 [some (vr 21 0 0), some (vi set), some (vi (P 2 0)), some (vi s), some (vi h), some (vi b0), some (vi ((s - 1) &&& s : Nat)), l7] [] σ' Q := fun b0 l7 e => by
        have br : 0 ≤ b0 ∧ b0 ≤ 99999 := by rw [e]; split <;> omega
        refine kx_jt (by omega) (J := σ 21 70 0) hs (by omega) (fun a ha => hc _ (by omega)) (fun a a0 al ai => hr a _ a0 al ai (by omega)) (fun b l7' hb b0' b1 => ?_) ((s - 1 &&& s) + 1) _ b0 l7 (by omega) (by omega) ti ⟨Int.le_refl _, fun a a0 ai al am => ?_, Or.inl rfl⟩ br.1 br.2
        · refine TT_vb ok220 (sm3_ok G w) 60 [37, 67] ?_
          simp -implicitDefEqProofs only [↓b220_0, ↓b220_11, ↓b220_17, ↓b220_19, ↓b220_21, ↓b220_26, ↓b220_34, ↓b220_37, ↓b220_43, ↓b220_51, ↓b220_55, ↓b220_58, ↓b220_67, ↓b220_72, ↓b220_110, ↓b220_115, ↓b220_117, ↓b220_130, ↓b220_150, ↓b220_156, ↓b220_162, ↓b220_166, ↓b220_170, ↓b220_173, ↓b220_177, ↓b220_183, ↓b220_187, ↓b220_203, ↓b220_218, ↓b220_219, ↓b220_226, b220_0, b220_11, b220_17, b220_19, b220_21, b220_26, b220_34, b220_37, b220_43, b220_51, b220_55, b220_58, b220_67, b220_72, b220_110, b220_115, b220_117, b220_130, b220_150, b220_156, b220_162, b220_166, b220_170, b220_173, b220_177, b220_183, b220_187, b220_203, b220_218, b220_219, b220_226, nLE4, layE8, ix, n3_221, I32, ↓xb, xb, ps, lpad, lat, aok2, rd2, aaok, aav, alok, alen, aok, akk, csum, isLg, cmpI, clsE, Option.elim, eq_self, List.mem_cons, List.not_mem_nil, or_false, false_or, List.append_nil, List.nil_append, List.cons_append, List.append_eq, List.replicate, List.length_cons, List.length_nil, List.map_cons, List.map_nil, ↓reduceIte, reduceCtorEq, if_true, if_false, true_and, and_true, false_and, and_false, and_self, not_true_eq_false, not_false_eq_true, forall_const, true_implies, false_implies, implies_true, Nat.reduceAdd, Nat.reduceSub, Nat.reduceLT, Nat.reduceLeDiff, Nat.reduceEqDiff, Nat.reduceMul, Nat.reducePow, Nat.add_one_ne_zero, Nat.add_one_sub_one, Nat.add_zero, Nat.zero_add, Int.reduceLT, Int.reduceLE, Int.reduceNeg, Int.reduceAdd, Int.reduceSub, Int.reduceToNat, Int.reduceEq, Int.reduceMul, Int.reducePow, Int.cast_ofNat_Int, Int.toNat_natCast, ne_eq, Bool.false_eq_true, true_or, or_true, or_self, Nat.not_lt_zero, ite_e0, ite_e1, lc_lt, lc_ge, lc_gt, lc_le, lc_eq, Classical.not_not]
          with_reducible repeat' (first | (refine And.intro ?_ ?_) | intro _)
          all_goals try omega
          all_goals first | omega | skip
          refine ih _ _ _ _ (by omega) (by omega) (by omega) (fun x hx => ?_) (fun c hl => ?_) (hs'.put rfl)
          · by_cases c : x = h.toNat
            · subst c
              rw [upp_eq, ← e]
              exact ⟨⟨b0', b1⟩, hb⟩
            · rw [upp_nc (by omega)]
              exact hd x (by omega)
          · rw [upp_nc (by omega)]; exact hc c hl
        · have := sn a (by omega) (Nat.and_self s) ai al
          omega
      by_cases c : s = 2 ^ h.toNat
      · have g := fun l7 => go 0 l7 (by rw [if_pos c])
        have c' : (s : Int) = 2 ^ h.toNat := by omega
        refine TT_vb ok220 (sm3_ok G w) 60 [37, 67, 150] ?_
        simp -implicitDefEqProofs only [↓b220_0, ↓b220_11, ↓b220_17, ↓b220_19, ↓b220_21, ↓b220_26, ↓b220_34, ↓b220_37, ↓b220_43, ↓b220_51, ↓b220_55, ↓b220_58, ↓b220_67, ↓b220_72, ↓b220_110, ↓b220_115, ↓b220_117, ↓b220_130, ↓b220_150, ↓b220_156, ↓b220_162, ↓b220_166, ↓b220_170, ↓b220_173, ↓b220_177, ↓b220_183, ↓b220_187, ↓b220_203, ↓b220_218, ↓b220_219, ↓b220_226, b220_0, b220_11, b220_17, b220_19, b220_21, b220_26, b220_34, b220_37, b220_43, b220_51, b220_55, b220_58, b220_67, b220_72, b220_110, b220_115, b220_117, b220_130, b220_150, b220_156, b220_162, b220_166, b220_170, b220_173, b220_177, b220_183, b220_187, b220_203, b220_218, b220_219, b220_226, nLE4, layE8, be, one, n3_221, I32, ↓xb, xb, ps, lpad, lat, aok2, rd2, aaok, aav, alok, alen, aok, akk, csum, isLg, cmpI, clsE, Option.elim, eq_self, List.mem_cons, List.not_mem_nil, or_false, false_or, List.append_nil, List.nil_append, List.cons_append, List.append_eq, List.replicate, List.length_cons, List.length_nil, List.map_cons, List.map_nil, ↓reduceIte, reduceCtorEq, if_true, if_false, true_and, and_true, false_and, and_false, and_self, not_true_eq_false, not_false_eq_true, forall_const, true_implies, false_implies, implies_true, Nat.reduceAdd, Nat.reduceSub, Nat.reduceLT, Nat.reduceLeDiff, Nat.reduceEqDiff, Nat.reduceMul, Nat.reducePow, Nat.add_one_ne_zero, Nat.add_one_sub_one, Nat.add_zero, Nat.zero_add, Int.reduceLT, Int.reduceLE, Int.reduceNeg, Int.reduceAdd, Int.reduceSub, Int.reduceToNat, Int.reduceEq, Int.reduceMul, Int.reducePow, Int.cast_ofNat_Int, Int.toNat_natCast, ne_eq, Bool.false_eq_true, true_or, or_true, or_self, Nat.not_lt_zero, ite_e0, ite_e1, lc_lt, lc_ge, lc_gt, lc_le, lc_eq, Classical.not_not]
        with_reducible repeat' (first | (refine And.intro ?_ ?_) | intro _)
        all_goals try omega
        all_goals first | omega | exact g _
      · have g := fun l7 => go 99999 l7 (by rw [if_neg c])
        have c' : ¬ (s : Int) = 2 ^ h.toNat := by omega
        refine TT_vb ok220 (sm3_ok G w) 60 [37, 67, 150] ?_
        simp -implicitDefEqProofs only [↓b220_0, ↓b220_11, ↓b220_17, ↓b220_19, ↓b220_21, ↓b220_26, ↓b220_34, ↓b220_37, ↓b220_43, ↓b220_51, ↓b220_55, ↓b220_58, ↓b220_67, ↓b220_72, ↓b220_110, ↓b220_115, ↓b220_117, ↓b220_130, ↓b220_150, ↓b220_156, ↓b220_162, ↓b220_166, ↓b220_170, ↓b220_173, ↓b220_177, ↓b220_183, ↓b220_187, ↓b220_203, ↓b220_218, ↓b220_219, ↓b220_226, b220_0, b220_11, b220_17, b220_19, b220_21, b220_26, b220_34, b220_37, b220_43, b220_51, b220_55, b220_58, b220_67, b220_72, b220_110, b220_115, b220_117, b220_130, b220_150, b220_156, b220_162, b220_166, b220_170, b220_173, b220_177, b220_183, b220_187, b220_203, b220_218, b220_219, b220_226, nLE4, layE8, be, one, c', n3_221, I32, ↓xb, xb, ps, lpad, lat, aok2, rd2, aaok, aav, alok, alen, aok, akk, csum, isLg, cmpI, clsE, Option.elim, eq_self, List.mem_cons, List.not_mem_nil, or_false, false_or, List.append_nil, List.nil_append, List.cons_append, List.append_eq, List.replicate, List.length_cons, List.length_nil, List.map_cons, List.map_nil, ↓reduceIte, reduceCtorEq, if_true, if_false, true_and, and_true, false_and, and_false, and_self, not_true_eq_false, not_false_eq_true, forall_const, true_implies, false_implies, implies_true, Nat.reduceAdd, Nat.reduceSub, Nat.reduceLT, Nat.reduceLeDiff, Nat.reduceEqDiff, Nat.reduceMul, Nat.reducePow, Nat.add_one_ne_zero, Nat.add_one_sub_one, Nat.add_zero, Nat.zero_add, Int.reduceLT, Int.reduceLE, Int.reduceNeg, Int.reduceAdd, Int.reduceSub, Int.reduceToNat, Int.reduceEq, Int.reduceMul, Int.reducePow, Int.cast_ofNat_Int, Int.toNat_natCast, ne_eq, Bool.false_eq_true, true_or, or_true, or_self, Nat.not_lt_zero, ite_e0, ite_e1, lc_lt, lc_ge, lc_gt, lc_le, lc_eq, Classical.not_not]
        with_reducible repeat' (first | (refine And.intro ?_ ?_) | intro _)
        all_goals try omega
        all_goals first | omega | exact g _
    · have e : h = P 2 0 := by omega
      subst e
      have r := q σ' l5 l6 l7 hd hc hs'
      refine TT_vb ok220 (sm3_ok G w) 60 [37, 67, 150] ?_
      simp -implicitDefEqProofs only [↓b220_0, ↓b220_11, ↓b220_17, ↓b220_19, ↓b220_21, ↓b220_26, ↓b220_34, ↓b220_37, ↓b220_43, ↓b220_51, ↓b220_55, ↓b220_58, ↓b220_67, ↓b220_72, ↓b220_110, ↓b220_115, ↓b220_117, ↓b220_130, ↓b220_150, ↓b220_156, ↓b220_162, ↓b220_166, ↓b220_170, ↓b220_173, ↓b220_177, ↓b220_183, ↓b220_187, ↓b220_203, ↓b220_218, ↓b220_219, ↓b220_226, b220_0, b220_11, b220_17, b220_19, b220_21, b220_26, b220_34, b220_37, b220_43, b220_51, b220_55, b220_58, b220_67, b220_72, b220_110, b220_115, b220_117, b220_130, b220_150, b220_156, b220_162, b220_166, b220_170, b220_173, b220_177, b220_183, b220_187, b220_203, b220_218, b220_219, b220_226, nLE4, layE8, hk, n3_221, I32, ↓xb, xb, ps, lpad, lat, aok2, rd2, aaok, aav, alok, alen, aok, akk, csum, isLg, cmpI, clsE, Option.elim, eq_self, List.mem_cons, List.not_mem_nil, or_false, false_or, List.append_nil, List.nil_append, List.cons_append, List.append_eq, List.replicate, List.length_cons, List.length_nil, List.map_cons, List.map_nil, ↓reduceIte, reduceCtorEq, if_true, if_false, true_and, and_true, false_and, and_false, and_self, not_true_eq_false, not_false_eq_true, forall_const, true_implies, false_implies, implies_true, Nat.reduceAdd, Nat.reduceSub, Nat.reduceLT, Nat.reduceLeDiff, Nat.reduceEqDiff, Nat.reduceMul, Nat.reducePow, Nat.add_one_ne_zero, Nat.add_one_sub_one, Nat.add_zero, Nat.zero_add, Int.reduceLT, Int.reduceLE, Int.reduceNeg, Int.reduceAdd, Int.reduceSub, Int.reduceToNat, Int.reduceEq, Int.reduceMul, Int.reducePow, Int.cast_ofNat_Int, Int.toNat_natCast, ne_eq, Bool.false_eq_true, true_or, or_true, or_self, Nat.not_lt_zero, ite_e0, ite_e1, lc_lt, lc_ge, lc_gt, lc_le, lc_eq, Classical.not_not]
      with_reducible repeat' (first | (refine And.intro ?_ ?_) | intro _)
      all_goals try omega
      all_goals first | omega | exact r
end RCY

/-! 41.keep: the check keeps and puts back; what a quarter leaves beyond the arrays' ends -/
def OR (P P' : Pt) : Prop := ∀ f i, ln f ≤ i → P' f i = P f i
theorem OR.refl {P : Pt} : OR P P := fun _ _ _ => rfl
theorem OR.trans {P P' P'' : Pt} (h : OR P P') (h' : OR P' P'') : OR P P'' := fun f i hi => (h' f i hi).trans (h f i hi)
theorem OR.upd {P P' : Pt} (h : OR P P') {f i : Nat} {v : Int} (hi : i < ln f) : OR P (pu P' f i v) := fun f' i' h' => by
  unfold pu
  rw [if_neg (fun e => by rw [e.1, e.2] at h'; omega)]
  exact h f' i' h'
theorem or_q3 {U : RU} {P : Pt} (W : WF P) : OR P (q3P U P) := by
  have w1 := W.sc.1; have w2 := W.sc.2.2.1
  have a : K8 P (iter cuP (P 2 0).toNat P) ∧ OR P (iter cuP (P 2 0).toNat P) := iter_inv (I := fun _ P' => K8 P P' ∧ OR P P') ⟨K8.refl W, OR.refl⟩ (fun i b hi hb => ⟨cuP_k hb.1 (by omega), hb.2.upd (show _ < 72 by omega)⟩)
  have b : K8 P (iter mkP (P 2 2).toNat (iter cuP (P 2 0).toNat P)) ∧ OR P (iter mkP (P 2 2).toNat (iter cuP (P 2 0).toNat P)) := iter_inv (I := fun _ P' => K8 P P' ∧ OR P P') a (fun i b hi hb => ⟨mkP_k hb.1 (by omega), by
    have hm : (i : Int) < b 2 2 := by rw [hb.1.2 2 2 (by decide)]; omega
    obtain ⟨d1, d2, d3, d4, d5⟩ := hb.1.1.mk hm
    have v1 := hb.1.1.sc.1
    unfold mkP
    split
    · exact (hb.2.upd (show _ < 72 by omega)).upd (show _ < 72 by omega)
    · exact hb.2⟩)
  exact (iter_inv (st := fun h P => spP U P h) (I := fun _ P' => K8 P P' ∧ OR P P') b (fun i b hi hb => ⟨spP_k hb.1 (by omega), hb.2.upd (show _ < 72 by omega)⟩)).2
theorem or_q4 {U : RU} {P : Pt} (W : WF P) : OR P (q4P U P) := by
  have w := W.sc.2.2.2.1
  exact iter_inv (st := caP) (I := fun _ P' => OR P P') (or_q3 W) (fun i b hi hb => hb.upd (show _ < 20 by omega))
theorem or_sg {U : RU} {kd : Int} {P P1 : Pt} {nr : Nat → Int} {n : Nat} (hn : (n : Int) < P1 2 1) (hU : 0 ≤ U.2) (hnr : ∀ j : Nat, (j : Int) < P1 2 0 - 1 → 0 ≤ nr j ∧ nr j < P1 2 0 ∧ nr j ≠ P1 9 n) {s0 : Pt × Int} (g0 : GI P1 n s0) (h0 : OR P s0.1) (m : Nat) (hm : (m : Int) ≤ P1 2 0 - 1) : OR P (iter (sgP U kd nr n) m s0).1 := by
  refine (iter_inv (st := sgP U kd nr n) (I := fun _ s => GI P1 n s ∧ OR P s.1) ⟨g0, h0⟩ (fun j s hj hs => ⟨sg_step hU hn (hnr j (by omega)) hs.1, ?_⟩)).2
  obtain ⟨⟨⟨W, kf⟩, N, cells, l0, l9⟩, ho⟩ := hs
  have f0 := kf 2 0 (by decide) (by decide) (by decide) (by decide)
  have f1 := kf 2 1 (by decide) (by decide) (by decide) (by decide)
  obtain ⟨o1, o2, o3⟩ := hnr j (by omega)
  obtain ⟨d1, d2, d3⟩ := W.nd (n := n) (by omega)
  have w1 := W.sc.1; have w4 := W.sc.2.2.2.1
  have cr : ccP s.1 n (nr j) = -1 ∨ (0 ≤ ccP s.1 n (nr j) ∧ ccP s.1 n (nr j) < (s.1 2 3).toNat) := cob_r _
  unfold sgP
  split
  · show OR P (gstP kd s.1 n (nr j) _)
    unfold gstP gvP
    split
    · exact (ho.upd (show _ < 72 by omega)).upd (show _ < 144 by omega)
    · split
      · exact ((ho.upd (show _ < 72 by omega)).upd (show _ < 144 by omega)).upd (show _ < 20 by omega)
      · exact (ho.upd (show _ < 72 by omega)).upd (show _ < 144 by omega)
  · exact ho
theorem or_sv {U : RU} {kd : Int} {P P' : Pt} (W : WF P') (N : N38 P') (hU : 0 ≤ U.2) {n : Nat} (hn : (n : Int) < P' 2 1) {nr : Nat → Int} (hnr : ∀ j : Nat, (j : Int) < P' 2 0 - 1 → 0 ≤ nr j ∧ nr j < P' 2 0 ∧ nr j ≠ P' 9 n) (h : OR P P') : OR P (svP U kd nr n P') := by
  have w1 := W.sc.1
  obtain ⟨d1, d2, d3, d4, d5, d6, d7⟩ := W.nd hn
  have sb := W.st (n := (6 * P' 9 n + P' 10 n).toNat) (by omega)
  have so : svO P' n = min (P' 11 n) (P' 8 (6 * P' 9 n + P' 10 n).toNat) := rfl
  have k1 : KQ P' (pu P' 8 (6 * P' 9 n + P' 10 n).toNat (P' 8 (6 * P' 9 n + P' 10 n).toNat - svO P' n)) := (KQ.refl W).put8 (by omega)
  have g0 : GI (pu P' 8 (6 * P' 9 n + P' 10 n).toNat (P' 8 (6 * P' 9 n + P' 10 n).toNat - svO P' n)) n (pu P' 8 (6 * P' 9 n + P' 10 n).toNat (P' 8 (6 * P' 9 n + P' 10 n).toNat - svO P' n), P' 11 n - svO P' n) := ⟨KQ.refl k1.1, N.keep (by decide), fun _ _ _ => rfl, by show 0 ≤ P' 11 n - svO P' n; omega, by show P' 11 n - svO P' n ≤ 999; omega⟩
  have h1 : OR P (pu P' 8 (6 * P' 9 n + P' 10 n).toNat (P' 8 (6 * P' 9 n + P' 10 n).toNat - svO P' n)) := h.upd (show _ < 72 by omega)
  have h2 : OR P (svG U kd nr n P').1 := by
    unfold svG
    split
    · exact or_sg (P1 := pu P' 8 (6 * P' 9 n + P' 10 n).toNat (P' 8 (6 * P' 9 n + P' 10 n).toNat - svO P' n)) hn hU hnr g0 h1 _ (by show (((P' 2 0 - 1).toNat : Nat) : Int) ≤ P' 2 0 - 1; omega)
    · exact h1
  exact h2.upd (show _ < 12 by omega)
theorem or_qu {U : RU} {kd : Int} {P : Pt} (W : WF P) (N : N38 P) (hU : 0 ≤ U.2) : OR P (quP U kd P) := by
  have k4 := q4_k (U := U) W
  have w1 := W.sc.1; have w2 := W.sc.2.1
  have v := lnP_inv (U := U) (P := q4P U P) (P 2 1).toNat
  have hnr : ∀ n : Nat, (n : Int) < P 2 1 → ∀ j : Nat, (j : Int) < P 2 0 - 1 → 0 ≤ nrP P (P 9 n) j ∧ nrP P (P 9 n) j < P 2 0 ∧ nrP P (P 9 n) j ≠ P 9 n := fun n hn j hj => nr_r W (W.nd hn).1 hj
  have z : OR P (q5P U kd P).1 := by
    refine (iter_inv (st := svS U kd (lnP U (q4P U P) (P 2 1).toNat).1 (fun n => nrP P (P 9 n))) (I := fun _ s => KQ P s.1 ∧ N38 s.1 ∧ OR P s.1) ⟨k4, N.same (q4_n W), or_q4 W⟩ (fun j b hj hb => ?_)).2.2
    obtain ⟨b1, b2, b3⟩ := hb
    have hj' := v.2.2 j hj
    have hn : ((((lnP U (q4P U P) (P 2 1).toNat).1 j).toNat : Nat) : Int) < P 2 1 := by omega
    have z := sv_k (kd := kd) b1 b2 hU (n := ((lnP U (q4P U P) (P 2 1).toNat).1 j).toNat) hn (hnr _ hn)
    have f0 := b1.2 2 0 (by decide) (by decide) (by decide) (by decide)
    have f1 := b1.2 2 1 (by decide) (by decide) (by decide) (by decide)
    have f9 := b1.2 9 ((lnP U (q4P U P) (P 2 1).toNat).1 j).toNat (by decide) (by decide) (by decide) (by decide)
    exact ⟨z.1, z.2, or_sv b1.1 b2 hU (by omega) (fun i hi => by rw [f0, f9]; exact hnr _ hn i (by omega)) b3⟩
  exact z.upd (show 6 < 8 by decide)
theorem or_rn {U : RU} {kd : Int} {P : Pt} (W : WF P) (N : N38 P) (hU : 0 ≤ U.2) (n : Nat) : OR P (rnP U kd n P).1 :=
  (iter_inv (st := fun _ s => (quP U kd s.1, w64 (s.2 + quH U kd s.1))) (I := fun _ s => KN P s.1 ∧ OR P s.1) ⟨⟨W, N, fun _ _ _ _ _ _ _ => rfl⟩, OR.refl⟩ (fun j b hj hb => ⟨hb.1.trans (qu_k hb.1.1 hb.1.2.1 hU).1, hb.2.trans (or_qu hb.1.1 hb.1.2.1 hU)⟩)).2
/-- what is kept -/
def KP (σ : Mem) (P : Pt) : Prop := (∀ c, c < 72 → σ 21 64 0 c = P 8 c) ∧ (∀ c, c < 20 → σ 21 65 0 c = P 26 c) ∧ (∀ c, c < 12 → σ 21 66 0 c = P 6 c) ∧ (∀ c, c < 8 → σ 21 67 0 c = P 2 c) ∧ (∀ c, c < 12 → σ 21 68 0 c = P 37 c) ∧ (∀ c, c < 144 → σ 21 69 0 c = P 38 c)
abbrev SK : Nat → Nat → Bool := fun o f => o == 21 && (decide (64 ≤ f) && decide (f ≤ 69))
abbrev SB : Nat → Nat → Bool := fun o f => o == 21 && (f == 2 || f == 6 || f == 8 || f == 26 || f == 37 || f == 38)
theorem KP.keep {σ σ' : Mem} {P : Pt} (h : KP σ P) (hs : ∀ f c, 64 ≤ f → f ≤ 69 → σ' 21 f 0 c = σ 21 f 0 c) : KP σ' P :=
  ⟨fun c a => (hs 64 c (by decide) (by decide)).trans (h.1 c a), fun c a => (hs 65 c (by decide) (by decide)).trans (h.2.1 c a), fun c a => (hs 66 c (by decide) (by decide)).trans (h.2.2.1 c a), fun c a => (hs 67 c (by decide) (by decide)).trans (h.2.2.2.1 c a), fun c a => (hs 68 c (by decide) (by decide)).trans (h.2.2.2.2.1 c a), fun c a => (hs 69 c (by decide) (by decide)).trans (h.2.2.2.2.2 c a)⟩
abbrev Sf (g : Nat) : Nat → Nat → Bool := fun o f => o == 21 && f == g
theorem Sf_k {g : Nat} {σ σ' : Mem} (h : same (Sf g) σ σ') {S : Nat → Nat → Bool} (hS : S 21 g = true) : same S σ σ' := h.mono (fun o f z => by
  have z' : (o == 21 && f == g) = true := z
  simp only [Bool.and_eq_true, beq_iff_eq] at z'
  rw [z'.1, z'.2]; exact hS)
section KEP
variable {G : Gl} {w : Wd} {k : Nat} {σ : Mem} {Q : Option AV → Mem → Prop} {P P' : Pt}
set_option maxRecDepth 100000 in
set_option maxHeartbeats 1000000 in
theorem kx_cp_l (hk : 6 ≤ k) {f g L z1 z2 : Nat} (hfg : f ≠ g) (hf : 1 ≤ f) (hf2 : f ≤ 80) (hg : 1 ≤ g) (hg2 : g ≤ 80) (hl : lay 8 (f - 1) = (10, L, 0, z1)) (hl2 : lay 8 (g - 1) = (10, L, 0, z2)) (hL : L ≤ 144)
    (q : ∀ σ', (∀ c, c < L → σ' 21 g 0 c = σ 21 f 0 c) → (∀ c, L ≤ c → σ' 21 g 0 c = σ 21 g 0 c) → same (Sf g) σ σ' → Q none σ') :
    ∀ (m : Nat) (i : Int) (σ' : Mem), 0 ≤ i → i ≤ L → L < i + m → (∀ c : Nat, (c : Int) < i → σ' 21 g 0 c = σ 21 f 0 c) → (∀ c : Nat, i ≤ (c : Int) → σ' 21 g 0 c = σ 21 g 0 c) → same (Sf g) σ σ' → TT G w w w k (0, 0) 201 2 [some (vr 21 f 0), some (vr 21 g 0), some (vi i)] [] σ' Q
  | 0, i, σ', h0, h1, h2, _, _, _ => by omega
  | m + 1, i, σ', h0, h1, h2, hc, hd, hs => by
    have ih := kx_cp_l hk hfg hf hf2 hg hg2 hl hl2 hL q m (i + 1)
    have f9 : ¬ f = 999 := by omega
    have g9 : ¬ g = 999 := by omega
    have f0 : ¬ f = 0 := by omega
    have g0 : ¬ g = 0 := by omega
    refine TT_vb ok201 (sm3_ok G w) 60 [2] ?_
    simp -implicitDefEqProofs only [↓b201_0, ↓b201_2, ↓b201_8, ↓b201_20, b201_0, b201_2, b201_8, b201_20, nLE4, layE8, hl, hl2, f9, g9, f0, g0, I32, ↓xb, xb, ps, lpad, lat, aok2, rd2, aaok, aav, alok, alen, aok, akk, csum, isLg, cmpI, clsE, Option.elim, eq_self, List.mem_cons, List.not_mem_nil, or_false, false_or, List.append_nil, List.nil_append, List.cons_append, List.append_eq, List.replicate, List.length_cons, List.length_nil, List.map_cons, List.map_nil, ↓reduceIte, reduceCtorEq, if_true, if_false, true_and, and_true, false_and, and_false, and_self, not_true_eq_false, not_false_eq_true, forall_const, true_implies, false_implies, implies_true, Nat.reduceAdd, Nat.reduceSub, Nat.reduceLT, Nat.reduceLeDiff, Nat.reduceEqDiff, Nat.reduceMul, Nat.reducePow, Nat.add_one_ne_zero, Nat.add_one_sub_one, Nat.add_zero, Nat.zero_add, Int.reduceLT, Int.reduceLE, Int.reduceNeg, Int.reduceAdd, Int.reduceSub, Int.reduceToNat, Int.reduceEq, Int.reduceMul, Int.reducePow, Int.cast_ofNat_Int, Int.toNat_natCast, ne_eq, Bool.false_eq_true, true_or, or_true, or_self, Nat.not_lt_zero, ite_e0, ite_e1, lc_lt, lc_ge, lc_gt, lc_le, lc_eq, Classical.not_not]
    with_reducible repeat' (first | (refine And.intro ?_ ?_) | intro _)
    all_goals try omega
    · exact q σ' (fun c h => hc c (by omega)) (fun c h => hd c (by omega)) hs
    · refine ih _ (by omega) (by omega) (by omega) (fun c h => ?_) (fun c h => ?_) (hs.put (by simp))
      · by_cases e : c = i.toNat
        · subst e
          rw [upp_eq]
          exact hs 21 f (by simp [hfg]) 0 _
        · rw [upp_nc e]; exact hc c (by omega)
      · rw [upp_nc (by omega)]; exact hd c (by omega)
set_option maxRecDepth 100000 in
set_option maxHeartbeats 1000000 in
theorem kx_cp (hk : 6 ≤ k) {f g L z1 z2 : Nat} (hfg : f ≠ g) (hf : 1 ≤ f) (hf2 : f ≤ 80) (hg : 1 ≤ g) (hg2 : g ≤ 80) (hl : lay 8 (f - 1) = (10, L, 0, z1)) (hl2 : lay 8 (g - 1) = (10, L, 0, z2)) (hL : L ≤ 144)
    (q : ∀ σ', (∀ c, c < L → σ' 21 g 0 c = σ 21 f 0 c) → (∀ c, L ≤ c → σ' 21 g 0 c = σ 21 g 0 c) → same (Sf g) σ σ' → Q none σ') : CC G w w k (0, 0) 201 [vr 21 f 0, vr 21 g 0] σ Q := by
  refine CC_vb ok201 (by decide) (sm3_ok G w) 60 [2] (Nat.le_of_ble_eq_true rfl) ?_
  simp -implicitDefEqProofs only [↓b201_0, ↓b201_2, ↓b201_8, ↓b201_20, b201_0, b201_2, b201_8, b201_20, nLE4, layE8, hk, I32, ↓xb, xb, ps, lpad, lat, aok2, rd2, aaok, aav, alok, alen, aok, akk, csum, isLg, cmpI, clsE, Option.elim, eq_self, List.mem_cons, List.not_mem_nil, or_false, false_or, List.append_nil, List.nil_append, List.cons_append, List.append_eq, List.replicate, List.length_cons, List.length_nil, List.map_cons, List.map_nil, ↓reduceIte, reduceCtorEq, if_true, if_false, true_and, and_true, false_and, and_false, and_self, not_true_eq_false, not_false_eq_true, forall_const, true_implies, false_implies, implies_true, Nat.reduceAdd, Nat.reduceSub, Nat.reduceLT, Nat.reduceLeDiff, Nat.reduceEqDiff, Nat.reduceMul, Nat.reducePow, Nat.add_one_ne_zero, Nat.add_one_sub_one, Nat.add_zero, Nat.zero_add, Int.reduceLT, Int.reduceLE, Int.reduceNeg, Int.reduceAdd, Int.reduceSub, Int.reduceToNat, Int.reduceEq, Int.reduceMul, Int.reducePow, Int.cast_ofNat_Int, Int.toNat_natCast, ne_eq, Bool.false_eq_true, true_or, or_true, or_self, Nat.not_lt_zero, ite_e0, ite_e1, lc_lt, lc_ge, lc_gt, lc_le, lc_eq, Classical.not_not]
  with_reducible repeat' (first | (refine And.intro ?_ ?_) | intro _)
  all_goals try omega
  exact kx_cp_l hk hfg hf hf2 hg hg2 hl hl2 hL q 145 0 σ (by omega) (by omega) (by omega) (fun c h => by omega) (fun c h => rfl) same.refl
set_option maxRecDepth 100000 in
set_option maxHeartbeats 1000000 in
theorem kx_cpl_l (hk : 6 ≤ k) {f g L z1 z2 : Nat} (hfg : f ≠ g) (hf : 1 ≤ f) (hf2 : f ≤ 80) (hg : 1 ≤ g) (hg2 : g ≤ 80) (hl : lay 8 (f - 1) = (11, L, 0, z1)) (hl2 : lay 8 (g - 1) = (11, L, 0, z2)) (hL : L ≤ 144)
    (q : ∀ σ', (∀ c, c < L → σ' 21 g 0 c = σ 21 f 0 c) → (∀ c, L ≤ c → σ' 21 g 0 c = σ 21 g 0 c) → same (Sf g) σ σ' → Q none σ') :
    ∀ (m : Nat) (i : Int) (σ' : Mem), 0 ≤ i → i ≤ L → L < i + m → (∀ c : Nat, (c : Int) < i → σ' 21 g 0 c = σ 21 f 0 c) → (∀ c : Nat, i ≤ (c : Int) → σ' 21 g 0 c = σ 21 g 0 c) → same (Sf g) σ σ' → TT G w w w k (0, 0) 202 2 [some (vr 21 f 0), some (vr 21 g 0), some (vi i)] [] σ' Q
  | 0, i, σ', h0, h1, h2, _, _, _ => by omega
  | m + 1, i, σ', h0, h1, h2, hc, hd, hs => by
    have ih := kx_cpl_l hk hfg hf hf2 hg hg2 hl hl2 hL q m (i + 1)
    have f9 : ¬ f = 999 := by omega
    have g9 : ¬ g = 999 := by omega
    have f0 : ¬ f = 0 := by omega
    have g0 : ¬ g = 0 := by omega
    refine TT_vb ok202 (sm3_ok G w) 60 [2] ?_
    simp -implicitDefEqProofs only [↓b202_0, ↓b202_2, ↓b202_8, ↓b202_20, b202_0, b202_2, b202_8, b202_20, nLE4, layE8, hl, hl2, f9, g9, f0, g0, I32, ↓xb, xb, ps, lpad, lat, aok2, rd2, aaok, aav, alok, alen, aok, akk, csum, isLg, cmpI, clsE, Option.elim, eq_self, List.mem_cons, List.not_mem_nil, or_false, false_or, List.append_nil, List.nil_append, List.cons_append, List.append_eq, List.replicate, List.length_cons, List.length_nil, List.map_cons, List.map_nil, ↓reduceIte, reduceCtorEq, if_true, if_false, true_and, and_true, false_and, and_false, and_self, not_true_eq_false, not_false_eq_true, forall_const, true_implies, false_implies, implies_true, Nat.reduceAdd, Nat.reduceSub, Nat.reduceLT, Nat.reduceLeDiff, Nat.reduceEqDiff, Nat.reduceMul, Nat.reducePow, Nat.add_one_ne_zero, Nat.add_one_sub_one, Nat.add_zero, Nat.zero_add, Int.reduceLT, Int.reduceLE, Int.reduceNeg, Int.reduceAdd, Int.reduceSub, Int.reduceToNat, Int.reduceEq, Int.reduceMul, Int.reducePow, Int.cast_ofNat_Int, Int.toNat_natCast, ne_eq, Bool.false_eq_true, true_or, or_true, or_self, Nat.not_lt_zero, ite_e0, ite_e1, lc_lt, lc_ge, lc_gt, lc_le, lc_eq, Classical.not_not]
    with_reducible repeat' (first | (refine And.intro ?_ ?_) | intro _)
    all_goals try omega
    · exact q σ' (fun c h => hc c (by omega)) (fun c h => hd c (by omega)) hs
    · refine ih _ (by omega) (by omega) (by omega) (fun c h => ?_) (fun c h => ?_) (hs.put (by simp))
      · by_cases e : c = i.toNat
        · subst e
          rw [upp_eq]
          exact hs 21 f (by simp [hfg]) 0 _
        · rw [upp_nc e]; exact hc c (by omega)
      · rw [upp_nc (by omega)]; exact hd c (by omega)
set_option maxRecDepth 100000 in
set_option maxHeartbeats 1000000 in
theorem kx_cpl (hk : 6 ≤ k) {f g L z1 z2 : Nat} (hfg : f ≠ g) (hf : 1 ≤ f) (hf2 : f ≤ 80) (hg : 1 ≤ g) (hg2 : g ≤ 80) (hl : lay 8 (f - 1) = (11, L, 0, z1)) (hl2 : lay 8 (g - 1) = (11, L, 0, z2)) (hL : L ≤ 144)
    (q : ∀ σ', (∀ c, c < L → σ' 21 g 0 c = σ 21 f 0 c) → (∀ c, L ≤ c → σ' 21 g 0 c = σ 21 g 0 c) → same (Sf g) σ σ' → Q none σ') : CC G w w k (0, 0) 202 [vr 21 f 0, vr 21 g 0] σ Q := by
  refine CC_vb ok202 (by decide) (sm3_ok G w) 60 [2] (Nat.le_of_ble_eq_true rfl) ?_
  simp -implicitDefEqProofs only [↓b202_0, ↓b202_2, ↓b202_8, ↓b202_20, b202_0, b202_2, b202_8, b202_20, nLE4, layE8, hk, I32, ↓xb, xb, ps, lpad, lat, aok2, rd2, aaok, aav, alok, alen, aok, akk, csum, isLg, cmpI, clsE, Option.elim, eq_self, List.mem_cons, List.not_mem_nil, or_false, false_or, List.append_nil, List.nil_append, List.cons_append, List.append_eq, List.replicate, List.length_cons, List.length_nil, List.map_cons, List.map_nil, ↓reduceIte, reduceCtorEq, if_true, if_false, true_and, and_true, false_and, and_false, and_self, not_true_eq_false, not_false_eq_true, forall_const, true_implies, false_implies, implies_true, Nat.reduceAdd, Nat.reduceSub, Nat.reduceLT, Nat.reduceLeDiff, Nat.reduceEqDiff, Nat.reduceMul, Nat.reducePow, Nat.add_one_ne_zero, Nat.add_one_sub_one, Nat.add_zero, Nat.zero_add, Int.reduceLT, Int.reduceLE, Int.reduceNeg, Int.reduceAdd, Int.reduceSub, Int.reduceToNat, Int.reduceEq, Int.reduceMul, Int.reducePow, Int.cast_ofNat_Int, Int.toNat_natCast, ne_eq, Bool.false_eq_true, true_or, or_true, or_self, Nat.not_lt_zero, ite_e0, ite_e1, lc_lt, lc_ge, lc_gt, lc_le, lc_eq, Classical.not_not]
  with_reducible repeat' (first | (refine And.intro ?_ ?_) | intro _)
  all_goals try omega
  exact kx_cpl_l hk hfg hf hf2 hg hg2 hl hl2 hL q 145 0 σ (by omega) (by omega) (by omega) (fun c h => by omega) (fun c h => rfl) same.refl
set_option maxRecDepth 100000 in
set_option maxHeartbeats 1000000 in
theorem kx_keeps (M : MR σ P) (hk : 8 ≤ k) (q : ∀ σ', KP σ' P → MR σ' P → same SK σ σ' → Q none σ') : CC G w w k (0, 0) 203 [vr 21 0 0] σ Q := by
  have rd : ∀ {S : Nat → Nat → Bool} {σ1 : Mem} {f : Nat}, same S σ σ1 → S 21 f = false → 2 ≤ f → f ≤ 38 → ∀ c, σ1 21 f 0 c = P f c := fun hs hf a b c => (hs 21 _ hf 0 c).trans (M _ c a b)
  refine CC_vb ok203 (by decide) (sm3_ok G w) 60 [] (Nat.le_of_ble_eq_true rfl) ?_
  simp -implicitDefEqProofs only [↓b203_0, ↓b203_11, ↓b203_22, ↓b203_33, ↓b203_44, ↓b203_55, ↓b203_66, b203_0, b203_11, b203_22, b203_33, b203_44, b203_55, b203_66, nLE4, layE8, hk, n3_201, n3_202, I32, ↓xb, xb, ps, lpad, lat, aok2, rd2, aaok, aav, alok, alen, aok, akk, csum, isLg, cmpI, clsE, Option.elim, eq_self, List.mem_cons, List.not_mem_nil, or_false, false_or, List.append_nil, List.nil_append, List.cons_append, List.append_eq, List.replicate, List.length_cons, List.length_nil, List.map_cons, List.map_nil, ↓reduceIte, reduceCtorEq, if_true, if_false, true_and, and_true, false_and, and_false, and_self, not_true_eq_false, not_false_eq_true, forall_const, true_implies, false_implies, implies_true, Nat.reduceAdd, Nat.reduceSub, Nat.reduceLT, Nat.reduceLeDiff, Nat.reduceEqDiff, Nat.reduceMul, Nat.reducePow, Nat.add_one_ne_zero, Nat.add_one_sub_one, Nat.add_zero, Nat.zero_add, Int.reduceLT, Int.reduceLE, Int.reduceNeg, Int.reduceAdd, Int.reduceSub, Int.reduceToNat, Int.reduceEq, Int.reduceMul, Int.reducePow, Int.cast_ofNat_Int, Int.toNat_natCast, ne_eq, Bool.false_eq_true, true_or, or_true, or_self, Nat.not_lt_zero, ite_e0, ite_e1, lc_lt, lc_ge, lc_gt, lc_le, lc_eq, Classical.not_not]
  with_reducible repeat' (first | (refine And.intro ?_ ?_) | intro _)
  all_goals try omega
  refine kx_cp (by omega) (f := 8) (g := 64) (by decide) (by decide) (by decide) (by decide) (by decide) rfl rfl (by decide) (fun σ1 a1 _ s1 => ?_)
  have t1 : same SK σ σ1 := Sf_k s1 rfl
  simp -implicitDefEqProofs only [↓b203_0, ↓b203_11, ↓b203_22, ↓b203_33, ↓b203_44, ↓b203_55, ↓b203_66, b203_0, b203_11, b203_22, b203_33, b203_44, b203_55, b203_66, nLE4, layE8, hk, n3_201, n3_202, I32, ↓xb, xb, ps, lpad, lat, aok2, rd2, aaok, aav, alok, alen, aok, akk, csum, isLg, cmpI, clsE, Option.elim, eq_self, List.mem_cons, List.not_mem_nil, or_false, false_or, List.append_nil, List.nil_append, List.cons_append, List.append_eq, List.replicate, List.length_cons, List.length_nil, List.map_cons, List.map_nil, ↓reduceIte, reduceCtorEq, if_true, if_false, true_and, and_true, false_and, and_false, and_self, not_true_eq_false, not_false_eq_true, forall_const, true_implies, false_implies, implies_true, Nat.reduceAdd, Nat.reduceSub, Nat.reduceLT, Nat.reduceLeDiff, Nat.reduceEqDiff, Nat.reduceMul, Nat.reducePow, Nat.add_one_ne_zero, Nat.add_one_sub_one, Nat.add_zero, Nat.zero_add, Int.reduceLT, Int.reduceLE, Int.reduceNeg, Int.reduceAdd, Int.reduceSub, Int.reduceToNat, Int.reduceEq, Int.reduceMul, Int.reducePow, Int.cast_ofNat_Int, Int.toNat_natCast, ne_eq, Bool.false_eq_true, true_or, or_true, or_self, Nat.not_lt_zero, ite_e0, ite_e1, lc_lt, lc_ge, lc_gt, lc_le, lc_eq, Classical.not_not]
  with_reducible repeat' (first | (refine And.intro ?_ ?_) | intro _)
  all_goals try omega
  refine kx_cp (by omega) (f := 26) (g := 65) (by decide) (by decide) (by decide) (by decide) (by decide) rfl rfl (by decide) (fun σ2 a2 _ s2 => ?_)
  have t2 : same SK σ σ2 := t1.trans (Sf_k s2 rfl)
  simp -implicitDefEqProofs only [↓b203_0, ↓b203_11, ↓b203_22, ↓b203_33, ↓b203_44, ↓b203_55, ↓b203_66, b203_0, b203_11, b203_22, b203_33, b203_44, b203_55, b203_66, nLE4, layE8, hk, n3_201, n3_202, I32, ↓xb, xb, ps, lpad, lat, aok2, rd2, aaok, aav, alok, alen, aok, akk, csum, isLg, cmpI, clsE, Option.elim, eq_self, List.mem_cons, List.not_mem_nil, or_false, false_or, List.append_nil, List.nil_append, List.cons_append, List.append_eq, List.replicate, List.length_cons, List.length_nil, List.map_cons, List.map_nil, ↓reduceIte, reduceCtorEq, if_true, if_false, true_and, and_true, false_and, and_false, and_self, not_true_eq_false, not_false_eq_true, forall_const, true_implies, false_implies, implies_true, Nat.reduceAdd, Nat.reduceSub, Nat.reduceLT, Nat.reduceLeDiff, Nat.reduceEqDiff, Nat.reduceMul, Nat.reducePow, Nat.add_one_ne_zero, Nat.add_one_sub_one, Nat.add_zero, Nat.zero_add, Int.reduceLT, Int.reduceLE, Int.reduceNeg, Int.reduceAdd, Int.reduceSub, Int.reduceToNat, Int.reduceEq, Int.reduceMul, Int.reducePow, Int.cast_ofNat_Int, Int.toNat_natCast, ne_eq, Bool.false_eq_true, true_or, or_true, or_self, Nat.not_lt_zero, ite_e0, ite_e1, lc_lt, lc_ge, lc_gt, lc_le, lc_eq, Classical.not_not]
  with_reducible repeat' (first | (refine And.intro ?_ ?_) | intro _)
  all_goals try omega
  refine kx_cp (by omega) (f := 6) (g := 66) (by decide) (by decide) (by decide) (by decide) (by decide) rfl rfl (by decide) (fun σ3 a3 _ s3 => ?_)
  have t3 : same SK σ σ3 := t2.trans (Sf_k s3 rfl)
  simp -implicitDefEqProofs only [↓b203_0, ↓b203_11, ↓b203_22, ↓b203_33, ↓b203_44, ↓b203_55, ↓b203_66, b203_0, b203_11, b203_22, b203_33, b203_44, b203_55, b203_66, nLE4, layE8, hk, n3_201, n3_202, I32, ↓xb, xb, ps, lpad, lat, aok2, rd2, aaok, aav, alok, alen, aok, akk, csum, isLg, cmpI, clsE, Option.elim, eq_self, List.mem_cons, List.not_mem_nil, or_false, false_or, List.append_nil, List.nil_append, List.cons_append, List.append_eq, List.replicate, List.length_cons, List.length_nil, List.map_cons, List.map_nil, ↓reduceIte, reduceCtorEq, if_true, if_false, true_and, and_true, false_and, and_false, and_self, not_true_eq_false, not_false_eq_true, forall_const, true_implies, false_implies, implies_true, Nat.reduceAdd, Nat.reduceSub, Nat.reduceLT, Nat.reduceLeDiff, Nat.reduceEqDiff, Nat.reduceMul, Nat.reducePow, Nat.add_one_ne_zero, Nat.add_one_sub_one, Nat.add_zero, Nat.zero_add, Int.reduceLT, Int.reduceLE, Int.reduceNeg, Int.reduceAdd, Int.reduceSub, Int.reduceToNat, Int.reduceEq, Int.reduceMul, Int.reducePow, Int.cast_ofNat_Int, Int.toNat_natCast, ne_eq, Bool.false_eq_true, true_or, or_true, or_self, Nat.not_lt_zero, ite_e0, ite_e1, lc_lt, lc_ge, lc_gt, lc_le, lc_eq, Classical.not_not]
  with_reducible repeat' (first | (refine And.intro ?_ ?_) | intro _)
  all_goals try omega
  refine kx_cp (by omega) (f := 2) (g := 67) (by decide) (by decide) (by decide) (by decide) (by decide) rfl rfl (by decide) (fun σ4 a4 _ s4 => ?_)
  have t4 : same SK σ σ4 := t3.trans (Sf_k s4 rfl)
  simp -implicitDefEqProofs only [↓b203_0, ↓b203_11, ↓b203_22, ↓b203_33, ↓b203_44, ↓b203_55, ↓b203_66, b203_0, b203_11, b203_22, b203_33, b203_44, b203_55, b203_66, nLE4, layE8, hk, n3_201, n3_202, I32, ↓xb, xb, ps, lpad, lat, aok2, rd2, aaok, aav, alok, alen, aok, akk, csum, isLg, cmpI, clsE, Option.elim, eq_self, List.mem_cons, List.not_mem_nil, or_false, false_or, List.append_nil, List.nil_append, List.cons_append, List.append_eq, List.replicate, List.length_cons, List.length_nil, List.map_cons, List.map_nil, ↓reduceIte, reduceCtorEq, if_true, if_false, true_and, and_true, false_and, and_false, and_self, not_true_eq_false, not_false_eq_true, forall_const, true_implies, false_implies, implies_true, Nat.reduceAdd, Nat.reduceSub, Nat.reduceLT, Nat.reduceLeDiff, Nat.reduceEqDiff, Nat.reduceMul, Nat.reducePow, Nat.add_one_ne_zero, Nat.add_one_sub_one, Nat.add_zero, Nat.zero_add, Int.reduceLT, Int.reduceLE, Int.reduceNeg, Int.reduceAdd, Int.reduceSub, Int.reduceToNat, Int.reduceEq, Int.reduceMul, Int.reducePow, Int.cast_ofNat_Int, Int.toNat_natCast, ne_eq, Bool.false_eq_true, true_or, or_true, or_self, Nat.not_lt_zero, ite_e0, ite_e1, lc_lt, lc_ge, lc_gt, lc_le, lc_eq, Classical.not_not]
  with_reducible repeat' (first | (refine And.intro ?_ ?_) | intro _)
  all_goals try omega
  refine kx_cpl (by omega) (f := 37) (g := 68) (by decide) (by decide) (by decide) (by decide) (by decide) rfl rfl (by decide) (fun σ5 a5 _ s5 => ?_)
  have t5 : same SK σ σ5 := t4.trans (Sf_k s5 rfl)
  simp -implicitDefEqProofs only [↓b203_0, ↓b203_11, ↓b203_22, ↓b203_33, ↓b203_44, ↓b203_55, ↓b203_66, b203_0, b203_11, b203_22, b203_33, b203_44, b203_55, b203_66, nLE4, layE8, hk, n3_201, n3_202, I32, ↓xb, xb, ps, lpad, lat, aok2, rd2, aaok, aav, alok, alen, aok, akk, csum, isLg, cmpI, clsE, Option.elim, eq_self, List.mem_cons, List.not_mem_nil, or_false, false_or, List.append_nil, List.nil_append, List.cons_append, List.append_eq, List.replicate, List.length_cons, List.length_nil, List.map_cons, List.map_nil, ↓reduceIte, reduceCtorEq, if_true, if_false, true_and, and_true, false_and, and_false, and_self, not_true_eq_false, not_false_eq_true, forall_const, true_implies, false_implies, implies_true, Nat.reduceAdd, Nat.reduceSub, Nat.reduceLT, Nat.reduceLeDiff, Nat.reduceEqDiff, Nat.reduceMul, Nat.reducePow, Nat.add_one_ne_zero, Nat.add_one_sub_one, Nat.add_zero, Nat.zero_add, Int.reduceLT, Int.reduceLE, Int.reduceNeg, Int.reduceAdd, Int.reduceSub, Int.reduceToNat, Int.reduceEq, Int.reduceMul, Int.reducePow, Int.cast_ofNat_Int, Int.toNat_natCast, ne_eq, Bool.false_eq_true, true_or, or_true, or_self, Nat.not_lt_zero, ite_e0, ite_e1, lc_lt, lc_ge, lc_gt, lc_le, lc_eq, Classical.not_not]
  with_reducible repeat' (first | (refine And.intro ?_ ?_) | intro _)
  all_goals try omega
  refine kx_cpl (by omega) (f := 38) (g := 69) (by decide) (by decide) (by decide) (by decide) (by decide) rfl rfl (by decide) (fun σ6 a6 _ s6 => ?_)
  have t6 : same SK σ σ6 := t5.trans (Sf_k s6 rfl)
  simp -implicitDefEqProofs only [↓b203_0, ↓b203_11, ↓b203_22, ↓b203_33, ↓b203_44, ↓b203_55, ↓b203_66, b203_0, b203_11, b203_22, b203_33, b203_44, b203_55, b203_66, nLE4, layE8, hk, n3_201, n3_202, I32, ↓xb, xb, ps, lpad, lat, aok2, rd2, aaok, aav, alok, alen, aok, akk, csum, isLg, cmpI, clsE, Option.elim, eq_self, List.mem_cons, List.not_mem_nil, or_false, false_or, List.append_nil, List.nil_append, List.cons_append, List.append_eq, List.replicate, List.length_cons, List.length_nil, List.map_cons, List.map_nil, ↓reduceIte, reduceCtorEq, if_true, if_false, true_and, and_true, false_and, and_false, and_self, not_true_eq_false, not_false_eq_true, forall_const, true_implies, false_implies, implies_true, Nat.reduceAdd, Nat.reduceSub, Nat.reduceLT, Nat.reduceLeDiff, Nat.reduceEqDiff, Nat.reduceMul, Nat.reducePow, Nat.add_one_ne_zero, Nat.add_one_sub_one, Nat.add_zero, Nat.zero_add, Int.reduceLT, Int.reduceLE, Int.reduceNeg, Int.reduceAdd, Int.reduceSub, Int.reduceToNat, Int.reduceEq, Int.reduceMul, Int.reducePow, Int.cast_ofNat_Int, Int.toNat_natCast, ne_eq, Bool.false_eq_true, true_or, or_true, or_self, Nat.not_lt_zero, ite_e0, ite_e1, lc_lt, lc_ge, lc_gt, lc_le, lc_eq, Classical.not_not]
  with_reducible repeat' (first | (refine And.intro ?_ ?_) | intro _)
  all_goals try omega
  refine q σ6 ⟨fun c h => ?_, fun c h => ?_, fun c h => ?_, fun c h => ?_, fun c h => ?_, fun c h => ?_⟩ (M.keep t6 (fun f a b => by
    show ((21 : Nat) == 21 && (decide (64 ≤ f) && decide (f ≤ 69))) = false
    rw [show decide (64 ≤ f) = false by simp; omega]; rfl)) t6
  · rw [s6 21 64 rfl, s5 21 64 rfl, s4 21 64 rfl, s3 21 64 rfl, s2 21 64 rfl, a1 c h]; exact M _ c (by decide) (by decide)
  · rw [s6 21 65 rfl, s5 21 65 rfl, s4 21 65 rfl, s3 21 65 rfl, a2 c h]; exact rd t1 rfl (by decide) (by decide) c
  · rw [s6 21 66 rfl, s5 21 66 rfl, s4 21 66 rfl, a3 c h]; exact rd t2 rfl (by decide) (by decide) c
  · rw [s6 21 67 rfl, s5 21 67 rfl, a4 c h]; exact rd t3 rfl (by decide) (by decide) c
  · rw [s6 21 68 rfl, a5 c h]; exact rd t4 rfl (by decide) (by decide) c
  · rw [a6 c h]; exact rd t5 rfl (by decide) (by decide) c
set_option maxRecDepth 100000 in
set_option maxHeartbeats 1000000 in
theorem kx_back (K : KP σ P) (M : MR σ P') (hP : ∀ f i, (f = 2 ∨ f = 6 ∨ f = 8 ∨ f = 26 ∨ f = 37 ∨ f = 38 → ln f ≤ i) → P' f i = P f i) (hk : 8 ≤ k) (q : ∀ σ', MR σ' P → same SB σ σ' → Q none σ') : CC G w w k (0, 0) 204 [vr 21 0 0] σ Q := by
  refine CC_vb ok204 (by decide) (sm3_ok G w) 60 [] (Nat.le_of_ble_eq_true rfl) ?_
  simp -implicitDefEqProofs only [↓b204_0, ↓b204_11, ↓b204_22, ↓b204_33, ↓b204_44, ↓b204_55, ↓b204_66, b204_0, b204_11, b204_22, b204_33, b204_44, b204_55, b204_66, nLE4, layE8, hk, n3_201, n3_202, I32, ↓xb, xb, ps, lpad, lat, aok2, rd2, aaok, aav, alok, alen, aok, akk, csum, isLg, cmpI, clsE, Option.elim, eq_self, List.mem_cons, List.not_mem_nil, or_false, false_or, List.append_nil, List.nil_append, List.cons_append, List.append_eq, List.replicate, List.length_cons, List.length_nil, List.map_cons, List.map_nil, ↓reduceIte, reduceCtorEq, if_true, if_false, true_and, and_true, false_and, and_false, and_self, not_true_eq_false, not_false_eq_true, forall_const, true_implies, false_implies, implies_true, Nat.reduceAdd, Nat.reduceSub, Nat.reduceLT, Nat.reduceLeDiff, Nat.reduceEqDiff, Nat.reduceMul, Nat.reducePow, Nat.add_one_ne_zero, Nat.add_one_sub_one, Nat.add_zero, Nat.zero_add, Int.reduceLT, Int.reduceLE, Int.reduceNeg, Int.reduceAdd, Int.reduceSub, Int.reduceToNat, Int.reduceEq, Int.reduceMul, Int.reducePow, Int.cast_ofNat_Int, Int.toNat_natCast, ne_eq, Bool.false_eq_true, true_or, or_true, or_self, Nat.not_lt_zero, ite_e0, ite_e1, lc_lt, lc_ge, lc_gt, lc_le, lc_eq, Classical.not_not]
  with_reducible repeat' (first | (refine And.intro ?_ ?_) | intro _)
  all_goals try omega
  refine kx_cp (by omega) (f := 64) (g := 8) (by decide) (by decide) (by decide) (by decide) (by decide) rfl rfl (by decide) (fun σ1 a1 b1 s1 => ?_)
  have t1 : same SB σ σ1 := Sf_k s1 rfl
  simp -implicitDefEqProofs only [↓b204_0, ↓b204_11, ↓b204_22, ↓b204_33, ↓b204_44, ↓b204_55, ↓b204_66, b204_0, b204_11, b204_22, b204_33, b204_44, b204_55, b204_66, nLE4, layE8, hk, n3_201, n3_202, I32, ↓xb, xb, ps, lpad, lat, aok2, rd2, aaok, aav, alok, alen, aok, akk, csum, isLg, cmpI, clsE, Option.elim, eq_self, List.mem_cons, List.not_mem_nil, or_false, false_or, List.append_nil, List.nil_append, List.cons_append, List.append_eq, List.replicate, List.length_cons, List.length_nil, List.map_cons, List.map_nil, ↓reduceIte, reduceCtorEq, if_true, if_false, true_and, and_true, false_and, and_false, and_self, not_true_eq_false, not_false_eq_true, forall_const, true_implies, false_implies, implies_true, Nat.reduceAdd, Nat.reduceSub, Nat.reduceLT, Nat.reduceLeDiff, Nat.reduceEqDiff, Nat.reduceMul, Nat.reducePow, Nat.add_one_ne_zero, Nat.add_one_sub_one, Nat.add_zero, Nat.zero_add, Int.reduceLT, Int.reduceLE, Int.reduceNeg, Int.reduceAdd, Int.reduceSub, Int.reduceToNat, Int.reduceEq, Int.reduceMul, Int.reducePow, Int.cast_ofNat_Int, Int.toNat_natCast, ne_eq, Bool.false_eq_true, true_or, or_true, or_self, Nat.not_lt_zero, ite_e0, ite_e1, lc_lt, lc_ge, lc_gt, lc_le, lc_eq, Classical.not_not]
  with_reducible repeat' (first | (refine And.intro ?_ ?_) | intro _)
  all_goals try omega
  refine kx_cp (by omega) (f := 65) (g := 26) (by decide) (by decide) (by decide) (by decide) (by decide) rfl rfl (by decide) (fun σ2 a2 b2 s2 => ?_)
  have t2 : same SB σ σ2 := t1.trans (Sf_k s2 rfl)
  simp -implicitDefEqProofs only [↓b204_0, ↓b204_11, ↓b204_22, ↓b204_33, ↓b204_44, ↓b204_55, ↓b204_66, b204_0, b204_11, b204_22, b204_33, b204_44, b204_55, b204_66, nLE4, layE8, hk, n3_201, n3_202, I32, ↓xb, xb, ps, lpad, lat, aok2, rd2, aaok, aav, alok, alen, aok, akk, csum, isLg, cmpI, clsE, Option.elim, eq_self, List.mem_cons, List.not_mem_nil, or_false, false_or, List.append_nil, List.nil_append, List.cons_append, List.append_eq, List.replicate, List.length_cons, List.length_nil, List.map_cons, List.map_nil, ↓reduceIte, reduceCtorEq, if_true, if_false, true_and, and_true, false_and, and_false, and_self, not_true_eq_false, not_false_eq_true, forall_const, true_implies, false_implies, implies_true, Nat.reduceAdd, Nat.reduceSub, Nat.reduceLT, Nat.reduceLeDiff, Nat.reduceEqDiff, Nat.reduceMul, Nat.reducePow, Nat.add_one_ne_zero, Nat.add_one_sub_one, Nat.add_zero, Nat.zero_add, Int.reduceLT, Int.reduceLE, Int.reduceNeg, Int.reduceAdd, Int.reduceSub, Int.reduceToNat, Int.reduceEq, Int.reduceMul, Int.reducePow, Int.cast_ofNat_Int, Int.toNat_natCast, ne_eq, Bool.false_eq_true, true_or, or_true, or_self, Nat.not_lt_zero, ite_e0, ite_e1, lc_lt, lc_ge, lc_gt, lc_le, lc_eq, Classical.not_not]
  with_reducible repeat' (first | (refine And.intro ?_ ?_) | intro _)
  all_goals try omega
  refine kx_cp (by omega) (f := 66) (g := 6) (by decide) (by decide) (by decide) (by decide) (by decide) rfl rfl (by decide) (fun σ3 a3 b3 s3 => ?_)
  have t3 : same SB σ σ3 := t2.trans (Sf_k s3 rfl)
  simp -implicitDefEqProofs only [↓b204_0, ↓b204_11, ↓b204_22, ↓b204_33, ↓b204_44, ↓b204_55, ↓b204_66, b204_0, b204_11, b204_22, b204_33, b204_44, b204_55, b204_66, nLE4, layE8, hk, n3_201, n3_202, I32, ↓xb, xb, ps, lpad, lat, aok2, rd2, aaok, aav, alok, alen, aok, akk, csum, isLg, cmpI, clsE, Option.elim, eq_self, List.mem_cons, List.not_mem_nil, or_false, false_or, List.append_nil, List.nil_append, List.cons_append, List.append_eq, List.replicate, List.length_cons, List.length_nil, List.map_cons, List.map_nil, ↓reduceIte, reduceCtorEq, if_true, if_false, true_and, and_true, false_and, and_false, and_self, not_true_eq_false, not_false_eq_true, forall_const, true_implies, false_implies, implies_true, Nat.reduceAdd, Nat.reduceSub, Nat.reduceLT, Nat.reduceLeDiff, Nat.reduceEqDiff, Nat.reduceMul, Nat.reducePow, Nat.add_one_ne_zero, Nat.add_one_sub_one, Nat.add_zero, Nat.zero_add, Int.reduceLT, Int.reduceLE, Int.reduceNeg, Int.reduceAdd, Int.reduceSub, Int.reduceToNat, Int.reduceEq, Int.reduceMul, Int.reducePow, Int.cast_ofNat_Int, Int.toNat_natCast, ne_eq, Bool.false_eq_true, true_or, or_true, or_self, Nat.not_lt_zero, ite_e0, ite_e1, lc_lt, lc_ge, lc_gt, lc_le, lc_eq, Classical.not_not]
  with_reducible repeat' (first | (refine And.intro ?_ ?_) | intro _)
  all_goals try omega
  refine kx_cp (by omega) (f := 67) (g := 2) (by decide) (by decide) (by decide) (by decide) (by decide) rfl rfl (by decide) (fun σ4 a4 b4 s4 => ?_)
  have t4 : same SB σ σ4 := t3.trans (Sf_k s4 rfl)
  simp -implicitDefEqProofs only [↓b204_0, ↓b204_11, ↓b204_22, ↓b204_33, ↓b204_44, ↓b204_55, ↓b204_66, b204_0, b204_11, b204_22, b204_33, b204_44, b204_55, b204_66, nLE4, layE8, hk, n3_201, n3_202, I32, ↓xb, xb, ps, lpad, lat, aok2, rd2, aaok, aav, alok, alen, aok, akk, csum, isLg, cmpI, clsE, Option.elim, eq_self, List.mem_cons, List.not_mem_nil, or_false, false_or, List.append_nil, List.nil_append, List.cons_append, List.append_eq, List.replicate, List.length_cons, List.length_nil, List.map_cons, List.map_nil, ↓reduceIte, reduceCtorEq, if_true, if_false, true_and, and_true, false_and, and_false, and_self, not_true_eq_false, not_false_eq_true, forall_const, true_implies, false_implies, implies_true, Nat.reduceAdd, Nat.reduceSub, Nat.reduceLT, Nat.reduceLeDiff, Nat.reduceEqDiff, Nat.reduceMul, Nat.reducePow, Nat.add_one_ne_zero, Nat.add_one_sub_one, Nat.add_zero, Nat.zero_add, Int.reduceLT, Int.reduceLE, Int.reduceNeg, Int.reduceAdd, Int.reduceSub, Int.reduceToNat, Int.reduceEq, Int.reduceMul, Int.reducePow, Int.cast_ofNat_Int, Int.toNat_natCast, ne_eq, Bool.false_eq_true, true_or, or_true, or_self, Nat.not_lt_zero, ite_e0, ite_e1, lc_lt, lc_ge, lc_gt, lc_le, lc_eq, Classical.not_not]
  with_reducible repeat' (first | (refine And.intro ?_ ?_) | intro _)
  all_goals try omega
  refine kx_cpl (by omega) (f := 68) (g := 37) (by decide) (by decide) (by decide) (by decide) (by decide) rfl rfl (by decide) (fun σ5 a5 b5 s5 => ?_)
  have t5 : same SB σ σ5 := t4.trans (Sf_k s5 rfl)
  simp -implicitDefEqProofs only [↓b204_0, ↓b204_11, ↓b204_22, ↓b204_33, ↓b204_44, ↓b204_55, ↓b204_66, b204_0, b204_11, b204_22, b204_33, b204_44, b204_55, b204_66, nLE4, layE8, hk, n3_201, n3_202, I32, ↓xb, xb, ps, lpad, lat, aok2, rd2, aaok, aav, alok, alen, aok, akk, csum, isLg, cmpI, clsE, Option.elim, eq_self, List.mem_cons, List.not_mem_nil, or_false, false_or, List.append_nil, List.nil_append, List.cons_append, List.append_eq, List.replicate, List.length_cons, List.length_nil, List.map_cons, List.map_nil, ↓reduceIte, reduceCtorEq, if_true, if_false, true_and, and_true, false_and, and_false, and_self, not_true_eq_false, not_false_eq_true, forall_const, true_implies, false_implies, implies_true, Nat.reduceAdd, Nat.reduceSub, Nat.reduceLT, Nat.reduceLeDiff, Nat.reduceEqDiff, Nat.reduceMul, Nat.reducePow, Nat.add_one_ne_zero, Nat.add_one_sub_one, Nat.add_zero, Nat.zero_add, Int.reduceLT, Int.reduceLE, Int.reduceNeg, Int.reduceAdd, Int.reduceSub, Int.reduceToNat, Int.reduceEq, Int.reduceMul, Int.reducePow, Int.cast_ofNat_Int, Int.toNat_natCast, ne_eq, Bool.false_eq_true, true_or, or_true, or_self, Nat.not_lt_zero, ite_e0, ite_e1, lc_lt, lc_ge, lc_gt, lc_le, lc_eq, Classical.not_not]
  with_reducible repeat' (first | (refine And.intro ?_ ?_) | intro _)
  all_goals try omega
  refine kx_cpl (by omega) (f := 69) (g := 38) (by decide) (by decide) (by decide) (by decide) (by decide) rfl rfl (by decide) (fun σ6 a6 b6 s6 => ?_)
  have t6 : same SB σ σ6 := t5.trans (Sf_k s6 rfl)
  simp -implicitDefEqProofs only [↓b204_0, ↓b204_11, ↓b204_22, ↓b204_33, ↓b204_44, ↓b204_55, ↓b204_66, b204_0, b204_11, b204_22, b204_33, b204_44, b204_55, b204_66, nLE4, layE8, hk, n3_201, n3_202, I32, ↓xb, xb, ps, lpad, lat, aok2, rd2, aaok, aav, alok, alen, aok, akk, csum, isLg, cmpI, clsE, Option.elim, eq_self, List.mem_cons, List.not_mem_nil, or_false, false_or, List.append_nil, List.nil_append, List.cons_append, List.append_eq, List.replicate, List.length_cons, List.length_nil, List.map_cons, List.map_nil, ↓reduceIte, reduceCtorEq, if_true, if_false, true_and, and_true, false_and, and_false, and_self, not_true_eq_false, not_false_eq_true, forall_const, true_implies, false_implies, implies_true, Nat.reduceAdd, Nat.reduceSub, Nat.reduceLT, Nat.reduceLeDiff, Nat.reduceEqDiff, Nat.reduceMul, Nat.reducePow, Nat.add_one_ne_zero, Nat.add_one_sub_one, Nat.add_zero, Nat.zero_add, Int.reduceLT, Int.reduceLE, Int.reduceNeg, Int.reduceAdd, Int.reduceSub, Int.reduceToNat, Int.reduceEq, Int.reduceMul, Int.reducePow, Int.cast_ofNat_Int, Int.toNat_natCast, ne_eq, Bool.false_eq_true, true_or, or_true, or_self, Nat.not_lt_zero, ite_e0, ite_e1, lc_lt, lc_ge, lc_gt, lc_le, lc_eq, Classical.not_not]
  with_reducible repeat' (first | (refine And.intro ?_ ?_) | intro _)
  all_goals try omega
  refine q σ6 (fun f i f1 f2 => ?_) t6
  have out : ∀ g : Nat, 2 ≤ g → g ≤ 38 → ln g ≤ i → σ 21 g 0 i = P g i := fun g a b c => (M g i a b).trans (hP g i (fun _ => c))
  by_cases e8 : f = 8
  · subst e8
    rw [s6 21 8 rfl, s5 21 8 rfl, s4 21 8 rfl, s3 21 8 rfl, s2 21 8 rfl]
    by_cases h : i < 72
    · rw [a1 i h]; exact K.1 i h
    · rw [b1 i (by omega)]; exact out 8 (by decide) (by decide) (show 72 ≤ i by omega)
  by_cases e26 : f = 26
  · subst e26
    rw [s6 21 26 rfl, s5 21 26 rfl, s4 21 26 rfl, s3 21 26 rfl]
    by_cases h : i < 20
    · rw [a2 i h, s1 21 65 rfl]; exact K.2.1 i h
    · rw [b2 i (by omega), s1 21 26 rfl]; exact out 26 (by decide) (by decide) (show 20 ≤ i by omega)
  by_cases e6 : f = 6
  · subst e6
    rw [s6 21 6 rfl, s5 21 6 rfl, s4 21 6 rfl]
    by_cases h : i < 12
    · rw [a3 i h, s2 21 66 rfl, s1 21 66 rfl]; exact K.2.2.1 i h
    · rw [b3 i (by omega), s2 21 6 rfl, s1 21 6 rfl]; exact out 6 (by decide) (by decide) (show 12 ≤ i by omega)
  by_cases e2 : f = 2
  · subst e2
    rw [s6 21 2 rfl, s5 21 2 rfl]
    by_cases h : i < 8
    · rw [a4 i h, s3 21 67 rfl, s2 21 67 rfl, s1 21 67 rfl]; exact K.2.2.2.1 i h
    · rw [b4 i (by omega), s3 21 2 rfl, s2 21 2 rfl, s1 21 2 rfl]; exact out 2 (by decide) (by decide) (show 8 ≤ i by omega)
  by_cases e37 : f = 37
  · subst e37
    rw [s6 21 37 rfl]
    by_cases h : i < 12
    · rw [a5 i h, t4 21 68 rfl]; exact K.2.2.2.2.1 i h
    · rw [b5 i (by omega), s4 21 37 rfl, s3 21 37 rfl, s2 21 37 rfl, s1 21 37 rfl]; exact out 37 (by decide) (by decide) (show 12 ≤ i by omega)
  by_cases e38 : f = 38
  · subst e38
    by_cases h : i < 144
    · rw [a6 i h, t5 21 69 rfl]; exact K.2.2.2.2.2 i h
    · rw [b6 i (by omega), s5 21 38 rfl, s4 21 38 rfl, s3 21 38 rfl, s2 21 38 rfl, s1 21 38 rfl]; exact out 38 (by decide) (by decide) (show 144 ≤ i by omega)
  rw [t6 21 f (by
    show ((21 : Nat) == 21 && (f == 2 || f == 6 || f == 8 || f == 26 || f == 37 || f == 38)) = false
    simp; omega) 0 i, M f i f1 f2]
  exact hP f i (fun z => by omega)
end KEP

/-! 27.serve: a need has what it can have (class) -/
def KQ (P P' : Pt) : Prop := WF P' ∧ ∀ f i, f ≠ 8 → f ≠ 26 → f ≠ 37 → f ≠ 38 → P' f i = P f i
theorem KQ.refl {P : Pt} (W : WF P) : KQ P P := ⟨W, fun _ _ _ _ _ _ => rfl⟩
theorem KQ.trans {P P' P'' : Pt} (h : KQ P P') (h' : KQ P' P'') : KQ P P'' := ⟨h'.1, fun f i a b c d => (h'.2 f i a b c d).trans (h.2 f i a b c d)⟩
theorem KQ.put8 {P P' : Pt} (h : KQ P P') {i : Nat} {v : Int} (hv : 0 ≤ v ∧ v ≤ 99999) : KQ P (pu P' 8 i v) := ⟨h.1.pu8 hv, fun f j a b c d => (pu_nf a).trans (h.2 f j a b c d)⟩
theorem KQ.put38 {P P' : Pt} (h : KQ P P') {i : Nat} {v : Int} : KQ P (pu P' 38 i v) := ⟨h.1.pu38, fun f j a b c d => (pu_nf d).trans (h.2 f j a b c d)⟩
theorem KQ.put37 {P P' : Pt} (h : KQ P P') {i : Nat} {v : Int} : KQ P (pu P' 37 i v) := ⟨h.1.pu37, fun f j a b c d => (pu_nf c).trans (h.2 f j a b c d)⟩
theorem KQ.put26 {P P' : Pt} (h : KQ P P') {i : Nat} {v : Int} (hv : 0 ≤ v ∧ v ≤ P' 25 i) (hi : (i : Int) < P' 2 3) : KQ P (pu P' 26 i v) := ⟨h.1.pu26 hv hi, fun f j a b c d => (pu_nf b).trans (h.2 f j a b c d)⟩
theorem K8.kq {P P' : Pt} (h : K8 P P') : KQ P P' := ⟨h.1, fun f i a _ _ _ => h.2 f i a⟩
theorem cob_ext {P P' : Pt} {a b : Int} (h3 : ∀ i, P' 23 i = P 23 i) (h4 : ∀ i, P' 24 i = P 24 i) : ∀ n : Nat, cobP P' a b n = cobP P a b n
  | 0 => rfl
  | n + 1 => by
    have ih := cob_ext (a := a) (b := b) h3 h4 n
    show (if cobP P' a b n ≠ -1 then cobP P' a b n else if (P' 23 n = a ∧ P' 24 n = b) ∨ (P' 23 n = b ∧ P' 24 n = a) then (n : Int) else -1) = _
    rw [ih, h3, h4]
    rfl
theorem N38.put {P : Pt} (h : N38 P) {i : Nat} {x : Int} : N38 (pu P 38 i (w64 x)) := fun j => by
  unfold pu
  split
  · exact w64_w64
  · exact h j
theorem N38.keep {P : Pt} (h : N38 P) {f i : Nat} {x : Int} (hf : 38 ≠ f) : N38 (pu P f i x) := fun j => by
  rw [pu_nf hf]; exact h j
theorem soP_ne {P : Pt} {f : Int} (n : Nat) : 0 ≤ (soP P f n).2 ∧ ∀ c : Nat, c < (soP P f n).2.toNat → (soP P f n).1 c ≠ f := by
  refine iter_inv (st := soS P f) (I := fun _ s => 0 ≤ s.2 ∧ ∀ c : Nat, c < s.2.toNat → s.1 c ≠ f) ⟨by simp, fun c hc => by simp at hc⟩ ?_
  intro i s hi ⟨h1, h3⟩
  unfold soS
  split
  · exact ⟨h1, h3⟩
  · rename_i hne
    refine ⟨by show 0 ≤ s.2 + 1; omega, fun c hc => ?_⟩
    have hc' : c < (s.2 + 1).toNat := hc
    exact insA_mem (X := fun x => x ≠ f) hne h3 c (by omega)
/-- the house at place j of those that a house asks -/
def nrP (P : Pt) (h : Int) (j : Nat) : Int := (soP P h (P 2 0).toNat).1 j
theorem nr_r {P : Pt} (W : WF P) {h : Int} (hh : 0 ≤ h ∧ h < P 2 0) {j : Nat} (hj : (j : Int) < P 2 0 - 1) : 0 ≤ nrP P h j ∧ nrP P h j < P 2 0 ∧ nrP P h j ≠ h := by
  have w := W.sc.1
  have c := soP_cnt (P := P) hh.1 (P 2 0).toNat
  rw [if_pos (by omega)] at c
  have a := (soP_inv (P := P) (f := h) (P 2 0).toNat).2.2 j (by omega)
  have b := (soP_ne (P := P) (f := h) (P 2 0).toNat).2 j (by omega)
  unfold nrP
  exact ⟨a.1, by omega, b⟩
noncomputable def gftP (U : RU) (kd : Int) (P : Pt) (n : Nat) (o lack : Int) : Int := if kd = 2 then min lack (P 8 (6 * o + P 10 n).toNat) else giP U P n o lack
noncomputable def gstP (kd : Int) (P : Pt) (n : Nat) (o v : Int) : Pt := if kd = 2 then pu (pu P 8 (6 * o + P 10 n).toNat (P 8 (6 * o + P 10 n).toNat - v)) 38 (12 * o + P 9 n).toNat (w64 (P 38 (12 * o + P 9 n).toNat + v)) else gvP P n o v
noncomputable def sgP (U : RU) (kd : Int) (nr : Nat → Int) (n : Nat) (j : Nat) (s : Pt × Int) : Pt × Int := if 0 < s.2 then (gstP kd s.1 n (nr j) (gftP U kd s.1 n (nr j) s.2), s.2 - gftP U kd s.1 n (nr j) s.2) else s
/-- what the giving keeps -/
def GI (P1 : Pt) (n : Nat) (s : Pt × Int) : Prop := KQ P1 s.1 ∧ N38 s.1 ∧ (∀ c : Int, 0 ≤ c → c < 6 → s.1 8 (6 * P1 9 n + c).toNat = P1 8 (6 * P1 9 n + c).toNat) ∧ 0 ≤ s.2 ∧ s.2 ≤ 999
theorem gft_r {U : RU} {kd : Int} {P : Pt} (W : WF P) (hU : 0 ≤ U.2) {n : Nat} (hn : (n : Int) < P 2 1) {o lack : Int} (ho : 0 ≤ o ∧ o < P 2 0) (hl : 0 < lack) : 0 ≤ gftP U kd P n o lack ∧ gftP U kd P n o lack ≤ lack ∧ gftP U kd P n o lack ≤ P 8 (6 * o + P 10 n).toNat := by
  have w1 := W.sc.1
  obtain ⟨d1, d2, d3, d4, d5, d6, d7⟩ := W.nd (n := n) hn
  have sb := W.st (n := (6 * o + P 10 n).toNat) (by omega)
  unfold gftP giP moP
  (repeat' split) <;> omega
theorem sg_step {U : RU} {kd : Int} {P1 : Pt} (hU : 0 ≤ U.2) {n : Nat} (hn : (n : Int) < P1 2 1) {nr : Nat → Int} {j : Nat} (hj : 0 ≤ nr j ∧ nr j < P1 2 0 ∧ nr j ≠ P1 9 n) {s : Pt × Int} (h : GI P1 n s) : GI P1 n (sgP U kd nr n j s) := by
  obtain ⟨k1, k2, k3, k4, k5⟩ := h
  unfold sgP
  by_cases hl : 0 < s.2
  · rw [if_pos hl]
    have e0 := k1.2 2 0 (by decide) (by decide) (by decide) (by decide)
    have e1 := k1.2 2 1 (by decide) (by decide) (by decide) (by decide)
    have e9 := k1.2 9 n (by decide) (by decide) (by decide) (by decide)
    have w1 := k1.1.sc.1
    have w3 := k1.1.sc.2.2.2.1
    obtain ⟨d1, d2, d3, d4, d5, d6, d7⟩ := k1.1.nd (n := n) (by omega)
    have sb := k1.1.st (n := (6 * nr j + s.1 10 n).toNat) (by omega)
    have gr := gft_r (kd := kd) k1.1 hU (n := n) (by omega) (o := nr j) (lack := s.2) (by omega) hl
    have cell : ∀ c : Int, 0 ≤ c → c < 6 → (6 * P1 9 n + c).toNat ≠ (6 * nr j + s.1 10 n).toNat := fun c h1 h2 => by omega
    by_cases hk : kd = 2
    · have es : gstP kd s.1 n (nr j) (gftP U kd s.1 n (nr j) s.2) = pu (pu s.1 8 (6 * nr j + s.1 10 n).toNat (s.1 8 (6 * nr j + s.1 10 n).toNat - gftP U kd s.1 n (nr j) s.2)) 38 (12 * nr j + s.1 9 n).toNat (w64 (s.1 38 (12 * nr j + s.1 9 n).toNat + gftP U kd s.1 n (nr j) s.2)) := if_pos hk
      rw [es]
      refine ⟨(k1.put8 (by omega)).put38, (k2.keep (by decide)).put, fun c h1 h2 => ?_, by show 0 ≤ s.2 - _; omega, by show s.2 - _ ≤ 999; omega⟩
      exact (pu_ni (cell c h1 h2)).trans (k3 c h1 h2)
    · have es : gstP kd s.1 n (nr j) (gftP U kd s.1 n (nr j) s.2) = gvP s.1 n (nr j) (gftP U kd s.1 n (nr j) s.2) := if_neg hk
      rw [es]
      by_cases hz : gftP U kd s.1 n (nr j) s.2 = 0
      · rw [hz, gvP_0 k2]
        exact ⟨k1, k2, k3, by show 0 ≤ s.2 - 0; omega, by show s.2 - 0 ≤ 999; omega⟩
      · unfold gvP
        by_cases hg : s.1 10 n = 0
        · rw [if_pos hg]
          have hgi : gftP U kd s.1 n (nr j) s.2 = giP U s.1 n (nr j) s.2 := if_neg hk
          have cr : ccP s.1 n (nr j) = -1 ∨ (0 ≤ ccP s.1 n (nr j) ∧ ccP s.1 n (nr j) < (s.1 2 3).toNat) := cob_r _
          have hcc : 0 ≤ ccP s.1 n (nr j) ∧ ccP s.1 n (nr j) < (s.1 2 3).toNat := cr.resolve_left (fun z => hz (by rw [hgi]; exact if_pos (Or.inl ⟨hg, z⟩)))
          obtain ⟨b1, b2, b3, b4, b5⟩ := k1.1.cb (n := (ccP s.1 n (nr j)).toNat) (by omega)
          have hle : gftP U kd s.1 n (nr j) s.2 ≤ s.1 25 (ccP s.1 n (nr j)).toNat - s.1 26 (ccP s.1 n (nr j)).toNat := by
            rw [hgi]; unfold giP moP
            rw [if_pos hg]
            split <;> omega
          refine ⟨((k1.put8 (by omega)).put38).put26 ?_ ?_, ((k2.keep (by decide)).put).keep (by decide), fun c h1 h2 => ?_, by show 0 ≤ s.2 - _; omega, by show s.2 - _ ≤ 999; omega⟩
          · show 0 ≤ s.1 26 (ccP s.1 n (nr j)).toNat + _ ∧ s.1 26 (ccP s.1 n (nr j)).toNat + _ ≤ s.1 25 (ccP s.1 n (nr j)).toNat
            omega
          · show (((ccP s.1 n (nr j)).toNat : Nat) : Int) < s.1 2 3
            omega
          · exact (pu_ni (cell c h1 h2)).trans (k3 c h1 h2)
        · rw [if_neg hg]
          refine ⟨(k1.put8 (by omega)).put38, (k2.keep (by decide)).put, fun c h1 h2 => ?_, by show 0 ≤ s.2 - _; omega, by show s.2 - _ ≤ 999; omega⟩
          exact (pu_ni (cell c h1 h2)).trans (k3 c h1 h2)
  · rw [if_neg hl]
    exact ⟨k1, k2, k3, k4, k5⟩
theorem sg_stay {U : RU} {kd : Int} {nr : Nat → Int} {n : Nat} {s : Pt × Int} (h : ¬ 0 < s.2) {i : Nat} : ∀ d : Nat, ∀ a : Pt × Int, iter (sgP U kd nr n) i a = s → iter (sgP U kd nr n) (i + d) a = s
  | 0, a, e => e
  | d + 1, a, e => by
    have ih := sg_stay h d a e
    show sgP U kd nr n (i + d) (iter (sgP U kd nr n) (i + d) a) = s
    rw [ih]
    exact if_neg h
theorem RT.f38 {g : Prop} {σ : Mem} {t : Nat} {P : Pt} (R : RT g σ t P) (hg : ¬ g) {i : Nat} {v : Int} : RT g σ t (pu P 38 i v) := fun f j h q => by
  rw [pu_nf (fun e => hg (q e))]; exact R f j h q

noncomputable def svO (P : Pt) (n : Nat) : Int := min (P 11 n) (P 8 (6 * P 9 n + P 10 n).toNat)
noncomputable def svG (U : RU) (kd : Int) (nr : Nat → Int) (n : Nat) (P : Pt) : Pt × Int := if kd = 2 ∨ (kd = 0 ∧ P 15 n = 1) then iter (sgP U kd nr n) (P 2 0 - 1).toNat (pu P 8 (6 * P 9 n + P 10 n).toNat (P 8 (6 * P 9 n + P 10 n).toNat - svO P n), P 11 n - svO P n) else (pu P 8 (6 * P 9 n + P 10 n).toNat (P 8 (6 * P 9 n + P 10 n).toNat - svO P n), P 11 n - svO P n)
/-- a need is served: the state then, and the harm -/
noncomputable def svP (U : RU) (kd : Int) (nr : Nat → Int) (n : Nat) (P : Pt) : Pt := pu (svG U kd nr n P).1 37 (P 9 n).toNat (w64 ((svG U kd nr n P).1 37 (P 9 n).toNat + w64 ((svG U kd nr n P).2 * P 12 n)))
noncomputable def svH (U : RU) (kd : Int) (nr : Nat → Int) (n : Nat) (P : Pt) : Int := w64 ((svG U kd nr n P).2 * P 12 n)
section SRV
variable {G : Gl} {w : Wd} {k : Nat} {σ : Mem} {Q : Option AV → Mem → Prop} {P P1 : Pt} {g : Prop} {t ro : Nat} {U : RU} {kd : Int} {nr : Nat → Int}
set_option maxRecDepth 100000 in
set_option maxHeartbeats 1000000 in
theorem kc_sv_end (hk : 8 ≤ k) (ht : t = 1 ∨ t = 2) {n : Nat} {s : Pt × Int} {σ' : Mem} (R : RT (¬ kd = 2) σ' t s.1) (W : WF s.1) (hn : (n : Int) < s.1 2 1) {a9 : Int} {l0 l2 l3 l6 l7 l10 l11 : Option AV} (q : RT (¬ kd = 2) (up σ' t 20 0 (s.1 9 n).toNat (w64 (s.1 37 (s.1 9 n).toNat + w64 (s.2 * s.1 12 n)))) t (pu s.1 37 (s.1 9 n).toNat (w64 (s.1 37 (s.1 9 n).toNat + w64 (s.2 * s.1 12 n)))) → Q (some (vl (w64 (s.2 * s.1 12 n)))) (up σ' t 20 0 (s.1 9 n).toNat (w64 (s.1 37 (s.1 9 n).toNat + w64 (s.2 * s.1 12 n))))) :
    TT G w w w k (0, 0) 12 168 [l0, some (vr t 0 0), l2, l3, some (vr t 11 (n + 1)), some (vi (s.1 9 n)), l6, l7, some (vi s.2), some (vi a9), l10, l11] [] σ' Q := by
  obtain ⟨hc, h22, n8, n8', n21, n21'⟩ := t_facts ht
  have w1 := W.sc.1; have w2 := W.sc.2.1
  obtain ⟨d1, d2, d3, d4, d5, d6, d7⟩ := W.nd (n := n) hn
  have s3 := R.need3 (n := n) (by omega)
  have hh := R.harm (h := (s.1 9 n).toNat) (by omega)
  have e := R.u_harm (h := (s.1 9 n).toNat) (v := w64 (s.1 37 (s.1 9 n).toNat + w64 (s.2 * s.1 12 n))) (by omega)
  refine TT_vb ok12 (sm3_ok G w) 60 [] ?_
  simp -implicitDefEqProofs only [↓b12_0, ↓b12_13, ↓b12_29, ↓b12_57, ↓b12_62, ↓b12_71, ↓b12_75, ↓b12_76, ↓b12_83, ↓b12_88, ↓b12_95, ↓b12_98, ↓b12_109, ↓b12_114, ↓b12_121, ↓b12_133, ↓b12_144, ↓b12_147, ↓b12_159, ↓b12_168, b12_0, b12_13, b12_29, b12_57, b12_62, b12_71, b12_75, b12_76, b12_83, b12_88, b12_95, b12_98, b12_109, b12_114, b12_121, b12_133, b12_144, b12_147, b12_159, b12_168, nLE0, layE1, layE4, layE3, hc, h22, s3, hh, n3_16, n3_13, n3_14, I32, ↓xb, xb, ps, lpad, lat, aok2, rd2, aaok, aav, alok, alen, aok, akk, csum, isLg, cmpI, clsE, Option.elim, eq_self, List.mem_cons, List.not_mem_nil, or_false, false_or, List.append_nil, List.nil_append, List.cons_append, List.append_eq, List.replicate, List.length_cons, List.length_nil, List.map_cons, List.map_nil, ↓reduceIte, reduceCtorEq, if_true, if_false, true_and, and_true, false_and, and_false, and_self, not_true_eq_false, not_false_eq_true, forall_const, true_implies, false_implies, implies_true, Nat.reduceAdd, Nat.reduceSub, Nat.reduceLT, Nat.reduceLeDiff, Nat.reduceEqDiff, Nat.reduceMul, Nat.reducePow, Nat.add_one_ne_zero, Nat.add_one_sub_one, Nat.add_zero, Nat.zero_add, Int.reduceLT, Int.reduceLE, Int.reduceNeg, Int.reduceAdd, Int.reduceSub, Int.reduceToNat, Int.reduceEq, Int.reduceMul, Int.reducePow, Int.cast_ofNat_Int, Int.toNat_natCast, ne_eq, Bool.false_eq_true, true_or, or_true, or_self, Nat.not_lt_zero, ite_e0, ite_e1, lc_lt, lc_ge, lc_gt, lc_le, lc_eq, Classical.not_not]
  with_reducible repeat' (first | (refine And.intro ?_ ?_) | intro _)
  all_goals try omega
  all_goals exact q e
set_option maxRecDepth 100000 in
set_option maxHeartbeats 1000000 in
theorem kc_sv_l (ht : t = 1 ∨ t = 2) (hr : 13 ≤ ro ∧ ro ≤ 20) (hk : 16 ≤ k) (hkd : kd = 0 ∨ kd = 2) {n : Nat} (hn : (n : Int) < P1 2 1) (W1 : WF P1) (hU2 : 0 ≤ U.2) {s0 : Pt × Int} (h0 : GI P1 n s0) (hnr : ∀ j : Nat, (j : Int) < P1 2 0 - 1 → 0 ≤ nr j ∧ nr j < P1 2 0 ∧ nr j ≠ P1 9 n)
    (q : ∀ (σ' : Mem) (l10 l11 : Option AV), RT (¬ kd = 2) σ' t (iter (sgP U kd nr n) (P1 2 0 - 1).toNat s0).1 → same (SQ t ro) σ σ' → TT G w w w k (0, 0) 12 168 [some (vr 8 0 0), some (vr t 0 0), some (vr ro 0 0), some (vi kd), some (vr t 11 (n + 1)), some (vi (P1 9 n)), some (vr t 9 ((P1 9 n).toNat + 1)), some (vi (svO P n)), some (vi (iter (sgP U kd nr n) (P1 2 0 - 1).toNat s0).2), some (vi 1), l10, l11] [] σ' Q) :
    ∀ (m : Nat) (j : Int) (σ' : Mem) (l11 : Option AV), 0 ≤ j → j ≤ P1 2 0 - 1 → P1 2 0 - 1 < j + m → RuC G w 6 ro U σ' → RT (¬ kd = 2) σ' t (iter (sgP U kd nr n) j.toNat s0).1 → (∀ a b : Int, 0 ≤ a ∧ a < 12 → 0 ≤ b ∧ b < 12 → σ' t 14 (a.toNat + 1) b.toNat = cobP P1 a b (P1 2 3).toNat + 1) → (∀ j : Nat, (j : Int) < P1 2 0 - 1 → σ' t 10 ((P1 9 n).toNat + 1) j = nr j) → (kd = 0 → ∀ i, i < 10 → i ≠ 8 → wd σ' i = wN P1 n 0 i) → same (SQ t ro) σ σ' → TT G w w w k (0, 0) 12 98 [some (vr 8 0 0), some (vr t 0 0), some (vr ro 0 0), some (vi kd), some (vr t 11 (n + 1)), some (vi (P1 9 n)), some (vr t 9 ((P1 9 n).toNat + 1)), some (vi (svO P n)), some (vi (iter (sgP U kd nr n) j.toNat s0).2), some (vi 1), some (vi j), l11] [] σ' Q
  | 0, j, σ', l11, h1, h2, h3, _, _, _, _, _, _ => by omega
  | m + 1, j, σ', l11, h1, h2, h3, hU, R, Wr, Nr, hw, hs => by
    have ih := kc_sv_l ht hr hk hkd hn W1 hU2 h0 hnr q m (j + 1)
    rw [iter_toNat _ h1] at ih
    obtain ⟨hc, h22, n8, n8', n21, n21'⟩ := t_facts ht
    obtain ⟨rc, r22, m8, m8', m1, m2⟩ := r_facts hr
    have gi : GI P1 n (iter (sgP U kd nr n) j.toNat s0) := iter_inv (I := fun _ s => GI P1 n s) h0 (fun i b hi hb => sg_step hU2 hn (hnr i (by omega)) hb)
    have stay := sg_stay (U := U) (kd := kd) (nr := nr) (n := n) (s := iter (sgP U kd nr n) j.toNat s0) (i := j.toNat)
    have hst : sgP U kd nr n j.toNat (iter (sgP U kd nr n) j.toNat s0) = if 0 < (iter (sgP U kd nr n) j.toNat s0).2 then (gstP kd (iter (sgP U kd nr n) j.toNat s0).1 n (nr j.toNat) (gftP U kd (iter (sgP U kd nr n) j.toNat s0).1 n (nr j.toNat) (iter (sgP U kd nr n) j.toNat s0).2), (iter (sgP U kd nr n) j.toNat s0).2 - gftP U kd (iter (sgP U kd nr n) j.toNat s0).1 n (nr j.toNat) (iter (sgP U kd nr n) j.toNat s0).2) else iter (sgP U kd nr n) j.toNat s0 := rfl
    have ex : (j = P1 2 0 - 1 ∨ ¬ 0 < (iter (sgP U kd nr n) j.toNat s0).2) → iter (sgP U kd nr n) (P1 2 0 - 1).toNat s0 = iter (sgP U kd nr n) j.toNat s0 := fun z => by
      rcases z with z | z
      · rw [z]
      · have := stay z ((P1 2 0 - 1).toNat - j.toNat) s0 rfl
        rw [show j.toNat + ((P1 2 0 - 1).toNat - j.toNat) = (P1 2 0 - 1).toNat by omega] at this
        exact this
    have w1 := W1.sc.1
    have w2 := W1.sc.2.1
    revert ih R gi hst ex
    clear stay
    generalize iter (sgP U kd nr n) j.toNat s0 = s
    intro R ih gi hst ex
    obtain ⟨⟨W, kf⟩, N, cells, l0, l9⟩ := gi
    have e0 := R.houses.trans (kf 2 0 (by decide) (by decide) (by decide) (by decide))
    have f0 := kf 2 0 (by decide) (by decide) (by decide) (by decide)
    have f1 := kf 2 1 (by decide) (by decide) (by decide) (by decide)
    have f3 := kf 2 3 (by decide) (by decide) (by decide) (by decide)
    have f9 := kf 9 n (by decide) (by decide) (by decide) (by decide)
    have fA := kf 10 n (by decide) (by decide) (by decide) (by decide)
    have fex : ∀ (l10 l11 : Option AV), (j = P1 2 0 - 1 ∨ ¬ 0 < s.2) → TT G w w w k (0, 0) 12 168 [some (vr 8 0 0), some (vr t 0 0), some (vr ro 0 0), some (vi kd), some (vr t 11 (n + 1)), some (vi (P1 9 n)), some (vr t 9 ((P1 9 n).toNat + 1)), some (vi (svO P n)), some (vi s.2), some (vi 1), l10, l11] [] σ' Q := fun a b z => by
      have := q σ' a b (by rw [ex z]; exact R) hs
      rw [ex z] at this
      exact this
    by_cases hj : j < P1 2 0 - 1
    · by_cases hl : 0 < s.2
      · rw [if_pos hl] at hst
        rw [hst] at ih
        have nj := Nr j.toNat (by omega)
        obtain ⟨o1, o2, o3⟩ := hnr j.toNat (by omega)
        obtain ⟨d1, d2, d3, d4, d5, d6, d7⟩ := W.nd (n := n) (by omega)
        have gr := gft_r (U := U) (kd := kd) W hU2 (n := n) (by omega) (o := nr j.toNat) (lack := s.2) (by omega) hl
        refine TT_vb ok12 (sm3_ok G w) 60 [98, 168] ?_
        simp -implicitDefEqProofs only [↓b12_0, ↓b12_13, ↓b12_29, ↓b12_57, ↓b12_62, ↓b12_71, ↓b12_75, ↓b12_76, ↓b12_83, ↓b12_88, ↓b12_95, ↓b12_98, ↓b12_109, ↓b12_114, ↓b12_121, ↓b12_133, ↓b12_144, ↓b12_147, ↓b12_159, ↓b12_168, b12_0, b12_13, b12_29, b12_57, b12_62, b12_71, b12_75, b12_76, b12_83, b12_88, b12_95, b12_98, b12_109, b12_114, b12_121, b12_133, b12_144, b12_147, b12_159, b12_168, nLE0, layE1, layE4, layE3, hc, h22, rc, r22, e0, nj, n3_16, n3_13, n3_14, I32, ↓xb, xb, ps, lpad, lat, aok2, rd2, aaok, aav, alok, alen, aok, akk, csum, isLg, cmpI, clsE, Option.elim, eq_self, List.mem_cons, List.not_mem_nil, or_false, false_or, List.append_nil, List.nil_append, List.cons_append, List.append_eq, List.replicate, List.length_cons, List.length_nil, List.map_cons, List.map_nil, ↓reduceIte, reduceCtorEq, if_true, if_false, true_and, and_true, false_and, and_false, and_self, not_true_eq_false, not_false_eq_true, forall_const, true_implies, false_implies, implies_true, Nat.reduceAdd, Nat.reduceSub, Nat.reduceLT, Nat.reduceLeDiff, Nat.reduceEqDiff, Nat.reduceMul, Nat.reducePow, Nat.add_one_ne_zero, Nat.add_one_sub_one, Nat.add_zero, Nat.zero_add, Int.reduceLT, Int.reduceLE, Int.reduceNeg, Int.reduceAdd, Int.reduceSub, Int.reduceToNat, Int.reduceEq, Int.reduceMul, Int.reducePow, Int.cast_ofNat_Int, Int.toNat_natCast, ne_eq, Bool.false_eq_true, true_or, or_true, or_self, Nat.not_lt_zero, ite_e0, ite_e1, lc_lt, lc_ge, lc_gt, lc_le, lc_eq, Classical.not_not]
        with_reducible repeat' (first | (refine And.intro ?_ ?_) | intro _)
        all_goals try omega
        · have k0 : kd = 0 := by omega
          have R' : RT True σ' t s.1 := R.weak (fun _ => by omega)
          refine kc_take (n := n) (o := nr j.toNat) (lack := s.2) R' W N (fun a b ha hb => by
              rw [Wr a b ha hb, f3, cob_ext (fun i => kf 23 i (by decide) (by decide) (by decide) (by decide)) (fun i => kf 24 i (by decide) (by decide) (by decide) (by decide))]) ht hr hU (by omega) (by omega) (by omega) (by omega) (by omega) (fun i hi h8 => ?_) (fun σ2 R2 hs2 hw2 => ?_)
          · rw [hw k0 i hi h8]
            have c1 := cells 1 (by omega) (by omega)
            have c2 := cells (P1 10 n) (by omega) (by omega)
            have g12 := kf 12 n (by decide) (by decide) (by decide) (by decide)
            have g26 := kf 2 6 (by decide) (by decide) (by decide) (by decide)
            have g27 := kf 2 7 (by decide) (by decide) (by decide) (by decide)
            have g5 := kf 5 (P1 9 n).toNat (by decide) (by decide) (by decide) (by decide)
            unfold wN wH
            rw [f9, fA, g12, g26, g27, g5, c1, c2]
          · have eg : gftP U kd s.1 n (nr j.toNat) s.2 = giP U s.1 n (nr j.toNat) s.2 := if_neg (by omega)
            have et : gstP kd s.1 n (nr j.toNat) (gftP U kd s.1 n (nr j.toNat) s.2) = gvP s.1 n (nr j.toNat) (giP U s.1 n (nr j.toNat) s.2) := by
              rw [eg]; exact if_neg (by omega)
            rw [eg] at gr
            rw [et, eg] at ih
            simp -implicitDefEqProofs only [↓b12_0, ↓b12_13, ↓b12_29, ↓b12_57, ↓b12_62, ↓b12_71, ↓b12_75, ↓b12_76, ↓b12_83, ↓b12_88, ↓b12_95, ↓b12_98, ↓b12_109, ↓b12_114, ↓b12_121, ↓b12_133, ↓b12_144, ↓b12_147, ↓b12_159, ↓b12_168, b12_0, b12_13, b12_29, b12_57, b12_62, b12_71, b12_75, b12_76, b12_83, b12_88, b12_95, b12_98, b12_109, b12_114, b12_121, b12_133, b12_144, b12_147, b12_159, b12_168, nLE0, layE1, layE4, layE3, hc, h22, rc, r22, n3_16, n3_13, n3_14, I32, ↓xb, xb, ps, lpad, lat, aok2, rd2, aaok, aav, alok, alen, aok, akk, csum, isLg, cmpI, clsE, Option.elim, eq_self, List.mem_cons, List.not_mem_nil, or_false, false_or, List.append_nil, List.nil_append, List.cons_append, List.append_eq, List.replicate, List.length_cons, List.length_nil, List.map_cons, List.map_nil, ↓reduceIte, reduceCtorEq, if_true, if_false, true_and, and_true, false_and, and_false, and_self, not_true_eq_false, not_false_eq_true, forall_const, true_implies, false_implies, implies_true, Nat.reduceAdd, Nat.reduceSub, Nat.reduceLT, Nat.reduceLeDiff, Nat.reduceEqDiff, Nat.reduceMul, Nat.reducePow, Nat.add_one_ne_zero, Nat.add_one_sub_one, Nat.add_zero, Nat.zero_add, Int.reduceLT, Int.reduceLE, Int.reduceNeg, Int.reduceAdd, Int.reduceSub, Int.reduceToNat, Int.reduceEq, Int.reduceMul, Int.reducePow, Int.cast_ofNat_Int, Int.toNat_natCast, ne_eq, Bool.false_eq_true, true_or, or_true, or_self, Nat.not_lt_zero, ite_e0, ite_e1, lc_lt, lc_ge, lc_gt, lc_le, lc_eq, Classical.not_not]
            with_reducible repeat' (first | (refine And.intro ?_ ?_) | intro _)
            all_goals try omega
            refine ih σ2 _ (by omega) (by omega) (by omega) (hU.sq ht hr hs2) (R2.weak (fun _ => trivial)) (fun a b ha hb => ?_) (fun j hj => ?_) (fun _ i hi h8 => (hw2 i hi h8).trans (hw k0 i hi h8)) (hs.trans hs2)
            · rw [hs2 t 14 (by unfold SQ; simp [n8]) _ _]; exact Wr a b ha hb
            · rw [hs2 t 10 (by unfold SQ; simp [n8]) _ _]; exact Nr j hj
        · have k2 : kd = 2 := by omega
          refine kc_takeAll (n := n) (o := nr j.toNat) (lack := s.2) R W ht (by omega) (by omega) (by omega) (by omega) ?_
          have eg : gftP U kd s.1 n (nr j.toNat) s.2 = min s.2 (s.1 8 (6 * nr j.toNat + s.1 10 n).toNat) := if_pos k2
          have et : gstP kd s.1 n (nr j.toNat) (gftP U kd s.1 n (nr j.toNat) s.2) = pu (pu s.1 8 (6 * nr j.toNat + s.1 10 n).toNat (s.1 8 (6 * nr j.toNat + s.1 10 n).toNat - min s.2 (s.1 8 (6 * nr j.toNat + s.1 10 n).toNat))) 38 (12 * nr j.toNat + s.1 9 n).toNat (w64 (s.1 38 (12 * nr j.toNat + s.1 9 n).toNat + min s.2 (s.1 8 (6 * nr j.toNat + s.1 10 n).toNat))) := by
            rw [eg]; exact if_pos k2
          rw [eg] at gr
          rw [et, eg] at ih
          simp -implicitDefEqProofs only [↓b12_0, ↓b12_13, ↓b12_29, ↓b12_57, ↓b12_62, ↓b12_71, ↓b12_75, ↓b12_76, ↓b12_83, ↓b12_88, ↓b12_95, ↓b12_98, ↓b12_109, ↓b12_114, ↓b12_121, ↓b12_133, ↓b12_144, ↓b12_147, ↓b12_159, ↓b12_168, b12_0, b12_13, b12_29, b12_57, b12_62, b12_71, b12_75, b12_76, b12_83, b12_88, b12_95, b12_98, b12_109, b12_114, b12_121, b12_133, b12_144, b12_147, b12_159, b12_168, nLE0, layE1, layE4, layE3, hc, h22, rc, r22, n3_16, n3_13, n3_14, I32, ↓xb, xb, ps, lpad, lat, aok2, rd2, aaok, aav, alok, alen, aok, akk, csum, isLg, cmpI, clsE, Option.elim, eq_self, List.mem_cons, List.not_mem_nil, or_false, false_or, List.append_nil, List.nil_append, List.cons_append, List.append_eq, List.replicate, List.length_cons, List.length_nil, List.map_cons, List.map_nil, ↓reduceIte, reduceCtorEq, if_true, if_false, true_and, and_true, false_and, and_false, and_self, not_true_eq_false, not_false_eq_true, forall_const, true_implies, false_implies, implies_true, Nat.reduceAdd, Nat.reduceSub, Nat.reduceLT, Nat.reduceLeDiff, Nat.reduceEqDiff, Nat.reduceMul, Nat.reducePow, Nat.add_one_ne_zero, Nat.add_one_sub_one, Nat.add_zero, Nat.zero_add, Int.reduceLT, Int.reduceLE, Int.reduceNeg, Int.reduceAdd, Int.reduceSub, Int.reduceToNat, Int.reduceEq, Int.reduceMul, Int.reducePow, Int.cast_ofNat_Int, Int.toNat_natCast, ne_eq, Bool.false_eq_true, true_or, or_true, or_self, Nat.not_lt_zero, ite_e0, ite_e1, lc_lt, lc_ge, lc_gt, lc_le, lc_eq, Classical.not_not]
          with_reducible repeat' (first | (refine And.intro ?_ ?_) | intro _)
          all_goals try omega
          refine ih _ _ (by omega) (by omega) (by omega) (hU.keep (fun f hf r c => upp_no (by omega))) ((R.u_storeI (by omega) (by omega)).f38 (fun z => z k2)) (fun a b ha hb => ?_) (fun j hj => ?_) (fun z => by omega) (hs.put (SQ_t (by omega)))
          · rw [upp_nf (by decide)]; exact Wr a b ha hb
          · rw [upp_nf (by decide)]; exact Nr j hj
      · refine TT_vb ok12 (sm3_ok G w) 60 [98, 168] ?_
        simp -implicitDefEqProofs only [↓b12_0, ↓b12_13, ↓b12_29, ↓b12_57, ↓b12_62, ↓b12_71, ↓b12_75, ↓b12_76, ↓b12_83, ↓b12_88, ↓b12_95, ↓b12_98, ↓b12_109, ↓b12_114, ↓b12_121, ↓b12_133, ↓b12_144, ↓b12_147, ↓b12_159, ↓b12_168, b12_0, b12_13, b12_29, b12_57, b12_62, b12_71, b12_75, b12_76, b12_83, b12_88, b12_95, b12_98, b12_109, b12_114, b12_121, b12_133, b12_144, b12_147, b12_159, b12_168, nLE0, layE1, layE4, layE3, hc, h22, rc, r22, e0, n3_16, n3_13, n3_14, I32, ↓xb, xb, ps, lpad, lat, aok2, rd2, aaok, aav, alok, alen, aok, akk, csum, isLg, cmpI, clsE, Option.elim, eq_self, List.mem_cons, List.not_mem_nil, or_false, false_or, List.append_nil, List.nil_append, List.cons_append, List.append_eq, List.replicate, List.length_cons, List.length_nil, List.map_cons, List.map_nil, ↓reduceIte, reduceCtorEq, if_true, if_false, true_and, and_true, false_and, and_false, and_self, not_true_eq_false, not_false_eq_true, forall_const, true_implies, false_implies, implies_true, Nat.reduceAdd, Nat.reduceSub, Nat.reduceLT, Nat.reduceLeDiff, Nat.reduceEqDiff, Nat.reduceMul, Nat.reducePow, Nat.add_one_ne_zero, Nat.add_one_sub_one, Nat.add_zero, Nat.zero_add, Int.reduceLT, Int.reduceLE, Int.reduceNeg, Int.reduceAdd, Int.reduceSub, Int.reduceToNat, Int.reduceEq, Int.reduceMul, Int.reducePow, Int.cast_ofNat_Int, Int.toNat_natCast, ne_eq, Bool.false_eq_true, true_or, or_true, or_self, Nat.not_lt_zero, ite_e0, ite_e1, lc_lt, lc_ge, lc_gt, lc_le, lc_eq, Classical.not_not]
        with_reducible repeat' (first | (refine And.intro ?_ ?_) | intro _)
        all_goals try omega
        exact fex _ _ (Or.inr hl)
    · refine TT_vb ok12 (sm3_ok G w) 60 [98, 168] ?_
      simp -implicitDefEqProofs only [↓b12_0, ↓b12_13, ↓b12_29, ↓b12_57, ↓b12_62, ↓b12_71, ↓b12_75, ↓b12_76, ↓b12_83, ↓b12_88, ↓b12_95, ↓b12_98, ↓b12_109, ↓b12_114, ↓b12_121, ↓b12_133, ↓b12_144, ↓b12_147, ↓b12_159, ↓b12_168, b12_0, b12_13, b12_29, b12_57, b12_62, b12_71, b12_75, b12_76, b12_83, b12_88, b12_95, b12_98, b12_109, b12_114, b12_121, b12_133, b12_144, b12_147, b12_159, b12_168, nLE0, layE1, layE4, layE3, hc, h22, rc, r22, e0, n3_16, n3_13, n3_14, I32, ↓xb, xb, ps, lpad, lat, aok2, rd2, aaok, aav, alok, alen, aok, akk, csum, isLg, cmpI, clsE, Option.elim, eq_self, List.mem_cons, List.not_mem_nil, or_false, false_or, List.append_nil, List.nil_append, List.cons_append, List.append_eq, List.replicate, List.length_cons, List.length_nil, List.map_cons, List.map_nil, ↓reduceIte, reduceCtorEq, if_true, if_false, true_and, and_true, false_and, and_false, and_self, not_true_eq_false, not_false_eq_true, forall_const, true_implies, false_implies, implies_true, Nat.reduceAdd, Nat.reduceSub, Nat.reduceLT, Nat.reduceLeDiff, Nat.reduceEqDiff, Nat.reduceMul, Nat.reducePow, Nat.add_one_ne_zero, Nat.add_one_sub_one, Nat.add_zero, Nat.zero_add, Int.reduceLT, Int.reduceLE, Int.reduceNeg, Int.reduceAdd, Int.reduceSub, Int.reduceToNat, Int.reduceEq, Int.reduceMul, Int.reducePow, Int.cast_ofNat_Int, Int.toNat_natCast, ne_eq, Bool.false_eq_true, true_or, or_true, or_self, Nat.not_lt_zero, ite_e0, ite_e1, lc_lt, lc_ge, lc_gt, lc_le, lc_eq, Classical.not_not]
      with_reducible repeat' (first | (refine And.intro ?_ ?_) | intro _)
      all_goals try omega
      exact fex _ _ (Or.inl (by omega))
end SRV

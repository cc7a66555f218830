/-! 24.quarter: the class's quarter, first half: spoil, firstOf, current, makers -/
theorem WF.pu8 {P : Pt} (h : WF P) {i : Nat} {v : Int} (hv : 0 ≤ v ∧ v ≤ 99999) : WF (pu P 8 i v) :=
  ⟨h.1, h.2.1, fun j hj => by
    show 0 ≤ (if 8 = 8 ∧ j = i then v else P 8 j) ∧ (if 8 = 8 ∧ j = i then v else P 8 j) ≤ 99999
    have := h.2.2.1 j hj
    split <;> omega, h.2.2.2⟩
theorem WF.pu37 {P : Pt} (h : WF P) {i : Nat} {v : Int} : WF (pu P 37 i v) := h
theorem WF.pu38 {P : Pt} (h : WF P) {i : Nat} {v : Int} : WF (pu P 38 i v) := h
theorem WF.pu26 {P : Pt} (h : WF P) {i : Nat} {v : Int} (hv : 0 ≤ v ∧ v ≤ P 25 i) (hi : (i : Int) < P 2 3) : WF (pu P 26 i v) :=
  ⟨h.1, h.2.1, h.2.2.1, h.2.2.2.1, h.2.2.2.2.1, fun n hn => by
    obtain ⟨a, b, c, d, e⟩ := h.cb (n := n) hn
    refine ⟨a, b, c, d, ?_⟩
    show 0 ≤ (if 26 = 26 ∧ n = i then v else P 26 n) ∧ (if 26 = 26 ∧ n = i then v else P 26 n) ≤ P 25 n
    by_cases q : n = i
    · rw [if_pos ⟨rfl, q⟩, q]; exact hv
    · rw [if_neg (fun z => q z.2)]; exact e, fun n hn => by
    show (if 26 = 26 ∧ n = i then v else P 26 n) = 0
    rw [if_neg (fun z => by have : n = i := z.2; subst this; exact absurd hi (by show ¬ (n : Int) < P 2 3; have h2 : P 2 3 ≤ (n : Int) := hn; omega))]
    exact h.c0 hn, h.2.2.2.2.2.2.2⟩
def SQ (t ro : Nat) (o f : Nat) : Bool := (o == t && (f == 1 || f == 9 || f == 13 || f == 19 || f == 20)) || (o == 8 && f == 1) || (o == ro && f == 9)
theorem SQ_8 {t ro : Nat} : SQ t ro 8 1 = true := by simp [SQ]
theorem SQ_t {t ro f : Nat} (h : f = 1 ∨ f = 9 ∨ f = 13 ∨ f = 19 ∨ f = 20) : SQ t ro t f = true := by
  unfold SQ
  rcases h with rfl | rfl | rfl | rfl | rfl <;> simp
theorem SQ_r {t ro : Nat} : SQ t ro ro 9 = true := by simp [SQ]
theorem same_81 {t ro : Nat} {σ σ' : Mem} (h : same S81 σ σ') : same (SQ t ro) σ σ' := h.mono (fun o f z => by
  simp only [Bool.and_eq_true, beq_iff_eq] at z
  rw [z.1, z.2]; exact SQ_8)
theorem same_r9 {t ro : Nat} {σ σ' : Mem} (h : same (fun o f => o == ro && f == 9) σ σ') : same (SQ t ro) σ σ' := h.mono (fun o f z => by
  simp only [Bool.and_eq_true, beq_iff_eq] at z
  rw [z.1, z.2]; exact SQ_r)
theorem RuC.keep {G : Gl} {w : Wd} {k ro : Nat} {U : RU} {σ σ' : Mem} (h : RuC G w k ro U σ) (hs : ∀ f, f ≤ 8 → ∀ r c, σ' ro f r c = σ ro f r c) : RuC G w k ro U σ' :=
  ⟨by rw [hs 1 (by omega)]; exact h.1, fun τ Q k' s hk hf => h.2 τ Q k' s hk (fun f hf8 r c => (hf f hf8 r c).trans (hs f hf8 r c))⟩
theorem RuC.sq {G : Gl} {w : Wd} {k ro t : Nat} {U : RU} {σ σ' : Mem} (h : RuC G w k ro U σ) (ht : t = 1 ∨ t = 2) (hr : 13 ≤ ro ∧ ro ≤ 20) (hs : same (SQ t ro) σ σ') : RuC G w k ro U σ' := h.keep (fun f hf r c => hs ro f (by
  unfold SQ
  rw [show (ro == t) = false by simp; omega, show (ro == 8) = false by simp; omega, show (f == 9) = false by simp; omega]
  simp) r c)
theorem r_facts {ro : Nat} (hr : 13 ≤ ro ∧ ro ≤ 20) : cls ro = 3 ∧ ro < 22 ∧ ¬ ro = 8 ∧ ¬ 8 = ro ∧ ¬ ro = 1 ∧ ¬ ro = 2 := by
  have : ro = 13 ∨ ro = 14 ∨ ro = 15 ∨ ro = 16 ∨ ro = 17 ∨ ro = 18 ∨ ro = 19 ∨ ro = 20 := by omega
  rcases this with rfl | rfl | rfl | rfl | rfl | rfl | rfl | rfl <;> exact ⟨rfl, by decide, by decide, by decide, by decide, by decide⟩
def spV (U : RU) (P : Pt) (h : Int) : Int := max 0 (min (U.1 15 (wH P h)) (P 8 (6 * h + 1).toNat))
def spP (U : RU) (P : Pt) (h : Int) : Pt := pu P 8 (6 * h + 1).toNat (P 8 (6 * h + 1).toNat - spV U P h)
def cuP (h : Nat) (P : Pt) : Pt := pu P 8 (6 * (h : Int) + 0).toNat (if P 6 h = 1 ∧ P 8 (6 * (h : Int) + 0).toNat < 9999 then 9999 else P 8 (6 * (h : Int) + 0).toNat)
def mkP (m : Nat) (P : Pt) : Pt := if P 22 m = 1 ∧ P 18 m ≤ P 8 (6 * P 16 m + P 17 m).toNat then pu (pu P 8 (6 * P 16 m + P 17 m).toNat (P 8 (6 * P 16 m + P 17 m).toNat - P 18 m)) 8 (6 * P 16 m + P 19 m).toNat (min 99999 (P 8 (6 * P 16 m + P 19 m).toNat + P 20 m)) else P
theorem pu_id {P : Pt} {f i : Nat} : pu P f i (P f i) = P := by
  funext f' i'
  unfold pu
  split
  · rename_i h; rw [h.1, h.2]
  · rfl
/-- what a quarter's steps keep: all but the stores -/
def K8 (P P' : Pt) : Prop := WF P' ∧ ∀ f i, f ≠ 8 → P' f i = P f i
theorem K8.refl {P : Pt} (W : WF P) : K8 P P := ⟨W, fun _ _ _ => rfl⟩
theorem K8.put {P P' : Pt} (h : K8 P P') {i : Nat} {v : Int} (hv : 0 ≤ v ∧ v ≤ 99999) : K8 P (pu P' 8 i v) := ⟨h.1.pu8 hv, fun f j hf => (pu_nf hf).trans (h.2 f j hf)⟩
theorem cuP_k {P P' : Pt} (h : K8 P P') {i : Nat} (hi : i < 12) : K8 P (cuP i P') := h.put (by
  have := h.1.st (n := (6 * (i : Int) + 0).toNat) (by omega)
  split <;> omega)
theorem mkP_k {P P' : Pt} (h : K8 P P') {m : Nat} (hm : (m : Int) < P 2 2) : K8 P (mkP m P') := by
  have h2 : P' 2 2 = P 2 2 := h.2 2 2 (by decide)
  obtain ⟨d1, d2, d3, d4, d5, d6, d7, d8⟩ := h.1.mk (n := m) (by omega)
  have w1 := h.1.sc.1
  have a := h.1.st (n := (6 * P' 16 m + P' 17 m).toNat) (by omega)
  have b := h.1.st (n := (6 * P' 16 m + P' 19 m).toNat) (by omega)
  unfold mkP
  split
  · exact (h.put (by omega)).put (by omega)
  · exact h
theorem spP_k {U : RU} {P P' : Pt} (h : K8 P P') {i : Int} (hi : 0 ≤ i ∧ i < 12) : K8 P (spP U P' i) := h.put (by
  have := h.1.st (n := (6 * i + 1).toNat) (by omega)
  unfold spV
  omega)
section QTR
variable {G : Gl} {w : Wd} {k : Nat} {σ : Mem} {Q : Option AV → Mem → Prop} {P : Pt} {g : Prop} {t ro : Nat} {U : RU}
set_option maxRecDepth 100000 in
set_option maxHeartbeats 1000000 in
theorem kc_spoil (R : RT g σ t P) (W : WF P) (ht : t = 1 ∨ t = 2) (hr : 13 ≤ ro ∧ ro ≤ 20) (hU : RuC G w 6 ro U σ) (hk : 12 ≤ k) (hn : P 2 6 ≤ 99999) {h : Int} (hh : 0 ≤ h ∧ h < 12) (q : ∀ σ', RT g σ' t (spP U P h) → same (SQ t ro) σ σ' → Q none σ') : CC G w w k (0, 0) 9 [vr 8 0 0, vr t 0 0, vr ro 0 0, vi h] σ Q := by
  obtain ⟨hc, h22, n8, n8', n21, n21'⟩ := t_facts ht
  obtain ⟨rc, r22, m8, m8', m1, m2⟩ := r_facts hr
  refine CC_vb ok9 (by decide) (sm3_ok G w) 60 [] (Nat.le_of_ble_eq_true rfl) ?_
  simp -implicitDefEqProofs only [↓b9_0, ↓b9_6, ↓b9_12, ↓b9_24, ↓b9_42, ↓b9_45, b9_0, b9_6, b9_12, b9_24, b9_42, b9_45, nLE0, layE1, layE4, layE3, hc, h22, rc, r22, n3_15, n3_39, I32, ↓xb, xb, ps, lpad, lat, aok2, rd2, aaok, aav, alok, alen, aok, akk, csum, isLg, cmpI, clsE, Option.elim, eq_self, List.mem_cons, List.not_mem_nil, or_false, false_or, List.append_nil, List.nil_append, List.cons_append, List.append_eq, List.replicate, List.length_cons, List.length_nil, List.map_cons, List.map_nil, ↓reduceIte, reduceCtorEq, if_true, if_false, true_and, and_true, false_and, and_false, and_self, not_true_eq_false, not_false_eq_true, forall_const, true_implies, false_implies, implies_true, Nat.reduceAdd, Nat.reduceSub, Nat.reduceLT, Nat.reduceLeDiff, Nat.reduceEqDiff, Nat.reduceMul, Nat.reducePow, Nat.add_one_ne_zero, Nat.add_one_sub_one, Nat.add_zero, Nat.zero_add, Int.reduceLT, Int.reduceLE, Int.reduceNeg, Int.reduceAdd, Int.reduceSub, Int.reduceToNat, Int.reduceEq, Int.reduceMul, Int.reducePow, Int.cast_ofNat_Int, Int.toNat_natCast, ne_eq, Bool.false_eq_true, true_or, or_true, or_self, Nat.not_lt_zero, ite_e0, ite_e1, lc_lt, lc_ge, lc_gt, lc_le, lc_eq, Classical.not_not]
  with_reducible repeat' (first | (refine And.intro ?_ ?_) | intro _)
  all_goals try omega
  refine kc_tellH R W ht (by omega) hn hh (fun σ1 hw hs => ?_)
  have s1 : same (SQ t ro) σ σ1 := same_81 hs
  have R1 : RT g σ1 t P := R.keep hs (fun f _ => by simp [n8])
  simp -implicitDefEqProofs only [↓b9_0, ↓b9_6, ↓b9_12, ↓b9_24, ↓b9_42, ↓b9_45, b9_0, b9_6, b9_12, b9_24, b9_42, b9_45, nLE0, layE1, layE4, layE3, hc, h22, rc, r22, n3_15, n3_39, I32, ↓xb, xb, ps, lpad, lat, aok2, rd2, aaok, aav, alok, alen, aok, akk, csum, isLg, cmpI, clsE, Option.elim, eq_self, List.mem_cons, List.not_mem_nil, or_false, false_or, List.append_nil, List.nil_append, List.cons_append, List.append_eq, List.replicate, List.length_cons, List.length_nil, List.map_cons, List.map_nil, ↓reduceIte, reduceCtorEq, if_true, if_false, true_and, and_true, false_and, and_false, and_self, not_true_eq_false, not_false_eq_true, forall_const, true_implies, false_implies, implies_true, Nat.reduceAdd, Nat.reduceSub, Nat.reduceLT, Nat.reduceLeDiff, Nat.reduceEqDiff, Nat.reduceMul, Nat.reducePow, Nat.add_one_ne_zero, Nat.add_one_sub_one, Nat.add_zero, Nat.zero_add, Int.reduceLT, Int.reduceLE, Int.reduceNeg, Int.reduceAdd, Int.reduceSub, Int.reduceToNat, Int.reduceEq, Int.reduceMul, Int.reducePow, Int.cast_ofNat_Int, Int.toNat_natCast, ne_eq, Bool.false_eq_true, true_or, or_true, or_self, Nat.not_lt_zero, ite_e0, ite_e1, lc_lt, lc_ge, lc_gt, lc_le, lc_eq, Classical.not_not]
  with_reducible repeat' (first | (refine And.intro ?_ ?_) | intro _)
  all_goals try omega
  refine (hU.sq ht hr s1).2 σ1 _ (k - 1) 15 (by omega) (fun _ _ _ _ => rfl) (Or.inl rfl) (fun σ2 hs2 => ?_)
  have R2 : RT g σ2 t P := R1.keep hs2 (fun f _ => by
    have : (t == ro) = false := by simp; omega
    simp [this])
  have st := R2.storeI (h := h) (c := 1) hh (by omega)
  rw [show (1 : Int).toNat = 1 from rfl] at st
  have sb := W.st (n := (6 * h + 1).toNat) (by omega)
  rw [hw]
  have ev : P 8 (6 * h + 1).toNat - w32 (min (P 8 (6 * h + 1).toNat) (max 0 (U.1 15 (wH P h)))) = P 8 (6 * h + 1).toNat - spV U P h := by
    unfold spV w32; omega
  have sv : 0 ≤ spV U P h ∧ spV U P h ≤ P 8 (6 * h + 1).toNat := by unfold spV; omega
  have n15 : (15 : Int).toNat = 15 := rfl
  simp -implicitDefEqProofs only [↓b9_0, ↓b9_6, ↓b9_12, ↓b9_24, ↓b9_42, ↓b9_45, b9_0, b9_6, b9_12, b9_24, b9_42, b9_45, nLE0, layE1, layE4, layE3, hc, h22, rc, r22, st, n15, ev, n3_15, n3_39, I32, ↓xb, xb, ps, lpad, lat, aok2, rd2, aaok, aav, alok, alen, aok, akk, csum, isLg, cmpI, clsE, Option.elim, eq_self, List.mem_cons, List.not_mem_nil, or_false, false_or, List.append_nil, List.nil_append, List.cons_append, List.append_eq, List.replicate, List.length_cons, List.length_nil, List.map_cons, List.map_nil, ↓reduceIte, reduceCtorEq, if_true, if_false, true_and, and_true, false_and, and_false, and_self, not_true_eq_false, not_false_eq_true, forall_const, true_implies, false_implies, implies_true, Nat.reduceAdd, Nat.reduceSub, Nat.reduceLT, Nat.reduceLeDiff, Nat.reduceEqDiff, Nat.reduceMul, Nat.reducePow, Nat.add_one_ne_zero, Nat.add_one_sub_one, Nat.add_zero, Nat.zero_add, Int.reduceLT, Int.reduceLE, Int.reduceNeg, Int.reduceAdd, Int.reduceSub, Int.reduceToNat, Int.reduceEq, Int.reduceMul, Int.reducePow, Int.cast_ofNat_Int, Int.toNat_natCast, ne_eq, Bool.false_eq_true, true_or, or_true, or_self, Nat.not_lt_zero, ite_e0, ite_e1, lc_lt, lc_ge, lc_gt, lc_le, lc_eq, Classical.not_not]
  with_reducible repeat' (first | (refine And.intro ?_ ?_) | intro _)
  all_goals try omega
  have e := R2.u_storeI (h := h) (c := 1) (v := P 8 (6 * h + 1).toNat - spV U P h) hh (by omega)
  rw [show (1 : Int).toNat = 1 from rfl] at e
  exact q _ e ((s1.trans (same_r9 hs2)).put (SQ_t (by omega)))
set_option maxRecDepth 100000 in
set_option maxHeartbeats 1000000 in
theorem kc_first (R : RT g σ t P) (W : WF P) (ht : t = 1 ∨ t = 2) (hr : 13 ≤ ro ∧ ro ≤ 20) (hU : RuC G w 6 ro U σ) (hk : 12 ≤ k) (hn : P 2 6 ≤ 99999) {n : Int} (hh : 0 ≤ n ∧ n < P 2 1) (q : ∀ σ', same (fun o f => (o == 8 && f == 1) || (o == ro && f == 9)) σ σ' → Q (some (vl (U.1 16 (wN P n.toNat (P 11 n.toNat))))) σ') : CC G w w k (0, 0) 10 [vr 8 0 0, vr t 0 0, vr ro 0 0, vi n] σ Q := by
  obtain ⟨hc, h22, n8, n8', n21, n21'⟩ := t_facts ht
  obtain ⟨rc, r22, m8, m8', m1, m2⟩ := r_facts hr
  have wn := W.sc.2.1
  refine CC_vb ok10 (by decide) (sm3_ok G w) 60 [] (Nat.le_of_ble_eq_true rfl) ?_
  simp -implicitDefEqProofs only [↓b10_0, ↓b10_8, ↓b10_11, ↓b10_21, b10_0, b10_8, b10_11, b10_21, nLE0, layE1, layE4, layE3, hc, h22, rc, r22, n3_16, n3_39, I32, ↓xb, xb, ps, lpad, lat, aok2, rd2, aaok, aav, alok, alen, aok, akk, csum, isLg, cmpI, clsE, Option.elim, eq_self, List.mem_cons, List.not_mem_nil, or_false, false_or, List.append_nil, List.nil_append, List.cons_append, List.append_eq, List.replicate, List.length_cons, List.length_nil, List.map_cons, List.map_nil, ↓reduceIte, reduceCtorEq, if_true, if_false, true_and, and_true, false_and, and_false, and_self, not_true_eq_false, not_false_eq_true, forall_const, true_implies, false_implies, implies_true, Nat.reduceAdd, Nat.reduceSub, Nat.reduceLT, Nat.reduceLeDiff, Nat.reduceEqDiff, Nat.reduceMul, Nat.reducePow, Nat.add_one_ne_zero, Nat.add_one_sub_one, Nat.add_zero, Nat.zero_add, Int.reduceLT, Int.reduceLE, Int.reduceNeg, Int.reduceAdd, Int.reduceSub, Int.reduceToNat, Int.reduceEq, Int.reduceMul, Int.reducePow, Int.cast_ofNat_Int, Int.toNat_natCast, ne_eq, Bool.false_eq_true, true_or, or_true, or_self, Nat.not_lt_zero, ite_e0, ite_e1, lc_lt, lc_ge, lc_gt, lc_le, lc_eq, Classical.not_not]
  with_reducible repeat' (first | (refine And.intro ?_ ?_) | intro _)
  all_goals try omega
  refine kc_tellN R W ht (by omega) hn (n := n.toNat) (by omega) (fun σ1 hw hs => ?_)
  simp -implicitDefEqProofs only [↓b10_0, ↓b10_8, ↓b10_11, ↓b10_21, b10_0, b10_8, b10_11, b10_21, nLE0, layE1, layE4, layE3, hc, h22, rc, r22, n3_16, n3_39, I32, ↓xb, xb, ps, lpad, lat, aok2, rd2, aaok, aav, alok, alen, aok, akk, csum, isLg, cmpI, clsE, Option.elim, eq_self, List.mem_cons, List.not_mem_nil, or_false, false_or, List.append_nil, List.nil_append, List.cons_append, List.append_eq, List.replicate, List.length_cons, List.length_nil, List.map_cons, List.map_nil, ↓reduceIte, reduceCtorEq, if_true, if_false, true_and, and_true, false_and, and_false, and_self, not_true_eq_false, not_false_eq_true, forall_const, true_implies, false_implies, implies_true, Nat.reduceAdd, Nat.reduceSub, Nat.reduceLT, Nat.reduceLeDiff, Nat.reduceEqDiff, Nat.reduceMul, Nat.reducePow, Nat.add_one_ne_zero, Nat.add_one_sub_one, Nat.add_zero, Nat.zero_add, Int.reduceLT, Int.reduceLE, Int.reduceNeg, Int.reduceAdd, Int.reduceSub, Int.reduceToNat, Int.reduceEq, Int.reduceMul, Int.reducePow, Int.cast_ofNat_Int, Int.toNat_natCast, ne_eq, Bool.false_eq_true, true_or, or_true, or_self, Nat.not_lt_zero, ite_e0, ite_e1, lc_lt, lc_ge, lc_gt, lc_le, lc_eq, Classical.not_not]
  with_reducible repeat' (first | (refine And.intro ?_ ?_) | intro _)
  all_goals try omega
  refine (hU.keep (fun f hf r c => hs ro f (by simp [m8]) r c)).2 σ1 _ (k - 1) 16 (by omega) (fun _ _ _ _ => rfl) (Or.inr (Or.inl rfl)) (fun σ2 hs2 => ?_)
  rw [hw]
  have n16 : (16 : Int).toNat = 16 := rfl
  simp -implicitDefEqProofs only [↓b10_0, ↓b10_8, ↓b10_11, ↓b10_21, b10_0, b10_8, b10_11, b10_21, nLE0, layE1, layE4, layE3, n16, n3_16, n3_39, I32, ↓xb, xb, ps, lpad, lat, aok2, rd2, aaok, aav, alok, alen, aok, akk, csum, isLg, cmpI, clsE, Option.elim, eq_self, List.mem_cons, List.not_mem_nil, or_false, false_or, List.append_nil, List.nil_append, List.cons_append, List.append_eq, List.replicate, List.length_cons, List.length_nil, List.map_cons, List.map_nil, ↓reduceIte, reduceCtorEq, if_true, if_false, true_and, and_true, false_and, and_false, and_self, not_true_eq_false, not_false_eq_true, forall_const, true_implies, false_implies, implies_true, Nat.reduceAdd, Nat.reduceSub, Nat.reduceLT, Nat.reduceLeDiff, Nat.reduceEqDiff, Nat.reduceMul, Nat.reducePow, Nat.add_one_ne_zero, Nat.add_one_sub_one, Nat.add_zero, Nat.zero_add, Int.reduceLT, Int.reduceLE, Int.reduceNeg, Int.reduceAdd, Int.reduceSub, Int.reduceToNat, Int.reduceEq, Int.reduceMul, Int.reducePow, Int.cast_ofNat_Int, Int.toNat_natCast, ne_eq, Bool.false_eq_true, true_or, or_true, or_self, Nat.not_lt_zero, ite_e0, ite_e1, lc_lt, lc_ge, lc_gt, lc_le, lc_eq, Classical.not_not]
  with_reducible repeat' (first | (refine And.intro ?_ ?_) | intro _)
  all_goals try omega
  exact q σ2 ((hs.mono (fun o f z => by rw [Bool.or_eq_true]; exact Or.inl z)).trans (hs2.mono (fun o f z => by rw [Bool.or_eq_true]; exact Or.inr z)))
set_option maxRecDepth 100000 in
set_option maxHeartbeats 1000000 in
theorem kc_cur_l (W : WF P) (ht : t = 1 ∨ t = 2) (hk : 8 ≤ k) (q : ∀ σ', RT g σ' t (iter cuP (P 2 0).toNat P) → same (SQ t ro) σ σ' → Q none σ') : ∀ (m : Nat) (i : Int) (σ' : Mem) (l3 : Option AV), 0 ≤ i → i ≤ P 2 0 → P 2 0 < i + m → RT g σ' t (iter cuP i.toNat P) → same (SQ t ro) σ σ' → TT G w w w k (0, 0) 7 2 [some (vr 8 0 0), some (vr t 0 0), some (vi i), l3] [] σ' Q
  | 0, i, σ', l3, h0, h1, h2, _, _ => by omega
  | m + 1, i, σ', l3, h0, h1, h2, R, hs => by
    have ih := kc_cur_l W ht hk q m (i + 1)
    rw [iter_toNat _ h0] at ih
    obtain ⟨hc, h22, n8, n8', n21, n21'⟩ := t_facts ht
    have wh := W.sc.1
    have kk : K8 P (iter cuP i.toNat P) := iter_inv (I := fun _ P' => K8 P P') (K8.refl W) (fun j b hj hb => cuP_k hb (by omega))
    have e1 := R.houses.trans (kk.2 2 0 (by decide))
    by_cases hi : i < P 2 0
    · have s7 := R.isBack (h := i.toNat) (by omega)
      have s0 := R.storeI (h := i) (c := 0) (by omega) (by omega)
      rw [show (0 : Int).toNat = 0 from rfl] at s0
      have e := R.u_storeI (h := i) (c := 0) (v := max (iter cuP i.toNat P 8 (6 * i + 0).toNat) 9999) (by omega) (by omega)
      rw [show (0 : Int).toNat = 0 from rfl] at e
      have hcu : cuP i.toNat (iter cuP i.toNat P) = pu (iter cuP i.toNat P) 8 (6 * i + 0).toNat (if (iter cuP i.toNat P) 6 i.toNat = 1 ∧ (iter cuP i.toNat P) 8 (6 * i + 0).toNat < 9999 then 9999 else (iter cuP i.toNat P) 8 (6 * i + 0).toNat) := by
        unfold cuP; rw [show ((i.toNat : Nat) : Int) = i by omega]
      refine TT_vb ok7 (sm3_ok G w) 60 [2] ?_
      simp -implicitDefEqProofs only [↓b7_0, ↓b7_2, ↓b7_10, ↓b7_16, ↓b7_25, ↓b7_36, ↓b7_37, ↓b7_43, b7_0, b7_2, b7_10, b7_16, b7_25, b7_36, b7_37, b7_43, nLE0, layE1, layE4, layE3, hc, h22, e1, s7, s0, I32, ↓xb, xb, ps, lpad, lat, aok2, rd2, aaok, aav, alok, alen, aok, akk, csum, isLg, cmpI, clsE, Option.elim, eq_self, List.mem_cons, List.not_mem_nil, or_false, false_or, List.append_nil, List.nil_append, List.cons_append, List.append_eq, List.replicate, List.length_cons, List.length_nil, List.map_cons, List.map_nil, ↓reduceIte, reduceCtorEq, if_true, if_false, true_and, and_true, false_and, and_false, and_self, not_true_eq_false, not_false_eq_true, forall_const, true_implies, false_implies, implies_true, Nat.reduceAdd, Nat.reduceSub, Nat.reduceLT, Nat.reduceLeDiff, Nat.reduceEqDiff, Nat.reduceMul, Nat.reducePow, Nat.add_one_ne_zero, Nat.add_one_sub_one, Nat.add_zero, Nat.zero_add, Int.reduceLT, Int.reduceLE, Int.reduceNeg, Int.reduceAdd, Int.reduceSub, Int.reduceToNat, Int.reduceEq, Int.reduceMul, Int.reducePow, Int.cast_ofNat_Int, Int.toNat_natCast, ne_eq, Bool.false_eq_true, true_or, or_true, or_self, Nat.not_lt_zero, ite_e0, ite_e1, lc_lt, lc_ge, lc_gt, lc_le, lc_eq, Classical.not_not]
      with_reducible repeat' (first | (refine And.intro ?_ ?_) | intro _)
      all_goals try omega
      · rw [hcu, if_neg (by omega), pu_id] at ih
        exact ih _ _ (by omega) (by omega) (by omega) R hs
      · rw [hcu, show (if (iter cuP i.toNat P) 6 i.toNat = 1 ∧ (iter cuP i.toNat P) 8 (6 * i + 0).toNat < 9999 then 9999 else (iter cuP i.toNat P) 8 (6 * i + 0).toNat) = max (iter cuP i.toNat P 8 (6 * i + 0).toNat) 9999 by split <;> omega] at ih
        exact ih _ _ (by omega) (by omega) (by omega) e (hs.put (SQ_t (by omega)))
    · refine TT_vb ok7 (sm3_ok G w) 60 [2] ?_
      simp -implicitDefEqProofs only [↓b7_0, ↓b7_2, ↓b7_10, ↓b7_16, ↓b7_25, ↓b7_36, ↓b7_37, ↓b7_43, b7_0, b7_2, b7_10, b7_16, b7_25, b7_36, b7_37, b7_43, nLE0, layE1, layE4, layE3, hc, h22, e1, I32, ↓xb, xb, ps, lpad, lat, aok2, rd2, aaok, aav, alok, alen, aok, akk, csum, isLg, cmpI, clsE, Option.elim, eq_self, List.mem_cons, List.not_mem_nil, or_false, false_or, List.append_nil, List.nil_append, List.cons_append, List.append_eq, List.replicate, List.length_cons, List.length_nil, List.map_cons, List.map_nil, ↓reduceIte, reduceCtorEq, if_true, if_false, true_and, and_true, false_and, and_false, and_self, not_true_eq_false, not_false_eq_true, forall_const, true_implies, false_implies, implies_true, Nat.reduceAdd, Nat.reduceSub, Nat.reduceLT, Nat.reduceLeDiff, Nat.reduceEqDiff, Nat.reduceMul, Nat.reducePow, Nat.add_one_ne_zero, Nat.add_one_sub_one, Nat.add_zero, Nat.zero_add, Int.reduceLT, Int.reduceLE, Int.reduceNeg, Int.reduceAdd, Int.reduceSub, Int.reduceToNat, Int.reduceEq, Int.reduceMul, Int.reducePow, Int.cast_ofNat_Int, Int.toNat_natCast, ne_eq, Bool.false_eq_true, true_or, or_true, or_self, Nat.not_lt_zero, ite_e0, ite_e1, lc_lt, lc_ge, lc_gt, lc_le, lc_eq, Classical.not_not]
      with_reducible repeat' (first | (refine And.intro ?_ ?_) | intro _)
      all_goals try omega
      have ei : i = P 2 0 := by omega
      rw [ei] at R
      exact q σ' R hs
set_option maxRecDepth 100000 in
set_option maxHeartbeats 1000000 in
theorem kc_cur (R : RT g σ t P) (W : WF P) (ht : t = 1 ∨ t = 2) (hk : 8 ≤ k) (q : ∀ σ', RT g σ' t (iter cuP (P 2 0).toNat P) → same (SQ t ro) σ σ' → Q none σ') : CC G w w k (0, 0) 7 [vr 8 0 0, vr t 0 0] σ Q := by
  have wh := W.sc.1
  refine CC_vb ok7 (by decide) (sm3_ok G w) 60 [2] (Nat.le_of_ble_eq_true rfl) ?_
  simp -implicitDefEqProofs only [↓b7_0, ↓b7_2, ↓b7_10, ↓b7_16, ↓b7_25, ↓b7_36, ↓b7_37, ↓b7_43, b7_0, b7_2, b7_10, b7_16, b7_25, b7_36, b7_37, b7_43, nLE0, layE1, layE4, layE3, hk, I32, ↓xb, xb, ps, lpad, lat, aok2, rd2, aaok, aav, alok, alen, aok, akk, csum, isLg, cmpI, clsE, Option.elim, eq_self, List.mem_cons, List.not_mem_nil, or_false, false_or, List.append_nil, List.nil_append, List.cons_append, List.append_eq, List.replicate, List.length_cons, List.length_nil, List.map_cons, List.map_nil, ↓reduceIte, reduceCtorEq, if_true, if_false, true_and, and_true, false_and, and_false, and_self, not_true_eq_false, not_false_eq_true, forall_const, true_implies, false_implies, implies_true, Nat.reduceAdd, Nat.reduceSub, Nat.reduceLT, Nat.reduceLeDiff, Nat.reduceEqDiff, Nat.reduceMul, Nat.reducePow, Nat.add_one_ne_zero, Nat.add_one_sub_one, Nat.add_zero, Nat.zero_add, Int.reduceLT, Int.reduceLE, Int.reduceNeg, Int.reduceAdd, Int.reduceSub, Int.reduceToNat, Int.reduceEq, Int.reduceMul, Int.reducePow, Int.cast_ofNat_Int, Int.toNat_natCast, ne_eq, Bool.false_eq_true, true_or, or_true, or_self, Nat.not_lt_zero, ite_e0, ite_e1, lc_lt, lc_ge, lc_gt, lc_le, lc_eq, Classical.not_not]
  with_reducible repeat' (first | (refine And.intro ?_ ?_) | intro _)
  all_goals try omega
  exact kc_cur_l W ht hk q 13 0 σ none (by omega) (by omega) (by omega) R same.refl
set_option maxRecDepth 100000 in
set_option maxHeartbeats 1000000 in
theorem kc_mk_l (W : WF P) (ht : t = 1 ∨ t = 2) (hk : 8 ≤ k) (q : ∀ σ', RT g σ' t (iter mkP (P 2 2).toNat P) → same (SQ t ro) σ σ' → Q none σ') : ∀ (m : Nat) (i : Int) (σ' : Mem) (l3 l4 : Option AV), 0 ≤ i → i ≤ P 2 2 → P 2 2 < i + m → RT g σ' t (iter mkP i.toNat P) → same (SQ t ro) σ σ' → TT G w w w k (0, 0) 8 2 [some (vr 8 0 0), some (vr t 0 0), some (vi i), l3, l4] [] σ' Q
  | 0, i, σ', l3, l4, h0, h1, h2, _, _ => by omega
  | m + 1, i, σ', l3, l4, h0, h1, h2, R, hs => by
    have ih := kc_mk_l W ht hk q m (i + 1)
    rw [iter_toNat _ h0] at ih
    obtain ⟨hc, h22, n8, n8', n21, n21'⟩ := t_facts ht
    have wm := W.sc.2.2.1
    have kk : K8 P (iter mkP i.toNat P) := iter_inv (I := fun _ P' => K8 P P') (K8.refl W) (fun j b hj hb => mkP_k hb (by omega))
    have e1 := R.makers.trans (kk.2 2 2 (by decide))
    have e0 := kk.2 2 2 (by decide)
    by_cases hi : i < P 2 2
    · revert ih R kk e1 e0
      generalize iter mkP i.toNat P = P1
      intro R ih kk e1 e0
      obtain ⟨d1, d2, d3, d4, d5, d6, d7, d8⟩ := kk.1.mk (n := i.toNat) (by omega)
      have w1 := kk.1.sc.1
      have b1 := kk.1.st (n := (6 * P1 16 i.toNat + P1 17 i.toNat).toNat) (by omega)
      have b2 := kk.1.st (n := (6 * P1 16 i.toNat + P1 19 i.toNat).toNat) (by omega)
      have s0 := R.maker0 (n := i.toNat) (by omega); have s1 := R.maker1 (n := i.toNat) (by omega); have s2 := R.maker2 (n := i.toNat) (by omega); have s3 := R.maker3 (n := i.toNat) (by omega); have s4 := R.maker4 (n := i.toNat) (by omega); have s6 := R.maker6 (n := i.toNat) (by omega)
      have t1 := R.storeI (h := P1 16 i.toNat) (c := P1 17 i.toNat) (by omega) (by omega)
      have t2 := R.storeI (h := P1 16 i.toNat) (c := P1 19 i.toNat) (by omega) (by omega)
      have ne : ¬ (P1 19 i.toNat).toNat = (P1 17 i.toNat).toNat := by omega
      have hmp : (P1 22 i.toNat = 1 ∧ P1 18 i.toNat ≤ P1 8 (6 * P1 16 i.toNat + P1 17 i.toNat).toNat) → mkP i.toNat P1 = pu (pu P1 8 (6 * P1 16 i.toNat + P1 17 i.toNat).toNat (P1 8 (6 * P1 16 i.toNat + P1 17 i.toNat).toNat - P1 18 i.toNat)) 8 (6 * P1 16 i.toNat + P1 19 i.toNat).toNat (min 99999 (P1 8 (6 * P1 16 i.toNat + P1 19 i.toNat).toNat + P1 20 i.toNat)) := fun z => if_pos z
      have hmn : ¬ (P1 22 i.toNat = 1 ∧ P1 18 i.toNat ≤ P1 8 (6 * P1 16 i.toNat + P1 17 i.toNat).toNat) → mkP i.toNat P1 = P1 := fun z => if_neg z
      refine TT_vb ok8 (sm3_ok G w) 60 [2] ?_
      simp -implicitDefEqProofs only [↓b8_0, ↓b8_2, ↓b8_10, ↓b8_16, ↓b8_25, ↓b8_35, ↓b8_47, ↓b8_79, ↓b8_80, ↓b8_86, b8_0, b8_2, b8_10, b8_16, b8_25, b8_35, b8_47, b8_79, b8_80, b8_86, nLE0, layE1, layE4, layE3, hc, h22, e1, s0, s1, s2, s3, s4, s6, t1, t2, up_rd, ne, I32, ↓xb, xb, ps, lpad, lat, aok2, rd2, aaok, aav, alok, alen, aok, akk, csum, isLg, cmpI, clsE, Option.elim, eq_self, List.mem_cons, List.not_mem_nil, or_false, false_or, List.append_nil, List.nil_append, List.cons_append, List.append_eq, List.replicate, List.length_cons, List.length_nil, List.map_cons, List.map_nil, ↓reduceIte, reduceCtorEq, if_true, if_false, true_and, and_true, false_and, and_false, and_self, not_true_eq_false, not_false_eq_true, forall_const, true_implies, false_implies, implies_true, Nat.reduceAdd, Nat.reduceSub, Nat.reduceLT, Nat.reduceLeDiff, Nat.reduceEqDiff, Nat.reduceMul, Nat.reducePow, Nat.add_one_ne_zero, Nat.add_one_sub_one, Nat.add_zero, Nat.zero_add, Int.reduceLT, Int.reduceLE, Int.reduceNeg, Int.reduceAdd, Int.reduceSub, Int.reduceToNat, Int.reduceEq, Int.reduceMul, Int.reducePow, Int.cast_ofNat_Int, Int.toNat_natCast, ne_eq, Bool.false_eq_true, true_or, or_true, or_self, Nat.not_lt_zero, ite_e0, ite_e1, lc_lt, lc_ge, lc_gt, lc_le, lc_eq, Classical.not_not]
      with_reducible repeat' (first | (refine And.intro ?_ ?_) | intro _)
      all_goals try omega
      · rw [hmn (by omega)] at ih
        exact ih _ _ _ (by omega) (by omega) (by omega) R hs
      · rw [hmn (by omega)] at ih
        exact ih _ _ _ (by omega) (by omega) (by omega) R hs
      · rw [hmp (by omega)] at ih
        exact ih _ _ _ (by omega) (by omega) (by omega) ((R.u_storeI (by omega) (by omega)).u_storeI (by omega) (by omega)) ((hs.put (SQ_t (by omega))).put (SQ_t (by omega)))
    · refine TT_vb ok8 (sm3_ok G w) 60 [2] ?_
      simp -implicitDefEqProofs only [↓b8_0, ↓b8_2, ↓b8_10, ↓b8_16, ↓b8_25, ↓b8_35, ↓b8_47, ↓b8_79, ↓b8_80, ↓b8_86, b8_0, b8_2, b8_10, b8_16, b8_25, b8_35, b8_47, b8_79, b8_80, b8_86, nLE0, layE1, layE4, layE3, hc, h22, e1, I32, ↓xb, xb, ps, lpad, lat, aok2, rd2, aaok, aav, alok, alen, aok, akk, csum, isLg, cmpI, clsE, Option.elim, eq_self, List.mem_cons, List.not_mem_nil, or_false, false_or, List.append_nil, List.nil_append, List.cons_append, List.append_eq, List.replicate, List.length_cons, List.length_nil, List.map_cons, List.map_nil, ↓reduceIte, reduceCtorEq, if_true, if_false, true_and, and_true, false_and, and_false, and_self, not_true_eq_false, not_false_eq_true, forall_const, true_implies, false_implies, implies_true, Nat.reduceAdd, Nat.reduceSub, Nat.reduceLT, Nat.reduceLeDiff, Nat.reduceEqDiff, Nat.reduceMul, Nat.reducePow, Nat.add_one_ne_zero, Nat.add_one_sub_one, Nat.add_zero, Nat.zero_add, Int.reduceLT, Int.reduceLE, Int.reduceNeg, Int.reduceAdd, Int.reduceSub, Int.reduceToNat, Int.reduceEq, Int.reduceMul, Int.reducePow, Int.cast_ofNat_Int, Int.toNat_natCast, ne_eq, Bool.false_eq_true, true_or, or_true, or_self, Nat.not_lt_zero, ite_e0, ite_e1, lc_lt, lc_ge, lc_gt, lc_le, lc_eq, Classical.not_not]
      with_reducible repeat' (first | (refine And.intro ?_ ?_) | intro _)
      all_goals try omega
      have ei : i = P 2 2 := by omega
      rw [ei] at R
      exact q σ' R hs
set_option maxRecDepth 100000 in
set_option maxHeartbeats 1000000 in
theorem kc_mk (R : RT g σ t P) (W : WF P) (ht : t = 1 ∨ t = 2) (hk : 8 ≤ k) (q : ∀ σ', RT g σ' t (iter mkP (P 2 2).toNat P) → same (SQ t ro) σ σ' → Q none σ') : CC G w w k (0, 0) 8 [vr 8 0 0, vr t 0 0] σ Q := by
  have wh := W.sc.2.2.1
  refine CC_vb ok8 (by decide) (sm3_ok G w) 60 [2] (Nat.le_of_ble_eq_true rfl) ?_
  simp -implicitDefEqProofs only [↓b8_0, ↓b8_2, ↓b8_10, ↓b8_16, ↓b8_25, ↓b8_35, ↓b8_47, ↓b8_79, ↓b8_80, ↓b8_86, b8_0, b8_2, b8_10, b8_16, b8_25, b8_35, b8_47, b8_79, b8_80, b8_86, nLE0, layE1, layE4, layE3, hk, I32, ↓xb, xb, ps, lpad, lat, aok2, rd2, aaok, aav, alok, alen, aok, akk, csum, isLg, cmpI, clsE, Option.elim, eq_self, List.mem_cons, List.not_mem_nil, or_false, false_or, List.append_nil, List.nil_append, List.cons_append, List.append_eq, List.replicate, List.length_cons, List.length_nil, List.map_cons, List.map_nil, ↓reduceIte, reduceCtorEq, if_true, if_false, true_and, and_true, false_and, and_false, and_self, not_true_eq_false, not_false_eq_true, forall_const, true_implies, false_implies, implies_true, Nat.reduceAdd, Nat.reduceSub, Nat.reduceLT, Nat.reduceLeDiff, Nat.reduceEqDiff, Nat.reduceMul, Nat.reducePow, Nat.add_one_ne_zero, Nat.add_one_sub_one, Nat.add_zero, Nat.zero_add, Int.reduceLT, Int.reduceLE, Int.reduceNeg, Int.reduceAdd, Int.reduceSub, Int.reduceToNat, Int.reduceEq, Int.reduceMul, Int.reducePow, Int.cast_ofNat_Int, Int.toNat_natCast, ne_eq, Bool.false_eq_true, true_or, or_true, or_self, Nat.not_lt_zero, ite_e0, ite_e1, lc_lt, lc_ge, lc_gt, lc_le, lc_eq, Classical.not_not]
  with_reducible repeat' (first | (refine And.intro ?_ ?_) | intro _)
  all_goals try omega
  exact kc_mk_l W ht hk q 13 0 σ none none (by omega) (by omega) (by omega) R same.refl
end QTR

/-! 17.loops: methods with loops that only look, and knock (by wip/gen/gen17.py) -/
def kst (h : Int) (i : Nat) (a : Pt × Int) : Pt × Int := if a.1 9 i = h ∧ a.1 15 i = 0 then (pu a.1 15 i 1, a.2 + 1) else a
theorem kst_inv {P : Pt} {h : Int} (n : Nat) : (∀ f i, f ≠ 15 → (iter (kst h) n (P, 0)).1 f i = P f i) ∧ 0 ≤ (iter (kst h) n (P, 0)).2 ∧ (iter (kst h) n (P, 0)).2 ≤ n := by
  refine iter_inv (st := kst h) (I := fun n a => (∀ f i, f ≠ 15 → a.1 f i = P f i) ∧ 0 ≤ a.2 ∧ a.2 ≤ (n : Int)) ⟨fun _ _ _ => rfl, by simp, by simp⟩ ?_
  intro i b _ hb
  unfold kst
  split
  · exact ⟨fun f j hf => by show pu b.1 15 i 1 f j = _; rw [pu_nf hf]; exact hb.1 f j hf, by show 0 ≤ b.2 + 1; omega, by show b.2 + 1 ≤ _; omega⟩
  · exact ⟨hb.1, hb.2.1, by omega⟩
def mst (P : Pt) (i : Nat) (c : Int) : Int := if P 15 i = 0 ∧ P 8 (6 * P 9 i + P 10 i).toNat < P 11 i ∧ P 13 i ≤ P 2 6 % 96 ∧ P 2 6 % 96 ≤ P 14 i then c + 1 else c
theorem mst_b {P : Pt} (n : Nat) : 0 ≤ iter (mst P) n 0 ∧ iter (mst P) n 0 ≤ n := by
  refine iter_inv (st := mst P) (I := fun n c => 0 ≤ c ∧ c ≤ (n : Int)) ⟨by simp, by simp⟩ ?_
  intro i b _ hb
  unfold mst
  split <;> omega
/-- how loud a maker is at a house -/
def hdP (P : Pt) (m : Nat) (h : Int) : Int := max 0 (P 21 m - farP P (P 16 m) h)
theorem hdP_b {P : Pt} (W : WF P) {m : Nat} {h : Int} (hm : (m : Int) < P 2 2) (hh : 0 ≤ h ∧ h < 12) : 0 ≤ hdP P m h ∧ hdP P m h ≤ 99 := by
  have a := W.mk hm
  have b := W.sc
  have c := farP_r W (a := P 16 m) (b := h) (by omega) hh
  unfold hdP
  omega
def nst (P : Pt) (h : Int) (m : Nat) (c : Int) : Int := if P 22 m = 1 then c + hdP P m h else c
theorem nst_b {P : Pt} (W : WF P) {h : Int} (hh : 0 ≤ h ∧ h < 12) (n : Nat) (hn : (n : Int) ≤ P 2 2) : 0 ≤ iter (nst P h) n 0 ∧ iter (nst P h) n 0 ≤ 99 * n := by
  refine iter_inv (st := nst P h) (I := fun n c => 0 ≤ c ∧ c ≤ 99 * (n : Int)) ⟨by simp, by simp⟩ ?_
  intro i b hi hb
  have a := hdP_b W (m := i) (h := h) (by omega) hh
  unfold nst
  split <;> omega
def lst (P : Pt) (m : Nat) (h : Nat) (c : Int) : Int := c + hdP P m h
theorem lst_b {P : Pt} (W : WF P) {m : Nat} (hm : (m : Int) < P 2 2) (n : Nat) (hn : n ≤ 12) : 0 ≤ iter (lst P m) n 0 ∧ iter (lst P m) n 0 ≤ 99 * n := by
  refine iter_inv (st := lst P m) (I := fun n c => 0 ≤ c ∧ c ≤ 99 * (n : Int)) ⟨by simp, by simp⟩ ?_
  intro i b hi hb
  have a := hdP_b W (m := m) (h := i) hm (by omega)
  unfold lst
  omega
/-- the first of the greatest -/
def pick (f : Nat → Int) (i : Nat) (a : Int × Int) : Int × Int := if a.1 = -2 ∨ a.2 < f i then ((i : Int), f i) else a
theorem pick_b {f : Nat → Int} (n : Nat) : (iter (pick f) n (-2, 0)).1 = -2 ∨ (0 ≤ (iter (pick f) n (-2, 0)).1 ∧ (iter (pick f) n (-2, 0)).1 < n) := by
  refine iter_inv (st := pick f) (I := fun n a => a.1 = -2 ∨ (0 ≤ a.1 ∧ a.1 < (n : Int))) (Or.inl rfl) ?_
  intro i b hi hb
  unfold pick
  split
  · exact Or.inr ⟨by show (0 : Int) ≤ (i : Int); omega, by show (i : Int) < _; omega⟩
  · omega
def gst (P : Pt) (h : Int) (o : Nat) (c : Int) : Int := w64 (c + w64 (P 38 (12 * o + h).toNat - P 38 (12 * h + o).toNat))
def pst (P : Pt) (s : Int) (i : Nat) (c : Int) : Int := if band (s / 2 ^ i) 1 = 1 then c + P 31 i else c
theorem pst_b {P : Pt} (W : WF P) {s : Int} (n : Nat) (hn : (n : Int) ≤ P 2 4) : 0 ≤ iter (pst P s) n 0 ∧ iter (pst P s) n 0 ≤ 9999 * n := by
  refine iter_inv (st := pst P s) (I := fun n c => 0 ≤ c ∧ c ≤ 9999 * (n : Int)) ⟨by simp, by simp⟩ ?_
  intro i b hi hb
  have a := W.it (n := i) (by omega)
  unfold pst
  split <;> omega
def wst (P : Pt) (s : Int) (i : Nat) (c : Int) : Int := if P 32 i = s then w64 (c + P 33 i) else c
def est (P : Pt) (s : Int) (i : Nat) (c : Int) : Int := if P 32 i - P 2 6 ≤ s then max c (P 32 i - P 2 6) else c
def ahst (P : Pt) (i : Nat) (c : Int) : Int := w64 (c + P 37 i)
section LPS
variable {G : Gl} {w : Wd} {k : Nat} {σ : Mem} {Q : Option AV → Mem → Prop} {P : Pt} {g : Prop} {t : Nat}
set_option maxRecDepth 100000 in
set_option maxHeartbeats 1000000 in
theorem kc_knock_l (W : WF P) (hk : 8 ≤ k) {h : Int} (q : ∀ σ', RT True σ' 1 (iter (kst h) (P 2 1).toNat (P, 0)).1 → same (fun o f => o == 1 && f == 11) σ σ' → Q (some (vi (iter (kst h) (P 2 1).toNat (P, 0)).2)) σ') : ∀ (m : Nat) (i c : Int) (σ' : Mem) (l4 : Option AV), 0 ≤ i → i ≤ P 2 1 → P 2 1 < i + m → RT True σ' 1 (iter (kst h) i.toNat (P, 0)).1 → c = (iter (kst h) i.toNat (P, 0)).2 → same (fun o f => o == 1 && f == 11) σ σ' → TT G w w w k (0, 0) 85 17 [some (vr 0 0 0), some (vi h), some (vi c), some (vi i), l4] [] σ' Q
  | 0, i, c, σ', l4, h0, h1, h2, _, _, _ => by omega
  | m + 1, i, c, σ', l4, h0, h1, h2, R, hc, hs => by
    obtain ⟨iv1, iv2, iv3⟩ := kst_inv (P := P) (h := h) i.toNat
    have ih := kc_knock_l W hk q m (i + 1)
    rw [iter_toNat _ h0] at ih
    have e1 := R.needs.trans (iv1 2 1 (by decide))
    have wn := W.sc.2.1
    have s0 := R.need0 (n := i.toNat)
    have s6 := R.need6 (n := i.toNat)
    have hlt : i < P 2 1 → i.toNat < 40 := fun z => by omega
    refine TT_vb ok85 (sm3_ok G w) 60 [17] ?_
    have kn : ¬ ((iter (kst h) i.toNat (P, 0)).1 9 i.toNat = h ∧ (iter (kst h) i.toNat (P, 0)).1 15 i.toNat = 0) → kst h i.toNat (iter (kst h) i.toNat (P, 0)) = iter (kst h) i.toNat (P, 0) := fun z => if_neg z
    have kp : ((iter (kst h) i.toNat (P, 0)).1 9 i.toNat = h ∧ (iter (kst h) i.toNat (P, 0)).1 15 i.toNat = 0) → kst h i.toNat (iter (kst h) i.toNat (P, 0)) = (pu (iter (kst h) i.toNat (P, 0)).1 15 i.toNat 1, (iter (kst h) i.toNat (P, 0)).2 + 1) := fun z => if_pos z
    simp -implicitDefEqProofs only [↓b85_0, ↓b85_8, ↓b85_11, ↓b85_13, ↓b85_17, ↓b85_28, ↓b85_37, ↓b85_47, ↓b85_55, ↓b85_64, ↓b85_70, b85_0, b85_8, b85_11, b85_13, b85_17, b85_28, b85_37, b85_47, b85_55, b85_64, b85_70, nLE1, layE7, layE4, layE3, layE2, e1, k3_45, r45, I32, ↓xb, xb, ps, lpad, lat, aok2, rd2, aaok, aav, alok, alen, aok, akk, csum, isLg, cmpI, clsE, Option.elim, eq_self, List.mem_cons, List.not_mem_nil, or_false, false_or, List.append_nil, List.nil_append, List.cons_append, List.append_eq, List.replicate, List.length_cons, List.length_nil, List.map_cons, List.map_nil, ↓reduceIte, reduceCtorEq, if_true, if_false, true_and, and_true, false_and, and_false, and_self, not_true_eq_false, not_false_eq_true, forall_const, true_implies, false_implies, implies_true, Nat.reduceAdd, Nat.reduceSub, Nat.reduceLT, Nat.reduceLeDiff, Nat.reduceEqDiff, Nat.reduceMul, Nat.reducePow, Nat.add_one_ne_zero, Nat.add_one_sub_one, Nat.add_zero, Nat.zero_add, Int.reduceLT, Int.reduceLE, Int.reduceNeg, Int.reduceAdd, Int.reduceSub, Int.reduceToNat, Int.reduceEq, Int.reduceMul, Int.reducePow, Int.cast_ofNat_Int, Int.toNat_natCast, ne_eq, Bool.false_eq_true, true_or, or_true, or_self, Nat.not_lt_zero, ite_e0, ite_e1, lc_lt, lc_ge, lc_gt, lc_le, lc_eq, Classical.not_not]
    with_reducible repeat' (first | (refine And.intro ?_ ?_) | intro _)
    all_goals try omega
    · have ei : i = P 2 1 := by omega
      rw [hc, ei]
      rw [ei] at R
      exact q σ' R hs
    · have ht := hlt (by omega)
      have s0 := s0 ht; have s6 := s6 ht
      rw [kn (by omega)] at ih
      exact ih _ _ _ (by omega) (by omega) (by omega) R hc hs
    · have ht := hlt (by omega)
      have s0 := s0 ht; have s6 := s6 ht
      rw [kn (by omega)] at ih
      exact ih _ _ _ (by omega) (by omega) (by omega) R hc hs
    · have ht := hlt (by omega)
      have s0 := s0 ht; have s6 := s6 ht
      rw [kp (by omega)] at ih
      exact ih _ _ _ (by omega) (by omega) (by omega) (R.u_need6 ht) (by rw [hc]) (hs.put rfl)
set_option maxRecDepth 100000 in
set_option maxHeartbeats 1000000 in
theorem kc_knock (R : RT True σ 1 P) (W : WF P) (hk : 8 ≤ k) {h : Int} (q0 : ¬ (0 ≤ h ∧ h < P 2 0) → Q (some (vi (-1))) σ) (q1 : (0 ≤ h ∧ h < P 2 0) → ∀ σ', RT True σ' 1 (iter (kst h) (P 2 1).toNat (P, 0)).1 → same (fun o f => o == 1 && f == 11) σ σ' → Q (some (vi (iter (kst h) (P 2 1).toNat (P, 0)).2)) σ') : CC G w w k (0, 0) 85 [vr 0 0 0, vi h] σ Q := by
  have e1 := R.houses
  have wn := W.sc.2.1
  refine CC_vb ok85 (by decide) (sm3_ok G w) 60 [17] (Nat.le_of_ble_eq_true rfl) ?_
  simp -implicitDefEqProofs only [↓b85_0, ↓b85_8, ↓b85_11, ↓b85_13, ↓b85_17, ↓b85_28, ↓b85_37, ↓b85_47, ↓b85_55, ↓b85_64, ↓b85_70, b85_0, b85_8, b85_11, b85_13, b85_17, b85_28, b85_37, b85_47, b85_55, b85_64, b85_70, nLE1, layE7, layE4, layE3, layE2, e1, k3_45, r45, I32, ↓xb, xb, ps, lpad, lat, aok2, rd2, aaok, aav, alok, alen, aok, akk, csum, isLg, cmpI, clsE, Option.elim, eq_self, List.mem_cons, List.not_mem_nil, or_false, false_or, List.append_nil, List.nil_append, List.cons_append, List.append_eq, List.replicate, List.length_cons, List.length_nil, List.map_cons, List.map_nil, ↓reduceIte, reduceCtorEq, if_true, if_false, true_and, and_true, false_and, and_false, and_self, not_true_eq_false, not_false_eq_true, forall_const, true_implies, false_implies, implies_true, Nat.reduceAdd, Nat.reduceSub, Nat.reduceLT, Nat.reduceLeDiff, Nat.reduceEqDiff, Nat.reduceMul, Nat.reducePow, Nat.add_one_ne_zero, Nat.add_one_sub_one, Nat.add_zero, Nat.zero_add, Int.reduceLT, Int.reduceLE, Int.reduceNeg, Int.reduceAdd, Int.reduceSub, Int.reduceToNat, Int.reduceEq, Int.reduceMul, Int.reducePow, Int.cast_ofNat_Int, Int.toNat_natCast, ne_eq, Bool.false_eq_true, true_or, or_true, or_self, Nat.not_lt_zero, ite_e0, ite_e1, lc_lt, lc_ge, lc_gt, lc_le, lc_eq, Classical.not_not]
  with_reducible repeat' (first | (refine And.intro ?_ ?_) | intro _)
  all_goals try omega
  all_goals try exact q0 (by omega)
  refine kc_knock_l W hk (fun σ' a b => q1 (by omega) σ' a b) 41 0 0 σ none (by omega) (by omega) (by omega) R rfl same.refl
set_option maxRecDepth 100000 in
set_option maxHeartbeats 1000000 in
theorem kx_knock_l (W : WF P) (hk : 8 ≤ k) {h : Int} (q : ∀ σ', MR σ' (iter (kst h) (P 2 1).toNat (P, 0)).1 → same (fun o f => o == 21 && f == 15) σ σ' → Q (some (vi (iter (kst h) (P 2 1).toNat (P, 0)).2)) σ') : ∀ (m : Nat) (i c : Int) (σ' : Mem), 0 ≤ i → i ≤ P 2 1 → P 2 1 < i + m → MR σ' (iter (kst h) i.toNat (P, 0)).1 → c = (iter (kst h) i.toNat (P, 0)).2 → same (fun o f => o == 21 && f == 15) σ σ' → TT G w w w k (0, 0) 144 14 [some (vr 21 0 0), some (vi h), some (vi c), some (vi i)] [] σ' Q
  | 0, i, c, σ', h0, h1, h2, _, _, _ => by omega
  | m + 1, i, c, σ', h0, h1, h2, M, hc, hs => by
    obtain ⟨iv1, iv2, iv3⟩ := kst_inv (P := P) (h := h) i.toNat
    have ih := kx_knock_l W hk q m (i + 1)
    rw [iter_toNat _ h0] at ih
    have e1 := (M 2 1 (by decide) (by decide)).trans (iv1 2 1 (by decide))
    have wn := W.sc.2.1
    have s0 := M 9 i.toNat (by decide) (by decide)
    have s6 := M 15 i.toNat (by decide) (by decide)
    refine TT_vb ok144 (sm3_ok G w) 60 [14] ?_
    have kn : ¬ ((iter (kst h) i.toNat (P, 0)).1 9 i.toNat = h ∧ (iter (kst h) i.toNat (P, 0)).1 15 i.toNat = 0) → kst h i.toNat (iter (kst h) i.toNat (P, 0)) = iter (kst h) i.toNat (P, 0) := fun z => if_neg z
    have kp : ((iter (kst h) i.toNat (P, 0)).1 9 i.toNat = h ∧ (iter (kst h) i.toNat (P, 0)).1 15 i.toNat = 0) → kst h i.toNat (iter (kst h) i.toNat (P, 0)) = (pu (iter (kst h) i.toNat (P, 0)).1 15 i.toNat 1, (iter (kst h) i.toNat (P, 0)).2 + 1) := fun z => if_pos z
    simp -implicitDefEqProofs only [↓b144_0, ↓b144_5, ↓b144_8, ↓b144_10, ↓b144_14, ↓b144_24, ↓b144_34, ↓b144_43, ↓b144_53, ↓b144_59, b144_0, b144_5, b144_8, b144_10, b144_14, b144_24, b144_34, b144_43, b144_53, b144_59, nLE2, layE8, e1, k3_130, r130, I32, ↓xb, xb, ps, lpad, lat, aok2, rd2, aaok, aav, alok, alen, aok, akk, csum, isLg, cmpI, clsE, Option.elim, eq_self, List.mem_cons, List.not_mem_nil, or_false, false_or, List.append_nil, List.nil_append, List.cons_append, List.append_eq, List.replicate, List.length_cons, List.length_nil, List.map_cons, List.map_nil, ↓reduceIte, reduceCtorEq, if_true, if_false, true_and, and_true, false_and, and_false, and_self, not_true_eq_false, not_false_eq_true, forall_const, true_implies, false_implies, implies_true, Nat.reduceAdd, Nat.reduceSub, Nat.reduceLT, Nat.reduceLeDiff, Nat.reduceEqDiff, Nat.reduceMul, Nat.reducePow, Nat.add_one_ne_zero, Nat.add_one_sub_one, Nat.add_zero, Nat.zero_add, Int.reduceLT, Int.reduceLE, Int.reduceNeg, Int.reduceAdd, Int.reduceSub, Int.reduceToNat, Int.reduceEq, Int.reduceMul, Int.reducePow, Int.cast_ofNat_Int, Int.toNat_natCast, ne_eq, Bool.false_eq_true, true_or, or_true, or_self, Nat.not_lt_zero, ite_e0, ite_e1, lc_lt, lc_ge, lc_gt, lc_le, lc_eq, Classical.not_not]
    with_reducible repeat' (first | (refine And.intro ?_ ?_) | intro _)
    all_goals try omega
    · have ei : i = P 2 1 := by omega
      rw [hc, ei]
      rw [ei] at M
      exact q σ' M hs
    · rw [kn (by omega)] at ih
      exact ih _ _ (by omega) (by omega) (by omega) M hc hs
    · rw [kn (by omega)] at ih
      exact ih _ _ (by omega) (by omega) (by omega) M hc hs
    · rw [kp (by omega)] at ih
      exact ih _ _ (by omega) (by omega) (by omega) M.put (by rw [hc]) (hs.put rfl)
set_option maxRecDepth 100000 in
set_option maxHeartbeats 1000000 in
theorem kx_knock (M : MR σ P) (W : WF P) (hk : 8 ≤ k) {h : Int} (q0 : ¬ (0 ≤ h ∧ h < P 2 0) → Q (some (vi (-1))) σ) (q1 : (0 ≤ h ∧ h < P 2 0) → ∀ σ', MR σ' (iter (kst h) (P 2 1).toNat (P, 0)).1 → same (fun o f => o == 21 && f == 15) σ σ' → Q (some (vi (iter (kst h) (P 2 1).toNat (P, 0)).2)) σ') : CC G w w k (0, 0) 144 [vr 21 0 0, vi h] σ Q := by
  have e1 := M 2 0 (by decide) (by decide)
  have wh := W.sc.1
  have wn := W.sc.2.1
  refine CC_vb ok144 (by decide) (sm3_ok G w) 60 [14] (Nat.le_of_ble_eq_true rfl) ?_
  simp -implicitDefEqProofs only [↓b144_0, ↓b144_5, ↓b144_8, ↓b144_10, ↓b144_14, ↓b144_24, ↓b144_34, ↓b144_43, ↓b144_53, ↓b144_59, b144_0, b144_5, b144_8, b144_10, b144_14, b144_24, b144_34, b144_43, b144_53, b144_59, nLE2, layE8, e1, k3_130, r130, I32, ↓xb, xb, ps, lpad, lat, aok2, rd2, aaok, aav, alok, alen, aok, akk, csum, isLg, cmpI, clsE, Option.elim, eq_self, List.mem_cons, List.not_mem_nil, or_false, false_or, List.append_nil, List.nil_append, List.cons_append, List.append_eq, List.replicate, List.length_cons, List.length_nil, List.map_cons, List.map_nil, ↓reduceIte, reduceCtorEq, if_true, if_false, true_and, and_true, false_and, and_false, and_self, not_true_eq_false, not_false_eq_true, forall_const, true_implies, false_implies, implies_true, Nat.reduceAdd, Nat.reduceSub, Nat.reduceLT, Nat.reduceLeDiff, Nat.reduceEqDiff, Nat.reduceMul, Nat.reducePow, Nat.add_one_ne_zero, Nat.add_one_sub_one, Nat.add_zero, Nat.zero_add, Int.reduceLT, Int.reduceLE, Int.reduceNeg, Int.reduceAdd, Int.reduceSub, Int.reduceToNat, Int.reduceEq, Int.reduceMul, Int.reducePow, Int.cast_ofNat_Int, Int.toNat_natCast, ne_eq, Bool.false_eq_true, true_or, or_true, or_self, Nat.not_lt_zero, ite_e0, ite_e1, lc_lt, lc_ge, lc_gt, lc_le, lc_eq, Classical.not_not]
  with_reducible repeat' (first | (refine And.intro ?_ ?_) | intro _)
  all_goals try omega
  all_goals try exact q0 (by omega)
  refine kx_knock_l W hk (fun σ' a b => q1 (by omega) σ' a b) 41 0 0 σ (by omega) (by omega) (by omega) M rfl same.refl
set_option maxRecDepth 100000 in
set_option maxHeartbeats 1000000 in
theorem kc_missed_l (R : RT g σ t P) (W : WF P) (hk : 8 ≤ k) (ht : t = 1) (q : Q (some (vi (iter (mst P) (P 2 1).toNat 0))) σ) : ∀ (m : Nat) (i c : Int) (l3 l4 : Option AV), 0 ≤ i → i ≤ P 2 1 → P 2 1 < i + m → c = iter (mst P) i.toNat 0 → TT G w w w k (0, 0) 106 4 [some (vr 0 0 0), some (vi c), some (vi i), l3, l4] [] σ Q
  | 0, i, c, l3, l4, h0, h1, h2, _ => by omega
  | m + 1, i, c, l3, l4, h0, h1, h2, hc => by
    have ih := kc_missed_l R W hk ht q m (i + 1)
    rw [iter_toNat _ h0, ← hc] at ih
    obtain ⟨⟨w1, w2⟩, ⟨w3, w4⟩, ⟨w5, w6⟩, ⟨w7, w8⟩, ⟨w9, w10⟩, ⟨w11, w12⟩, w13, ⟨w14, w15⟩⟩ := W.sc
    subst ht
    have hb := mst_b (P := P) i.toNat; rw [← hc] at hb
    have e1 := R.houses; have e2 := R.needs; have e3 := R.makers; have e4 := R.cables; have e5 := R.items; have e6 := R.ends; have e7 := R.now; have e8 := R.said
    by_cases hi : i < P 2 1
    · obtain ⟨d1, d2, d3, d4, d5, d6, d7⟩ := W.nd (n := i.toNat) (by omega)
      have s0 := R.need0 (n := i.toNat) (by omega); have s1 := R.need1 (n := i.toNat) (by omega); have s2 := R.need2 (n := i.toNat) (by omega); have s4 := R.need4 (n := i.toNat) (by omega); have s5 := R.need5 (n := i.toNat) (by omega); have s6 := R.need6 (n := i.toNat) (by omega)
      have st := R.storeI (h := P 9 i.toNat) (c := P 10 i.toNat) (by omega) (by omega)
      refine TT_vb ok106 (sm3_ok G w) 60 [4] ?_
      simp -implicitDefEqProofs only [↓b106_0, ↓b106_4, ↓b106_15, ↓b106_24, ↓b106_36, ↓b106_46, ↓b106_50, ↓b106_51, ↓b106_60, ↓b106_65, ↓b106_73, ↓b106_76, ↓b106_79, ↓b106_85, b106_0, b106_4, b106_15, b106_24, b106_36, b106_46, b106_50, b106_51, b106_60, b106_65, b106_73, b106_76, b106_79, b106_85, nLE2, layE7, layE4, layE3, layE2, e1, e2, e3, e4, e5, e6, e7, e8, up_rd, s0, s1, s2, s4, s5, s6, st, k3_54, r54, I32, ↓xb, xb, ps, lpad, lat, aok2, rd2, aaok, aav, alok, alen, aok, akk, csum, isLg, cmpI, clsE, Option.elim, eq_self, List.mem_cons, List.not_mem_nil, or_false, false_or, List.append_nil, List.nil_append, List.cons_append, List.append_eq, List.replicate, List.length_cons, List.length_nil, List.map_cons, List.map_nil, ↓reduceIte, reduceCtorEq, if_true, if_false, true_and, and_true, false_and, and_false, and_self, not_true_eq_false, not_false_eq_true, forall_const, true_implies, false_implies, implies_true, Nat.reduceAdd, Nat.reduceSub, Nat.reduceLT, Nat.reduceLeDiff, Nat.reduceEqDiff, Nat.reduceMul, Nat.reducePow, Nat.add_one_ne_zero, Nat.add_one_sub_one, Nat.add_zero, Nat.zero_add, Int.reduceLT, Int.reduceLE, Int.reduceNeg, Int.reduceAdd, Int.reduceSub, Int.reduceToNat, Int.reduceEq, Int.reduceMul, Int.reducePow, Int.cast_ofNat_Int, Int.toNat_natCast, ne_eq, Bool.false_eq_true, true_or, or_true, or_self, Nat.not_lt_zero, ite_e0, ite_e1, lc_lt, lc_ge, lc_gt, lc_le, lc_eq, Classical.not_not]
      with_reducible repeat' (first | (refine And.intro ?_ ?_) | intro _)
      all_goals try omega
      all_goals try (exact ih _ _ _ (by omega) (by omega) (by omega) (by unfold mst; split <;> omega))
    · refine TT_vb ok106 (sm3_ok G w) 60 [4] ?_
      simp -implicitDefEqProofs only [↓b106_0, ↓b106_4, ↓b106_15, ↓b106_24, ↓b106_36, ↓b106_46, ↓b106_50, ↓b106_51, ↓b106_60, ↓b106_65, ↓b106_73, ↓b106_76, ↓b106_79, ↓b106_85, b106_0, b106_4, b106_15, b106_24, b106_36, b106_46, b106_50, b106_51, b106_60, b106_65, b106_73, b106_76, b106_79, b106_85, nLE2, layE7, layE4, layE3, layE2, e1, e2, e3, e4, e5, e6, e7, e8, up_rd, k3_54, r54, I32, ↓xb, xb, ps, lpad, lat, aok2, rd2, aaok, aav, alok, alen, aok, akk, csum, isLg, cmpI, clsE, Option.elim, eq_self, List.mem_cons, List.not_mem_nil, or_false, false_or, List.append_nil, List.nil_append, List.cons_append, List.append_eq, List.replicate, List.length_cons, List.length_nil, List.map_cons, List.map_nil, ↓reduceIte, reduceCtorEq, if_true, if_false, true_and, and_true, false_and, and_false, and_self, not_true_eq_false, not_false_eq_true, forall_const, true_implies, false_implies, implies_true, Nat.reduceAdd, Nat.reduceSub, Nat.reduceLT, Nat.reduceLeDiff, Nat.reduceEqDiff, Nat.reduceMul, Nat.reducePow, Nat.add_one_ne_zero, Nat.add_one_sub_one, Nat.add_zero, Nat.zero_add, Int.reduceLT, Int.reduceLE, Int.reduceNeg, Int.reduceAdd, Int.reduceSub, Int.reduceToNat, Int.reduceEq, Int.reduceMul, Int.reducePow, Int.cast_ofNat_Int, Int.toNat_natCast, ne_eq, Bool.false_eq_true, true_or, or_true, or_self, Nat.not_lt_zero, ite_e0, ite_e1, lc_lt, lc_ge, lc_gt, lc_le, lc_eq, Classical.not_not]
      with_reducible repeat' (first | (refine And.intro ?_ ?_) | intro _)
      all_goals try omega
      have ei : i = P 2 1 := by omega
      rw [ei] at hc; rw [hc]; exact q
set_option maxRecDepth 100000 in
set_option maxHeartbeats 1000000 in
theorem kx_missed_l (M : MR σ P) (W : WF P) (hk : 8 ≤ k)  (q : Q (some (vi (iter (mst P) (P 2 1).toNat 0))) σ) : ∀ (m : Nat) (i c : Int), 0 ≤ i → i ≤ P 2 1 → P 2 1 < i + m → c = iter (mst P) i.toNat 0 → TT G w w w k (0, 0) 211 4 [some (vr 21 0 0), some (vi c), some (vi i)] [] σ Q
  | 0, i, c, h0, h1, h2, _ => by omega
  | m + 1, i, c, h0, h1, h2, hc => by
    have ih := kx_missed_l M W hk  q m (i + 1)
    rw [iter_toNat _ h0, ← hc] at ih
    obtain ⟨⟨w1, w2⟩, ⟨w3, w4⟩, ⟨w5, w6⟩, ⟨w7, w8⟩, ⟨w9, w10⟩, ⟨w11, w12⟩, w13, ⟨w14, w15⟩⟩ := W.sc
    have hb := mst_b (P := P) i.toNat; rw [← hc] at hb
    have hM : ∀ f i, 2 ≤ f → f ≤ 38 → σ 21 f 0 i = P f i := M
    by_cases hi : i < P 2 1
    · obtain ⟨d1, d2, d3, d4, d5, d6, d7⟩ := W.nd (n := i.toNat) (by omega)
      refine TT_vb ok211 (sm3_ok G w) 60 [4] ?_
      simp -implicitDefEqProofs only [↓b211_0, ↓b211_4, ↓b211_14, ↓b211_24, ↓b211_29, ↓b211_32, ↓b211_62, ↓b211_66, ↓b211_67, ↓b211_75, b211_0, b211_4, b211_14, b211_24, b211_29, b211_32, b211_62, b211_66, b211_67, b211_75, nLE4, layE8, hM, up_rd, k3_184, r184, I32, ↓xb, xb, ps, lpad, lat, aok2, rd2, aaok, aav, alok, alen, aok, akk, csum, isLg, cmpI, clsE, Option.elim, eq_self, List.mem_cons, List.not_mem_nil, or_false, false_or, List.append_nil, List.nil_append, List.cons_append, List.append_eq, List.replicate, List.length_cons, List.length_nil, List.map_cons, List.map_nil, ↓reduceIte, reduceCtorEq, if_true, if_false, true_and, and_true, false_and, and_false, and_self, not_true_eq_false, not_false_eq_true, forall_const, true_implies, false_implies, implies_true, Nat.reduceAdd, Nat.reduceSub, Nat.reduceLT, Nat.reduceLeDiff, Nat.reduceEqDiff, Nat.reduceMul, Nat.reducePow, Nat.add_one_ne_zero, Nat.add_one_sub_one, Nat.add_zero, Nat.zero_add, Int.reduceLT, Int.reduceLE, Int.reduceNeg, Int.reduceAdd, Int.reduceSub, Int.reduceToNat, Int.reduceEq, Int.reduceMul, Int.reducePow, Int.cast_ofNat_Int, Int.toNat_natCast, ne_eq, Bool.false_eq_true, true_or, or_true, or_self, Nat.not_lt_zero, ite_e0, ite_e1, lc_lt, lc_ge, lc_gt, lc_le, lc_eq, Classical.not_not]
      with_reducible repeat' (first | (refine And.intro ?_ ?_) | intro _)
      all_goals try omega
      all_goals try (exact ih _ (by omega) (by omega) (by omega) (by unfold mst; split <;> omega))
    · refine TT_vb ok211 (sm3_ok G w) 60 [4] ?_
      simp -implicitDefEqProofs only [↓b211_0, ↓b211_4, ↓b211_14, ↓b211_24, ↓b211_29, ↓b211_32, ↓b211_62, ↓b211_66, ↓b211_67, ↓b211_75, b211_0, b211_4, b211_14, b211_24, b211_29, b211_32, b211_62, b211_66, b211_67, b211_75, nLE4, layE8, hM, up_rd, k3_184, r184, I32, ↓xb, xb, ps, lpad, lat, aok2, rd2, aaok, aav, alok, alen, aok, akk, csum, isLg, cmpI, clsE, Option.elim, eq_self, List.mem_cons, List.not_mem_nil, or_false, false_or, List.append_nil, List.nil_append, List.cons_append, List.append_eq, List.replicate, List.length_cons, List.length_nil, List.map_cons, List.map_nil, ↓reduceIte, reduceCtorEq, if_true, if_false, true_and, and_true, false_and, and_false, and_self, not_true_eq_false, not_false_eq_true, forall_const, true_implies, false_implies, implies_true, Nat.reduceAdd, Nat.reduceSub, Nat.reduceLT, Nat.reduceLeDiff, Nat.reduceEqDiff, Nat.reduceMul, Nat.reducePow, Nat.add_one_ne_zero, Nat.add_one_sub_one, Nat.add_zero, Nat.zero_add, Int.reduceLT, Int.reduceLE, Int.reduceNeg, Int.reduceAdd, Int.reduceSub, Int.reduceToNat, Int.reduceEq, Int.reduceMul, Int.reducePow, Int.cast_ofNat_Int, Int.toNat_natCast, ne_eq, Bool.false_eq_true, true_or, or_true, or_self, Nat.not_lt_zero, ite_e0, ite_e1, lc_lt, lc_ge, lc_gt, lc_le, lc_eq, Classical.not_not]
      with_reducible repeat' (first | (refine And.intro ?_ ?_) | intro _)
      all_goals try omega
      have ei : i = P 2 1 := by omega
      rw [ei] at hc; rw [hc]; exact q
set_option maxRecDepth 100000 in
set_option maxHeartbeats 1000000 in
theorem kc_missed (R : RT True σ 1 P) (W : WF P) (hk : 8 ≤ k) (q : Q (some (vi (iter (mst P) (P 2 1).toNat 0))) σ) : CC G w w k (0, 0) 106 [vr 0 0 0] σ Q := by
  have wn := W.sc.2.1
  refine CC_vb ok106 (by decide) (sm3_ok G w) 60 [4] (Nat.le_of_ble_eq_true rfl) ?_
  simp -implicitDefEqProofs only [↓b106_0, ↓b106_4, ↓b106_15, ↓b106_24, ↓b106_36, ↓b106_46, ↓b106_50, ↓b106_51, ↓b106_60, ↓b106_65, ↓b106_73, ↓b106_76, ↓b106_79, ↓b106_85, b106_0, b106_4, b106_15, b106_24, b106_36, b106_46, b106_50, b106_51, b106_60, b106_65, b106_73, b106_76, b106_79, b106_85, nLE2, layE7, layE4, layE3, layE2, hk, k3_54, r54, I32, ↓xb, xb, ps, lpad, lat, aok2, rd2, aaok, aav, alok, alen, aok, akk, csum, isLg, cmpI, clsE, Option.elim, eq_self, List.mem_cons, List.not_mem_nil, or_false, false_or, List.append_nil, List.nil_append, List.cons_append, List.append_eq, List.replicate, List.length_cons, List.length_nil, List.map_cons, List.map_nil, ↓reduceIte, reduceCtorEq, if_true, if_false, true_and, and_true, false_and, and_false, and_self, not_true_eq_false, not_false_eq_true, forall_const, true_implies, false_implies, implies_true, Nat.reduceAdd, Nat.reduceSub, Nat.reduceLT, Nat.reduceLeDiff, Nat.reduceEqDiff, Nat.reduceMul, Nat.reducePow, Nat.add_one_ne_zero, Nat.add_one_sub_one, Nat.add_zero, Nat.zero_add, Int.reduceLT, Int.reduceLE, Int.reduceNeg, Int.reduceAdd, Int.reduceSub, Int.reduceToNat, Int.reduceEq, Int.reduceMul, Int.reducePow, Int.cast_ofNat_Int, Int.toNat_natCast, ne_eq, Bool.false_eq_true, true_or, or_true, or_self, Nat.not_lt_zero, ite_e0, ite_e1, lc_lt, lc_ge, lc_gt, lc_le, lc_eq, Classical.not_not]
  with_reducible repeat' (first | (refine And.intro ?_ ?_) | intro _)
  all_goals try omega
  exact kc_missed_l R W hk rfl q 41 0 0 none none (by omega) (by omega) (by omega) rfl
set_option maxRecDepth 100000 in
set_option maxHeartbeats 1000000 in
theorem kx_missed (M : MR σ P) (W : WF P) (hk : 8 ≤ k) (q : Q (some (vi (iter (mst P) (P 2 1).toNat 0))) σ) : CC G w w k (0, 0) 211 [vr 21 0 0] σ Q := by
  have wn := W.sc.2.1
  refine CC_vb ok211 (by decide) (sm3_ok G w) 60 [4] (Nat.le_of_ble_eq_true rfl) ?_
  simp -implicitDefEqProofs only [↓b211_0, ↓b211_4, ↓b211_14, ↓b211_24, ↓b211_29, ↓b211_32, ↓b211_62, ↓b211_66, ↓b211_67, ↓b211_75, b211_0, b211_4, b211_14, b211_24, b211_29, b211_32, b211_62, b211_66, b211_67, b211_75, nLE4, layE8, hk, k3_184, r184, I32, ↓xb, xb, ps, lpad, lat, aok2, rd2, aaok, aav, alok, alen, aok, akk, csum, isLg, cmpI, clsE, Option.elim, eq_self, List.mem_cons, List.not_mem_nil, or_false, false_or, List.append_nil, List.nil_append, List.cons_append, List.append_eq, List.replicate, List.length_cons, List.length_nil, List.map_cons, List.map_nil, ↓reduceIte, reduceCtorEq, if_true, if_false, true_and, and_true, false_and, and_false, and_self, not_true_eq_false, not_false_eq_true, forall_const, true_implies, false_implies, implies_true, Nat.reduceAdd, Nat.reduceSub, Nat.reduceLT, Nat.reduceLeDiff, Nat.reduceEqDiff, Nat.reduceMul, Nat.reducePow, Nat.add_one_ne_zero, Nat.add_one_sub_one, Nat.add_zero, Nat.zero_add, Int.reduceLT, Int.reduceLE, Int.reduceNeg, Int.reduceAdd, Int.reduceSub, Int.reduceToNat, Int.reduceEq, Int.reduceMul, Int.reducePow, Int.cast_ofNat_Int, Int.toNat_natCast, ne_eq, Bool.false_eq_true, true_or, or_true, or_self, Nat.not_lt_zero, ite_e0, ite_e1, lc_lt, lc_ge, lc_gt, lc_le, lc_eq, Classical.not_not]
  with_reducible repeat' (first | (refine And.intro ?_ ?_) | intro _)
  all_goals try omega
  exact kx_missed_l M W hk q 41 0 0  (by omega) (by omega) (by omega) rfl
set_option maxRecDepth 100000 in
set_option maxHeartbeats 1000000 in
theorem kc_noise_l (R : RT g σ t P) (W : WF P) (hk : 8 ≤ k) (ht : t = 1) {h : Int} (hh : 0 ≤ h ∧ h < P 2 0) (q : Q (some (vi (iter (nst P h) (P 2 2).toNat 0))) σ) : ∀ (m : Nat) (i c : Int), 0 ≤ i → i ≤ P 2 2 → P 2 2 < i + m → c = iter (nst P h) i.toNat 0 → TT G w w w k (0, 0) 120 17 [some (vr 0 0 0), some (vi h), some (vi c), some (vi i)] [] σ Q
  | 0, i, c, h0, h1, h2, _ => by omega
  | m + 1, i, c, h0, h1, h2, hc => by
    have ih := kc_noise_l R W hk ht hh q m (i + 1)
    rw [iter_toNat _ h0, ← hc] at ih
    obtain ⟨⟨w1, w2⟩, ⟨w3, w4⟩, ⟨w5, w6⟩, ⟨w7, w8⟩, ⟨w9, w10⟩, ⟨w11, w12⟩, w13, ⟨w14, w15⟩⟩ := W.sc
    subst ht
    have hb := nst_b W (h := h) (by omega) i.toNat (by omega); rw [← hc] at hb
    have e1 := R.houses; have e2 := R.needs; have e3 := R.makers; have e4 := R.cables; have e5 := R.items; have e6 := R.ends; have e7 := R.now; have e8 := R.said
    by_cases hi : i < P 2 2
    · obtain ⟨d1, d2, d3, d4, d5, d6, d7, d8⟩ := W.mk (n := i.toNat) (by omega)
      have hd := hdP_b W (m := i.toNat) (h := h) (by omega) (by omega)
      have s0 := R.maker0 (n := i.toNat) (by omega); have s5 := R.maker5 (n := i.toNat) (by omega); have s6 := R.maker6 (n := i.toNat) (by omega)
      have x1 := R.xy W (a := P 16 i.toNat) (by omega); have x2 := R.xy W (a := h) (by omega); have x3 := R.far_t (a := P 16 i.toNat) (b := h) (by omega) (by omega)
      have x4 : max 0 (P 21 i.toNat - farP P (P 16 i.toNat) h) = hdP P i.toNat h := rfl
      refine TT_vb ok120 (sm3_ok G w) 60 [17] ?_
      simp -implicitDefEqProofs only [↓b120_0, ↓b120_8, ↓b120_11, ↓b120_13, ↓b120_17, ↓b120_28, ↓b120_37, ↓b120_44, ↓b120_54, ↓b120_56, ↓b120_62, b120_0, b120_8, b120_11, b120_13, b120_17, b120_28, b120_37, b120_44, b120_54, b120_56, b120_62, nLE2, layE7, layE4, layE3, layE2, e1, e2, e3, e4, e5, e6, e7, e8, up_rd, s0, s5, s6, x1, x2, x3, x4, k3_45, r45, k3_55, r55, I32, ↓xb, xb, ps, lpad, lat, aok2, rd2, aaok, aav, alok, alen, aok, akk, csum, isLg, cmpI, clsE, Option.elim, eq_self, List.mem_cons, List.not_mem_nil, or_false, false_or, List.append_nil, List.nil_append, List.cons_append, List.append_eq, List.replicate, List.length_cons, List.length_nil, List.map_cons, List.map_nil, ↓reduceIte, reduceCtorEq, if_true, if_false, true_and, and_true, false_and, and_false, and_self, not_true_eq_false, not_false_eq_true, forall_const, true_implies, false_implies, implies_true, Nat.reduceAdd, Nat.reduceSub, Nat.reduceLT, Nat.reduceLeDiff, Nat.reduceEqDiff, Nat.reduceMul, Nat.reducePow, Nat.add_one_ne_zero, Nat.add_one_sub_one, Nat.add_zero, Nat.zero_add, Int.reduceLT, Int.reduceLE, Int.reduceNeg, Int.reduceAdd, Int.reduceSub, Int.reduceToNat, Int.reduceEq, Int.reduceMul, Int.reducePow, Int.cast_ofNat_Int, Int.toNat_natCast, ne_eq, Bool.false_eq_true, true_or, or_true, or_self, Nat.not_lt_zero, ite_e0, ite_e1, lc_lt, lc_ge, lc_gt, lc_le, lc_eq, Classical.not_not]
      with_reducible repeat' (first | (refine And.intro ?_ ?_) | intro _)
      all_goals try omega
      all_goals try (exact ih _ (by omega) (by omega) (by omega) (by unfold nst; split <;> omega))
    · refine TT_vb ok120 (sm3_ok G w) 60 [17] ?_
      simp -implicitDefEqProofs only [↓b120_0, ↓b120_8, ↓b120_11, ↓b120_13, ↓b120_17, ↓b120_28, ↓b120_37, ↓b120_44, ↓b120_54, ↓b120_56, ↓b120_62, b120_0, b120_8, b120_11, b120_13, b120_17, b120_28, b120_37, b120_44, b120_54, b120_56, b120_62, nLE2, layE7, layE4, layE3, layE2, e1, e2, e3, e4, e5, e6, e7, e8, up_rd, k3_45, r45, k3_55, r55, I32, ↓xb, xb, ps, lpad, lat, aok2, rd2, aaok, aav, alok, alen, aok, akk, csum, isLg, cmpI, clsE, Option.elim, eq_self, List.mem_cons, List.not_mem_nil, or_false, false_or, List.append_nil, List.nil_append, List.cons_append, List.append_eq, List.replicate, List.length_cons, List.length_nil, List.map_cons, List.map_nil, ↓reduceIte, reduceCtorEq, if_true, if_false, true_and, and_true, false_and, and_false, and_self, not_true_eq_false, not_false_eq_true, forall_const, true_implies, false_implies, implies_true, Nat.reduceAdd, Nat.reduceSub, Nat.reduceLT, Nat.reduceLeDiff, Nat.reduceEqDiff, Nat.reduceMul, Nat.reducePow, Nat.add_one_ne_zero, Nat.add_one_sub_one, Nat.add_zero, Nat.zero_add, Int.reduceLT, Int.reduceLE, Int.reduceNeg, Int.reduceAdd, Int.reduceSub, Int.reduceToNat, Int.reduceEq, Int.reduceMul, Int.reducePow, Int.cast_ofNat_Int, Int.toNat_natCast, ne_eq, Bool.false_eq_true, true_or, or_true, or_self, Nat.not_lt_zero, ite_e0, ite_e1, lc_lt, lc_ge, lc_gt, lc_le, lc_eq, Classical.not_not]
      with_reducible repeat' (first | (refine And.intro ?_ ?_) | intro _)
      all_goals try omega
      have ei : i = P 2 2 := by omega
      rw [ei] at hc; rw [hc]; exact q
set_option maxRecDepth 100000 in
set_option maxHeartbeats 1000000 in
theorem kx_noise_l (M : MR σ P) (W : WF P) (hk : 8 ≤ k) {h : Int} (hh : 0 ≤ h ∧ h < P 2 0) (q : Q (some (vi (iter (nst P h) (P 2 2).toNat 0))) σ) : ∀ (m : Nat) (i c : Int), 0 ≤ i → i ≤ P 2 2 → P 2 2 < i + m → c = iter (nst P h) i.toNat 0 → TT G w w w k (0, 0) 235 14 [some (vr 21 0 0), some (vi h), some (vi c), some (vi i)] [] σ Q
  | 0, i, c, h0, h1, h2, _ => by omega
  | m + 1, i, c, h0, h1, h2, hc => by
    have ih := kx_noise_l M W hk hh q m (i + 1)
    rw [iter_toNat _ h0, ← hc] at ih
    obtain ⟨⟨w1, w2⟩, ⟨w3, w4⟩, ⟨w5, w6⟩, ⟨w7, w8⟩, ⟨w9, w10⟩, ⟨w11, w12⟩, w13, ⟨w14, w15⟩⟩ := W.sc
    have hb := nst_b W (h := h) (by omega) i.toNat (by omega); rw [← hc] at hb
    have hM : ∀ f i, 2 ≤ f → f ≤ 38 → σ 21 f 0 i = P f i := M
    by_cases hi : i < P 2 2
    · obtain ⟨d1, d2, d3, d4, d5, d6, d7, d8⟩ := W.mk (n := i.toNat) (by omega)
      have hd := hdP_b W (m := i.toNat) (h := h) (by omega) (by omega)
      have x1 := M.xy W (a := P 16 i.toNat) (by omega); have x2 := M.xy W (a := h) (by omega); have x3 := M.far_m (a := P 16 i.toNat) (b := h)
      have x4 : (if P 21 i.toNat - farP P (P 16 i.toNat) h < 0 then 0 else P 21 i.toNat - farP P (P 16 i.toNat) h) = hdP P i.toNat h := by unfold hdP; split <;> omega
      refine TT_vb ok235 (sm3_ok G w) 60 [14] ?_
      simp -implicitDefEqProofs only [↓b235_0, ↓b235_5, ↓b235_8, ↓b235_10, ↓b235_14, ↓b235_24, ↓b235_35, ↓b235_41, ↓b235_44, ↓b235_45, ↓b235_53, b235_0, b235_5, b235_8, b235_10, b235_14, b235_24, b235_35, b235_41, b235_44, b235_45, b235_53, nLE4, layE8, hM, up_rd, x1, x2, x3, x4, k3_130, r130, k3_234, r234, I32, ↓xb, xb, ps, lpad, lat, aok2, rd2, aaok, aav, alok, alen, aok, akk, csum, isLg, cmpI, clsE, Option.elim, eq_self, List.mem_cons, List.not_mem_nil, or_false, false_or, List.append_nil, List.nil_append, List.cons_append, List.append_eq, List.replicate, List.length_cons, List.length_nil, List.map_cons, List.map_nil, ↓reduceIte, reduceCtorEq, if_true, if_false, true_and, and_true, false_and, and_false, and_self, not_true_eq_false, not_false_eq_true, forall_const, true_implies, false_implies, implies_true, Nat.reduceAdd, Nat.reduceSub, Nat.reduceLT, Nat.reduceLeDiff, Nat.reduceEqDiff, Nat.reduceMul, Nat.reducePow, Nat.add_one_ne_zero, Nat.add_one_sub_one, Nat.add_zero, Nat.zero_add, Int.reduceLT, Int.reduceLE, Int.reduceNeg, Int.reduceAdd, Int.reduceSub, Int.reduceToNat, Int.reduceEq, Int.reduceMul, Int.reducePow, Int.cast_ofNat_Int, Int.toNat_natCast, ne_eq, Bool.false_eq_true, true_or, or_true, or_self, Nat.not_lt_zero, ite_e0, ite_e1, lc_lt, lc_ge, lc_gt, lc_le, lc_eq, Classical.not_not]
      with_reducible repeat' (first | (refine And.intro ?_ ?_) | intro _)
      all_goals try omega
      all_goals try (exact ih _ (by omega) (by omega) (by omega) (by unfold nst; split <;> omega))
    · refine TT_vb ok235 (sm3_ok G w) 60 [14] ?_
      simp -implicitDefEqProofs only [↓b235_0, ↓b235_5, ↓b235_8, ↓b235_10, ↓b235_14, ↓b235_24, ↓b235_35, ↓b235_41, ↓b235_44, ↓b235_45, ↓b235_53, b235_0, b235_5, b235_8, b235_10, b235_14, b235_24, b235_35, b235_41, b235_44, b235_45, b235_53, nLE4, layE8, hM, up_rd, k3_130, r130, k3_234, r234, I32, ↓xb, xb, ps, lpad, lat, aok2, rd2, aaok, aav, alok, alen, aok, akk, csum, isLg, cmpI, clsE, Option.elim, eq_self, List.mem_cons, List.not_mem_nil, or_false, false_or, List.append_nil, List.nil_append, List.cons_append, List.append_eq, List.replicate, List.length_cons, List.length_nil, List.map_cons, List.map_nil, ↓reduceIte, reduceCtorEq, if_true, if_false, true_and, and_true, false_and, and_false, and_self, not_true_eq_false, not_false_eq_true, forall_const, true_implies, false_implies, implies_true, Nat.reduceAdd, Nat.reduceSub, Nat.reduceLT, Nat.reduceLeDiff, Nat.reduceEqDiff, Nat.reduceMul, Nat.reducePow, Nat.add_one_ne_zero, Nat.add_one_sub_one, Nat.add_zero, Nat.zero_add, Int.reduceLT, Int.reduceLE, Int.reduceNeg, Int.reduceAdd, Int.reduceSub, Int.reduceToNat, Int.reduceEq, Int.reduceMul, Int.reducePow, Int.cast_ofNat_Int, Int.toNat_natCast, ne_eq, Bool.false_eq_true, true_or, or_true, or_self, Nat.not_lt_zero, ite_e0, ite_e1, lc_lt, lc_ge, lc_gt, lc_le, lc_eq, Classical.not_not]
      with_reducible repeat' (first | (refine And.intro ?_ ?_) | intro _)
      all_goals try omega
      have ei : i = P 2 2 := by omega
      rw [ei] at hc; rw [hc]; exact q
set_option maxRecDepth 100000 in
set_option maxHeartbeats 1000000 in
theorem kc_noise (R : RT True σ 1 P) (W : WF P) (hk : 8 ≤ k) {h : Int} (q0 : ¬ (0 ≤ h ∧ h < P 2 0) → Q (some (vi (-1))) σ) (q1 : (0 ≤ h ∧ h < P 2 0) → Q (some (vi (iter (nst P h) (P 2 2).toNat 0))) σ) : CC G w w k (0, 0) 120 [vr 0 0 0, vi h] σ Q := by
  have wh := W.sc.1
  have wn := W.sc.2.2.1
  have e1 := R.houses
  refine CC_vb ok120 (by decide) (sm3_ok G w) 60 [17] (Nat.le_of_ble_eq_true rfl) ?_
  simp -implicitDefEqProofs only [↓b120_0, ↓b120_8, ↓b120_11, ↓b120_13, ↓b120_17, ↓b120_28, ↓b120_37, ↓b120_44, ↓b120_54, ↓b120_56, ↓b120_62, b120_0, b120_8, b120_11, b120_13, b120_17, b120_28, b120_37, b120_44, b120_54, b120_56, b120_62, nLE2, layE7, layE4, layE3, layE2, e1, k3_45, r45, k3_55, r55, I32, ↓xb, xb, ps, lpad, lat, aok2, rd2, aaok, aav, alok, alen, aok, akk, csum, isLg, cmpI, clsE, Option.elim, eq_self, List.mem_cons, List.not_mem_nil, or_false, false_or, List.append_nil, List.nil_append, List.cons_append, List.append_eq, List.replicate, List.length_cons, List.length_nil, List.map_cons, List.map_nil, ↓reduceIte, reduceCtorEq, if_true, if_false, true_and, and_true, false_and, and_false, and_self, not_true_eq_false, not_false_eq_true, forall_const, true_implies, false_implies, implies_true, Nat.reduceAdd, Nat.reduceSub, Nat.reduceLT, Nat.reduceLeDiff, Nat.reduceEqDiff, Nat.reduceMul, Nat.reducePow, Nat.add_one_ne_zero, Nat.add_one_sub_one, Nat.add_zero, Nat.zero_add, Int.reduceLT, Int.reduceLE, Int.reduceNeg, Int.reduceAdd, Int.reduceSub, Int.reduceToNat, Int.reduceEq, Int.reduceMul, Int.reducePow, Int.cast_ofNat_Int, Int.toNat_natCast, ne_eq, Bool.false_eq_true, true_or, or_true, or_self, Nat.not_lt_zero, ite_e0, ite_e1, lc_lt, lc_ge, lc_gt, lc_le, lc_eq, Classical.not_not]
  with_reducible repeat' (first | (refine And.intro ?_ ?_) | intro _)
  all_goals try omega
  all_goals try exact q0 (by omega)
  exact kc_noise_l R W hk rfl (by omega) (q1 (by omega)) 13 0 0 (by omega) (by omega) (by omega) rfl
set_option maxRecDepth 100000 in
set_option maxHeartbeats 1000000 in
theorem kx_noise (M : MR σ P) (W : WF P) (hk : 8 ≤ k) {h : Int} (q0 : ¬ (0 ≤ h ∧ h < P 2 0) → Q (some (vi (-1))) σ) (q1 : (0 ≤ h ∧ h < P 2 0) → Q (some (vi (iter (nst P h) (P 2 2).toNat 0))) σ) : CC G w w k (0, 0) 235 [vr 21 0 0, vi h] σ Q := by
  have wh := W.sc.1
  have wn := W.sc.2.2.1
  have e1 := M 2 0 (by decide) (by decide)
  refine CC_vb ok235 (by decide) (sm3_ok G w) 60 [14] (Nat.le_of_ble_eq_true rfl) ?_
  simp -implicitDefEqProofs only [↓b235_0, ↓b235_5, ↓b235_8, ↓b235_10, ↓b235_14, ↓b235_24, ↓b235_35, ↓b235_41, ↓b235_44, ↓b235_45, ↓b235_53, b235_0, b235_5, b235_8, b235_10, b235_14, b235_24, b235_35, b235_41, b235_44, b235_45, b235_53, nLE4, layE8, e1, k3_130, r130, k3_234, r234, I32, ↓xb, xb, ps, lpad, lat, aok2, rd2, aaok, aav, alok, alen, aok, akk, csum, isLg, cmpI, clsE, Option.elim, eq_self, List.mem_cons, List.not_mem_nil, or_false, false_or, List.append_nil, List.nil_append, List.cons_append, List.append_eq, List.replicate, List.length_cons, List.length_nil, List.map_cons, List.map_nil, ↓reduceIte, reduceCtorEq, if_true, if_false, true_and, and_true, false_and, and_false, and_self, not_true_eq_false, not_false_eq_true, forall_const, true_implies, false_implies, implies_true, Nat.reduceAdd, Nat.reduceSub, Nat.reduceLT, Nat.reduceLeDiff, Nat.reduceEqDiff, Nat.reduceMul, Nat.reducePow, Nat.add_one_ne_zero, Nat.add_one_sub_one, Nat.add_zero, Nat.zero_add, Int.reduceLT, Int.reduceLE, Int.reduceNeg, Int.reduceAdd, Int.reduceSub, Int.reduceToNat, Int.reduceEq, Int.reduceMul, Int.reducePow, Int.cast_ofNat_Int, Int.toNat_natCast, ne_eq, Bool.false_eq_true, true_or, or_true, or_self, Nat.not_lt_zero, ite_e0, ite_e1, lc_lt, lc_ge, lc_gt, lc_le, lc_eq, Classical.not_not]
  with_reducible repeat' (first | (refine And.intro ?_ ?_) | intro _)
  all_goals try omega
  all_goals try exact q0 (by omega)
  exact kx_noise_l M W hk (by omega) (q1 (by omega)) 13 0 0 (by omega) (by omega) (by omega) rfl
end LPS

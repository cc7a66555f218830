/-! 14.leaf: the methods that only look: class and check; what a call of them answers (sm1, sm2) -/
theorem xb {G : Gl} {w w2 : Wd} {k ks mi n : Nat} {Q : Option AV → Mem → Prop} {sm : Sm} {cuts : List Nat} {C : CCt} {T : Kont} {pc : Nat} {ls : List (Option AV)} {st : List AV} {σ : Mem} : vb G w w2 k ks sm C cuts Q T mi (n + 1) pc ls st σ = if pc ∈ cuts then T pc ls st σ else vb1 G w w2 k ks sm C cuts Q T mi n pc ls st σ := rfl
theorem ite_e0 {c : Prop} [Decidable c] : ((if c then (1 : Int) else 0) = 0) = ¬ c := by by_cases h : c <;> simp [h]
theorem ite_e1 {c : Prop} [Decidable c] : ((if c then (1 : Int) else 0) = 1) = c := by by_cases h : c <;> simp [h]
theorem lc_lt {a b : Int} : (lcmpI a b < 0) = (a < b) := by unfold lcmpI; apply propext; split <;> (try split) <;> omega
theorem lc_ge {a b : Int} : (0 ≤ lcmpI a b) = (b ≤ a) := by unfold lcmpI; apply propext; split <;> (try split) <;> omega
theorem lc_gt {a b : Int} : (0 < lcmpI a b) = (b < a) := by unfold lcmpI; apply propext; split <;> (try split) <;> omega
theorem lc_le {a b : Int} : (lcmpI a b ≤ 0) = (a ≤ b) := by unfold lcmpI; apply propext; split <;> (try split) <;> omega
theorem lc_eq {a b : Int} : (lcmpI a b = 0) = (a = b) := by unfold lcmpI; apply propext; split <;> (try split) <;> omega
theorem qvi {Q : Option AV → Mem → Prop} {σ : Mem} {a b : Int} (h : Q (some (vi a)) σ) (e : a = b) : Q (some (vi b)) σ := e ▸ h
theorem qvl {Q : Option AV → Mem → Prop} {σ : Mem} {a b : Int} (h : Q (some (vl a)) σ) (e : a = b) : Q (some (vl b)) σ := e ▸ h
def mx (a : Int) : Int := max a (-a)
def farT (σ : Mem) (t : Nat) (a b : Int) : Int := mx (σ t 9 (a.toNat + 1) 8 - σ t 9 (b.toNat + 1) 8) + mx (σ t 9 (a.toNat + 1) 9 - σ t 9 (b.toNat + 1) 9)
def xyT (σ : Mem) (t : Nat) (a : Int) : Prop := (0 ≤ a ∧ a < 12) ∧ (0 ≤ σ t 9 (a.toNat + 1) 8 ∧ σ t 9 (a.toNat + 1) 8 ≤ 99) ∧ (0 ≤ σ t 9 (a.toNat + 1) 9 ∧ σ t 9 (a.toNat + 1) 9 ≤ 99)
def ab (a b : Int) : Int := if a < b then b - a else a - b
def farM (σ : Mem) (a b : Int) : Int := ab (σ 21 3 0 a.toNat) (σ 21 3 0 b.toNat) + ab (σ 21 4 0 a.toNat) (σ 21 4 0 b.toNat)
def xyM (σ : Mem) (a : Int) : Prop := (0 ≤ a ∧ a < 12) ∧ (0 ≤ σ 21 3 0 a.toNat ∧ σ 21 3 0 a.toNat ≤ 99) ∧ (0 ≤ σ 21 4 0 a.toNat ∧ σ 21 4 0 a.toNat ≤ 99)
def tillP (said now : Int) : Int := if said = -1 then 999 else if now < said then said - now else 0
def tillC (said now : Int) : Prop := (-1 ≤ said ∧ said ≤ 99999) ∧ 0 ≤ now ∧ now ≤ 199999
theorem farT_r {σ : Mem} {t : Nat} {a b : Int} (ha : xyT σ t a) (hb : xyT σ t b) : 0 ≤ farT σ t a b ∧ farT σ t a b ≤ 198 := by unfold xyT at ha hb; unfold farT mx; omega
theorem farM_r {σ : Mem} {a b : Int} (ha : xyM σ a) (hb : xyM σ b) : 0 ≤ farM σ a b ∧ farM σ a b ≤ 198 := by unfold xyM at ha hb; unfold farM ab; (repeat' split) <;> omega
section LEA
variable {G : Gl} {w : Wd} {k : Nat} {σ : Mem} {Q : Option AV → Mem → Prop}
def r76 : List AV → Mem → Prop × Option AV
  | [.inl x0, .inl x1, .inl x2], _ => ((True), some (vi (if x1 ≤ x0 ∧ x0 ≤ x2 then 1 else 0)))
  | _, _ => (False, none)
set_option maxRecDepth 100000 in
set_option maxHeartbeats 1000000 in
theorem c76 {as : List AV} (hk : 0 ≤ k) (hc : (r76 as σ).1) (h : Q (r76 as σ).2 σ) : CC G w w k (0, 0) 76 as σ Q := by
  unfold r76 at hc h
  split at hc
  · dsimp only at hc h
    refine CC_vb ok76 (by decide) (sm0 G w 0) 20 [] (Nat.le_of_ble_eq_true rfl) ?_
    simp -implicitDefEqProofs only [↓b76_0, ↓b76_5, ↓b76_10, ↓b76_14, ↓b76_15, b76_0, b76_5, b76_10, b76_14, b76_15, nLE1, layE7, layE4, layE3, layE2, call_n, ↓xb, xb, ps, lpad, lat, aok2, rd2, aaok, aav, alok, alen, aok, akk, csum, isLg, cmpI, clsE, Option.elim, eq_self, List.mem_cons, List.not_mem_nil, or_false, false_or, List.append_nil, List.nil_append, List.cons_append, List.append_eq, List.replicate, List.length_cons, List.length_nil, List.map_cons, List.map_nil, reduceIte, reduceCtorEq, if_true, if_false, true_and, and_true, false_and, and_false, and_self, not_true_eq_false, not_false_eq_true, forall_const, true_implies, false_implies, implies_true, Nat.reduceAdd, Nat.reduceSub, Nat.reduceLT, Nat.reduceLeDiff, Nat.reduceEqDiff, Nat.reduceMul, Nat.reducePow, Nat.add_one_ne_zero, Nat.add_one_sub_one, Nat.add_zero, Nat.zero_add, Int.reduceLT, Int.reduceLE, Int.reduceNeg, Int.reduceAdd, Int.reduceSub, Int.reduceToNat, Int.reduceEq, Int.reduceMul, Int.reducePow, Int.cast_ofNat_Int, Int.toNat_natCast, ne_eq, Bool.false_eq_true, true_or, or_true, or_self, Nat.not_lt_zero, ite_e0, ite_e1, lc_lt, lc_ge, lc_gt, lc_le, lc_eq, Classical.not_not]
    try simp only [I32, I64] at *
    repeat' (first | (refine And.intro ?_ ?_) | intro _)
    all_goals first | omega | (refine qvi h ?_; ((repeat' split) <;> omega)) | (refine qvl h ?_; ((repeat' split) <;> omega)) | exact h | assumption | ((repeat' split) <;> omega)
  · exact hc.elim
def r128 : List AV → Mem → Prop × Option AV
  | [.inr (.inl x0), .inr (.inl x1), .inr (.inl x2)], _ => ((True), some (vi (if x1 ≤ x0 ∧ x0 ≤ x2 then 1 else 0)))
  | _, _ => (False, none)
set_option maxRecDepth 100000 in
set_option maxHeartbeats 1000000 in
theorem c128 {as : List AV} (hk : 0 ≤ k) (hc : (r128 as σ).1) (h : Q (r128 as σ).2 σ) : CC G w w k (0, 0) 128 as σ Q := by
  unfold r128 at hc h
  split at hc
  · dsimp only at hc h
    refine CC_vb ok128 (by decide) (sm0 G w 0) 20 [] (Nat.le_of_ble_eq_true rfl) ?_
    simp -implicitDefEqProofs only [↓b128_0, ↓b128_6, ↓b128_13, ↓b128_17, ↓b128_18, b128_0, b128_6, b128_13, b128_17, b128_18, nLE2, layE8, call_n, ↓xb, xb, ps, lpad, lat, aok2, rd2, aaok, aav, alok, alen, aok, akk, csum, isLg, cmpI, clsE, Option.elim, eq_self, List.mem_cons, List.not_mem_nil, or_false, false_or, List.append_nil, List.nil_append, List.cons_append, List.append_eq, List.replicate, List.length_cons, List.length_nil, List.map_cons, List.map_nil, reduceIte, reduceCtorEq, if_true, if_false, true_and, and_true, false_and, and_false, and_self, not_true_eq_false, not_false_eq_true, forall_const, true_implies, false_implies, implies_true, Nat.reduceAdd, Nat.reduceSub, Nat.reduceLT, Nat.reduceLeDiff, Nat.reduceEqDiff, Nat.reduceMul, Nat.reducePow, Nat.add_one_ne_zero, Nat.add_one_sub_one, Nat.add_zero, Nat.zero_add, Int.reduceLT, Int.reduceLE, Int.reduceNeg, Int.reduceAdd, Int.reduceSub, Int.reduceToNat, Int.reduceEq, Int.reduceMul, Int.reducePow, Int.cast_ofNat_Int, Int.toNat_natCast, ne_eq, Bool.false_eq_true, true_or, or_true, or_self, Nat.not_lt_zero, ite_e0, ite_e1, lc_lt, lc_ge, lc_gt, lc_le, lc_eq, Classical.not_not]
    try simp only [I32, I64] at *
    repeat' (first | (refine And.intro ?_ ?_) | intro _)
    all_goals first | omega | (refine qvi h ?_; ((repeat' split) <;> omega)) | (refine qvl h ?_; ((repeat' split) <;> omega)) | exact h | assumption | ((repeat' split) <;> omega)
  · exact hc.elim
def r129 : List AV → Mem → Prop × Option AV
  | [.inr (.inl x0), .inr (.inl x1), .inr (.inl x2)], _ => ((True), some (vl (if x0 < x1 then x1 else if x2 < x0 then x2 else x0)))
  | _, _ => (False, none)
set_option maxRecDepth 100000 in
set_option maxHeartbeats 1000000 in
theorem c129 {as : List AV} (hk : 0 ≤ k) (hc : (r129 as σ).1) (h : Q (r129 as σ).2 σ) : CC G w w k (0, 0) 129 as σ Q := by
  unfold r129 at hc h
  split at hc
  · dsimp only at hc h
    refine CC_vb ok129 (by decide) (sm0 G w 0) 20 [] (Nat.le_of_ble_eq_true rfl) ?_
    simp -implicitDefEqProofs only [↓b129_0, ↓b129_6, ↓b129_10, ↓b129_17, ↓b129_22, ↓b129_23, b129_0, b129_6, b129_10, b129_17, b129_22, b129_23, nLE2, layE8, call_n, ↓xb, xb, ps, lpad, lat, aok2, rd2, aaok, aav, alok, alen, aok, akk, csum, isLg, cmpI, clsE, Option.elim, eq_self, List.mem_cons, List.not_mem_nil, or_false, false_or, List.append_nil, List.nil_append, List.cons_append, List.append_eq, List.replicate, List.length_cons, List.length_nil, List.map_cons, List.map_nil, reduceIte, reduceCtorEq, if_true, if_false, true_and, and_true, false_and, and_false, and_self, not_true_eq_false, not_false_eq_true, forall_const, true_implies, false_implies, implies_true, Nat.reduceAdd, Nat.reduceSub, Nat.reduceLT, Nat.reduceLeDiff, Nat.reduceEqDiff, Nat.reduceMul, Nat.reducePow, Nat.add_one_ne_zero, Nat.add_one_sub_one, Nat.add_zero, Nat.zero_add, Int.reduceLT, Int.reduceLE, Int.reduceNeg, Int.reduceAdd, Int.reduceSub, Int.reduceToNat, Int.reduceEq, Int.reduceMul, Int.reducePow, Int.cast_ofNat_Int, Int.toNat_natCast, ne_eq, Bool.false_eq_true, true_or, or_true, or_self, Nat.not_lt_zero, ite_e0, ite_e1, lc_lt, lc_ge, lc_gt, lc_le, lc_eq, Classical.not_not]
    try simp only [I32, I64] at *
    repeat' (first | (refine And.intro ?_ ?_) | intro _)
    all_goals first | omega | (refine qvi h ?_; ((repeat' split) <;> omega)) | (refine qvl h ?_; ((repeat' split) <;> omega)) | exact h | assumption | ((repeat' split) <;> omega)
  · exact hc.elim
def r132 : List AV → Mem → Prop × Option AV
  | [.inl x0, .inl x1], _ => ((I32 (x0 - x1) ∧ I32 (x1 - x0)), some (vi (ab x0 x1)))
  | _, _ => (False, none)
set_option maxRecDepth 100000 in
set_option maxHeartbeats 1000000 in
theorem c132 {as : List AV} (hk : 0 ≤ k) (hc : (r132 as σ).1) (h : Q (r132 as σ).2 σ) : CC G w w k (0, 0) 132 as σ Q := by
  unfold r132 at hc h
  split at hc
  · dsimp only at hc h
    refine CC_vb ok132 (by decide) (sm0 G w 0) 20 [] (Nat.le_of_ble_eq_true rfl) ?_
    simp -implicitDefEqProofs only [↓b132_0, ↓b132_5, ↓b132_11, ↓b132_14, b132_0, b132_5, b132_11, b132_14, nLE2, layE8, call_n, ↓xb, xb, ps, lpad, lat, aok2, rd2, aaok, aav, alok, alen, aok, akk, csum, isLg, cmpI, clsE, Option.elim, eq_self, List.mem_cons, List.not_mem_nil, or_false, false_or, List.append_nil, List.nil_append, List.cons_append, List.append_eq, List.replicate, List.length_cons, List.length_nil, List.map_cons, List.map_nil, reduceIte, reduceCtorEq, if_true, if_false, true_and, and_true, false_and, and_false, and_self, not_true_eq_false, not_false_eq_true, forall_const, true_implies, false_implies, implies_true, Nat.reduceAdd, Nat.reduceSub, Nat.reduceLT, Nat.reduceLeDiff, Nat.reduceEqDiff, Nat.reduceMul, Nat.reducePow, Nat.add_one_ne_zero, Nat.add_one_sub_one, Nat.add_zero, Nat.zero_add, Int.reduceLT, Int.reduceLE, Int.reduceNeg, Int.reduceAdd, Int.reduceSub, Int.reduceToNat, Int.reduceEq, Int.reduceMul, Int.reducePow, Int.cast_ofNat_Int, Int.toNat_natCast, ne_eq, Bool.false_eq_true, true_or, or_true, or_self, Nat.not_lt_zero, ite_e0, ite_e1, lc_lt, lc_ge, lc_gt, lc_le, lc_eq, Classical.not_not]
    unfold ab at *
    try simp only [I32, I64] at *
    repeat' (first | (refine And.intro ?_ ?_) | intro _)
    all_goals first | omega | (refine qvi h ?_; ((repeat' split) <;> omega)) | (refine qvl h ?_; ((repeat' split) <;> omega)) | exact h | assumption | ((repeat' split) <;> omega)
  · exact hc.elim
def r176 : List AV → Mem → Prop × Option AV
  | [.inl x0], _ => ((True), some (vl (if ¬ x0 = 0 then 1 else 0)))
  | _, _ => (False, none)
set_option maxRecDepth 100000 in
set_option maxHeartbeats 1000000 in
theorem c176 {as : List AV} (hk : 0 ≤ k) (hc : (r176 as σ).1) (h : Q (r176 as σ).2 σ) : CC G w w k (0, 0) 176 as σ Q := by
  unfold r176 at hc h
  split at hc
  · dsimp only at hc h
    refine CC_vb ok176 (by decide) (sm0 G w 0) 20 [] (Nat.le_of_ble_eq_true rfl) ?_
    simp -implicitDefEqProofs only [↓b176_0, ↓b176_4, ↓b176_8, ↓b176_9, b176_0, b176_4, b176_8, b176_9, nLE3, layE8, call_n, ↓xb, xb, ps, lpad, lat, aok2, rd2, aaok, aav, alok, alen, aok, akk, csum, isLg, cmpI, clsE, Option.elim, eq_self, List.mem_cons, List.not_mem_nil, or_false, false_or, List.append_nil, List.nil_append, List.cons_append, List.append_eq, List.replicate, List.length_cons, List.length_nil, List.map_cons, List.map_nil, reduceIte, reduceCtorEq, if_true, if_false, true_and, and_true, false_and, and_false, and_self, not_true_eq_false, not_false_eq_true, forall_const, true_implies, false_implies, implies_true, Nat.reduceAdd, Nat.reduceSub, Nat.reduceLT, Nat.reduceLeDiff, Nat.reduceEqDiff, Nat.reduceMul, Nat.reducePow, Nat.add_one_ne_zero, Nat.add_one_sub_one, Nat.add_zero, Nat.zero_add, Int.reduceLT, Int.reduceLE, Int.reduceNeg, Int.reduceAdd, Int.reduceSub, Int.reduceToNat, Int.reduceEq, Int.reduceMul, Int.reducePow, Int.cast_ofNat_Int, Int.toNat_natCast, ne_eq, Bool.false_eq_true, true_or, or_true, or_self, Nat.not_lt_zero, ite_e0, ite_e1, lc_lt, lc_ge, lc_gt, lc_le, lc_eq, Classical.not_not]
    try simp only [I32, I64] at *
    repeat' (first | (refine And.intro ?_ ?_) | intro _)
    all_goals first | omega | (refine qvi h ?_; ((repeat' split) <;> omega)) | (refine qvl h ?_; ((repeat' split) <;> omega)) | exact h | assumption | ((repeat' split) <;> omega)
  · exact hc.elim
def r31 : List AV → Mem → Prop × Option AV
  | [.inl x0], _ => ((True), some (vi (if 97 ≤ x0 ∧ x0 ≤ 122 then 1 else 0)))
  | _, _ => (False, none)
set_option maxRecDepth 100000 in
set_option maxHeartbeats 1000000 in
theorem c31 {as : List AV} (hk : 0 ≤ k) (hc : (r31 as σ).1) (h : Q (r31 as σ).2 σ) : CC G w w k (0, 0) 31 as σ Q := by
  unfold r31 at hc h
  split at hc
  · dsimp only at hc h
    refine CC_vb ok31 (by decide) (sm0 G w 0) 20 [] (Nat.le_of_ble_eq_true rfl) ?_
    simp -implicitDefEqProofs only [↓b31_0, ↓b31_6, ↓b31_12, ↓b31_16, ↓b31_17, b31_0, b31_6, b31_12, b31_16, b31_17, nLE0, layE2, layE3, call_n, ↓xb, xb, ps, lpad, lat, aok2, rd2, aaok, aav, alok, alen, aok, akk, csum, isLg, cmpI, clsE, Option.elim, eq_self, List.mem_cons, List.not_mem_nil, or_false, false_or, List.append_nil, List.nil_append, List.cons_append, List.append_eq, List.replicate, List.length_cons, List.length_nil, List.map_cons, List.map_nil, reduceIte, reduceCtorEq, if_true, if_false, true_and, and_true, false_and, and_false, and_self, not_true_eq_false, not_false_eq_true, forall_const, true_implies, false_implies, implies_true, Nat.reduceAdd, Nat.reduceSub, Nat.reduceLT, Nat.reduceLeDiff, Nat.reduceEqDiff, Nat.reduceMul, Nat.reducePow, Nat.add_one_ne_zero, Nat.add_one_sub_one, Nat.add_zero, Nat.zero_add, Int.reduceLT, Int.reduceLE, Int.reduceNeg, Int.reduceAdd, Int.reduceSub, Int.reduceToNat, Int.reduceEq, Int.reduceMul, Int.reducePow, Int.cast_ofNat_Int, Int.toNat_natCast, ne_eq, Bool.false_eq_true, true_or, or_true, or_self, Nat.not_lt_zero, ite_e0, ite_e1, lc_lt, lc_ge, lc_gt, lc_le, lc_eq, Classical.not_not]
    try simp only [I32, I64] at *
    repeat' (first | (refine And.intro ?_ ?_) | intro _)
    all_goals first | omega | (refine qvi h ?_; ((repeat' split) <;> omega)) | (refine qvl h ?_; ((repeat' split) <;> omega)) | exact h | assumption | ((repeat' split) <;> omega)
  · exact hc.elim
def r32 : List AV → Mem → Prop × Option AV
  | [.inl x0], _ => ((True), some (vi (if 48 ≤ x0 ∧ x0 ≤ 57 then 1 else 0)))
  | _, _ => (False, none)
set_option maxRecDepth 100000 in
set_option maxHeartbeats 1000000 in
theorem c32 {as : List AV} (hk : 0 ≤ k) (hc : (r32 as σ).1) (h : Q (r32 as σ).2 σ) : CC G w w k (0, 0) 32 as σ Q := by
  unfold r32 at hc h
  split at hc
  · dsimp only at hc h
    refine CC_vb ok32 (by decide) (sm0 G w 0) 20 [] (Nat.le_of_ble_eq_true rfl) ?_
    simp -implicitDefEqProofs only [↓b32_0, ↓b32_6, ↓b32_12, ↓b32_16, ↓b32_17, b32_0, b32_6, b32_12, b32_16, b32_17, nLE0, layE2, layE3, call_n, ↓xb, xb, ps, lpad, lat, aok2, rd2, aaok, aav, alok, alen, aok, akk, csum, isLg, cmpI, clsE, Option.elim, eq_self, List.mem_cons, List.not_mem_nil, or_false, false_or, List.append_nil, List.nil_append, List.cons_append, List.append_eq, List.replicate, List.length_cons, List.length_nil, List.map_cons, List.map_nil, reduceIte, reduceCtorEq, if_true, if_false, true_and, and_true, false_and, and_false, and_self, not_true_eq_false, not_false_eq_true, forall_const, true_implies, false_implies, implies_true, Nat.reduceAdd, Nat.reduceSub, Nat.reduceLT, Nat.reduceLeDiff, Nat.reduceEqDiff, Nat.reduceMul, Nat.reducePow, Nat.add_one_ne_zero, Nat.add_one_sub_one, Nat.add_zero, Nat.zero_add, Int.reduceLT, Int.reduceLE, Int.reduceNeg, Int.reduceAdd, Int.reduceSub, Int.reduceToNat, Int.reduceEq, Int.reduceMul, Int.reducePow, Int.cast_ofNat_Int, Int.toNat_natCast, ne_eq, Bool.false_eq_true, true_or, or_true, or_self, Nat.not_lt_zero, ite_e0, ite_e1, lc_lt, lc_ge, lc_gt, lc_le, lc_eq, Classical.not_not]
    try simp only [I32, I64] at *
    repeat' (first | (refine And.intro ?_ ?_) | intro _)
    all_goals first | omega | (refine qvi h ?_; ((repeat' split) <;> omega)) | (refine qvl h ?_; ((repeat' split) <;> omega)) | exact h | assumption | ((repeat' split) <;> omega)
  · exact hc.elim
def r26 : List AV → Mem → Prop × Option AV
  | [.inl x0], _ => ((True), some (vi (if x0 = 160 ∨ x0 = 161 ∨ x0 = 162 ∨ x0 = 23 ∨ x0 = 24 then 1 else 0)))
  | _, _ => (False, none)
set_option maxRecDepth 100000 in
set_option maxHeartbeats 1000000 in
theorem c26 {as : List AV} (hk : 0 ≤ k) (hc : (r26 as σ).1) (h : Q (r26 as σ).2 σ) : CC G w w k (0, 0) 26 as σ Q := by
  unfold r26 at hc h
  split at hc
  · dsimp only at hc h
    refine CC_vb ok26 (by decide) (sm0 G w 0) 40 [] (Nat.le_of_ble_eq_true rfl) ?_
    simp -implicitDefEqProofs only [↓b26_0, ↓b26_7, ↓b26_14, ↓b26_21, ↓b26_27, ↓b26_33, ↓b26_37, ↓b26_38, b26_0, b26_7, b26_14, b26_21, b26_27, b26_33, b26_37, b26_38, nLE0, layE2, layE3, call_n, ↓xb, xb, ps, lpad, lat, aok2, rd2, aaok, aav, alok, alen, aok, akk, csum, isLg, cmpI, clsE, Option.elim, eq_self, List.mem_cons, List.not_mem_nil, or_false, false_or, List.append_nil, List.nil_append, List.cons_append, List.append_eq, List.replicate, List.length_cons, List.length_nil, List.map_cons, List.map_nil, reduceIte, reduceCtorEq, if_true, if_false, true_and, and_true, false_and, and_false, and_self, not_true_eq_false, not_false_eq_true, forall_const, true_implies, false_implies, implies_true, Nat.reduceAdd, Nat.reduceSub, Nat.reduceLT, Nat.reduceLeDiff, Nat.reduceEqDiff, Nat.reduceMul, Nat.reducePow, Nat.add_one_ne_zero, Nat.add_one_sub_one, Nat.add_zero, Nat.zero_add, Int.reduceLT, Int.reduceLE, Int.reduceNeg, Int.reduceAdd, Int.reduceSub, Int.reduceToNat, Int.reduceEq, Int.reduceMul, Int.reducePow, Int.cast_ofNat_Int, Int.toNat_natCast, ne_eq, Bool.false_eq_true, true_or, or_true, or_self, Nat.not_lt_zero, ite_e0, ite_e1, lc_lt, lc_ge, lc_gt, lc_le, lc_eq, Classical.not_not]
    try simp only [I32, I64] at *
    repeat' (first | (refine And.intro ?_ ?_) | intro _)
    all_goals first | omega | (refine qvi h ?_; ((repeat' split) <;> omega)) | (refine qvl h ?_; ((repeat' split) <;> omega)) | exact h | assumption | ((repeat' split) <;> omega)
  · exact hc.elim
def r45 : List AV → Mem → Prop × Option AV
  | [.inr (.inr (some (t, f, r))), .inl x1], σ => ((cls t = 4 ∧ t < 22 ∧ f = 0 ∧ r = 0) ∧ (True), some (vi (if 0 ≤ x1 ∧ x1 < σ t 3 0 0 then 1 else 0)))
  | _, _ => (False, none)
set_option maxRecDepth 100000 in
set_option maxHeartbeats 1000000 in
theorem c45 {as : List AV} (hk : 0 ≤ k) (hc : (r45 as σ).1) (h : Q (r45 as σ).2 σ) : CC G w w k (0, 0) 45 as σ Q := by
  unfold r45 at hc h
  split at hc
  · dsimp only at hc h
    obtain ⟨⟨ht, h22, rfl, rfl⟩, hc⟩ := hc
    refine CC_vb ok45 (by decide) (sm0 G w 0) 20 [] (Nat.le_of_ble_eq_true rfl) ?_
    simp -implicitDefEqProofs only [↓b45_0, ↓b45_4, ↓b45_12, ↓b45_16, ↓b45_17, b45_0, b45_4, b45_12, b45_16, b45_17, nLE0, layE4, ht, h22, call_n, ↓xb, xb, ps, lpad, lat, aok2, rd2, aaok, aav, alok, alen, aok, akk, csum, isLg, cmpI, clsE, Option.elim, eq_self, List.mem_cons, List.not_mem_nil, or_false, false_or, List.append_nil, List.nil_append, List.cons_append, List.append_eq, List.replicate, List.length_cons, List.length_nil, List.map_cons, List.map_nil, reduceIte, reduceCtorEq, if_true, if_false, true_and, and_true, false_and, and_false, and_self, not_true_eq_false, not_false_eq_true, forall_const, true_implies, false_implies, implies_true, Nat.reduceAdd, Nat.reduceSub, Nat.reduceLT, Nat.reduceLeDiff, Nat.reduceEqDiff, Nat.reduceMul, Nat.reducePow, Nat.add_one_ne_zero, Nat.add_one_sub_one, Nat.add_zero, Nat.zero_add, Int.reduceLT, Int.reduceLE, Int.reduceNeg, Int.reduceAdd, Int.reduceSub, Int.reduceToNat, Int.reduceEq, Int.reduceMul, Int.reducePow, Int.cast_ofNat_Int, Int.toNat_natCast, ne_eq, Bool.false_eq_true, true_or, or_true, or_self, Nat.not_lt_zero, ite_e0, ite_e1, lc_lt, lc_ge, lc_gt, lc_le, lc_eq, Classical.not_not]
    try simp only [I32, I64] at *
    repeat' (first | (refine And.intro ?_ ?_) | intro _)
    all_goals first | omega | (refine qvi h ?_; ((repeat' split) <;> omega)) | (refine qvl h ?_; ((repeat' split) <;> omega)) | exact h | assumption | ((repeat' split) <;> omega)
  · exact hc.elim
def r52 : List AV → Mem → Prop × Option AV
  | [.inr (.inr (some (t, f, r)))], σ => ((cls t = 4 ∧ t < 22 ∧ f = 0 ∧ r = 0) ∧ (0 ≤ σ t 1 0 0), some (vi (σ t 1 0 0 % 96 / 4)))
  | _, _ => (False, none)
set_option maxRecDepth 100000 in
set_option maxHeartbeats 1000000 in
theorem c52 {as : List AV} (hk : 0 ≤ k) (hc : (r52 as σ).1) (h : Q (r52 as σ).2 σ) : CC G w w k (0, 0) 52 as σ Q := by
  unfold r52 at hc h
  split at hc
  · dsimp only at hc h
    obtain ⟨⟨ht, h22, rfl, rfl⟩, hc⟩ := hc
    refine CC_vb ok52 (by decide) (sm0 G w 0) 20 [] (Nat.le_of_ble_eq_true rfl) ?_
    simp -implicitDefEqProofs only [↓b52_0, b52_0, nLE1, layE4, ht, h22, call_n, ↓xb, xb, ps, lpad, lat, aok2, rd2, aaok, aav, alok, alen, aok, akk, csum, isLg, cmpI, clsE, Option.elim, eq_self, List.mem_cons, List.not_mem_nil, or_false, false_or, List.append_nil, List.nil_append, List.cons_append, List.append_eq, List.replicate, List.length_cons, List.length_nil, List.map_cons, List.map_nil, reduceIte, reduceCtorEq, if_true, if_false, true_and, and_true, false_and, and_false, and_self, not_true_eq_false, not_false_eq_true, forall_const, true_implies, false_implies, implies_true, Nat.reduceAdd, Nat.reduceSub, Nat.reduceLT, Nat.reduceLeDiff, Nat.reduceEqDiff, Nat.reduceMul, Nat.reducePow, Nat.add_one_ne_zero, Nat.add_one_sub_one, Nat.add_zero, Nat.zero_add, Int.reduceLT, Int.reduceLE, Int.reduceNeg, Int.reduceAdd, Int.reduceSub, Int.reduceToNat, Int.reduceEq, Int.reduceMul, Int.reducePow, Int.cast_ofNat_Int, Int.toNat_natCast, ne_eq, Bool.false_eq_true, true_or, or_true, or_self, Nat.not_lt_zero, ite_e0, ite_e1, lc_lt, lc_ge, lc_gt, lc_le, lc_eq, Classical.not_not]
    try simp only [I32, I64] at *
    repeat' (first | (refine And.intro ?_ ?_) | intro _)
    all_goals first | omega | (refine qvi h ?_; ((repeat' split) <;> omega)) | (refine qvl h ?_; ((repeat' split) <;> omega)) | exact h | assumption | ((repeat' split) <;> omega)
  · exact hc.elim
def r53 : List AV → Mem → Prop × Option AV
  | [.inr (.inr (some (t, f, r)))], σ => ((cls t = 4 ∧ t < 22 ∧ f = 0 ∧ r = 0) ∧ (tillC (σ t 2 0 0) (σ t 1 0 0)), some (vi (tillP (σ t 2 0 0) (σ t 1 0 0))))
  | _, _ => (False, none)
set_option maxRecDepth 100000 in
set_option maxHeartbeats 1000000 in
theorem c53 {as : List AV} (hk : 0 ≤ k) (hc : (r53 as σ).1) (h : Q (r53 as σ).2 σ) : CC G w w k (0, 0) 53 as σ Q := by
  unfold r53 at hc h
  split at hc
  · dsimp only at hc h
    obtain ⟨⟨ht, h22, rfl, rfl⟩, hc⟩ := hc
    refine CC_vb ok53 (by decide) (sm0 G w 0) 30 [] (Nat.le_of_ble_eq_true rfl) ?_
    simp -implicitDefEqProofs only [↓b53_0, ↓b53_8, ↓b53_12, ↓b53_23, ↓b53_35, ↓b53_36, b53_0, b53_8, b53_12, b53_23, b53_35, b53_36, nLE1, layE4, ht, h22, call_n, ↓xb, xb, ps, lpad, lat, aok2, rd2, aaok, aav, alok, alen, aok, akk, csum, isLg, cmpI, clsE, Option.elim, eq_self, List.mem_cons, List.not_mem_nil, or_false, false_or, List.append_nil, List.nil_append, List.cons_append, List.append_eq, List.replicate, List.length_cons, List.length_nil, List.map_cons, List.map_nil, reduceIte, reduceCtorEq, if_true, if_false, true_and, and_true, false_and, and_false, and_self, not_true_eq_false, not_false_eq_true, forall_const, true_implies, false_implies, implies_true, Nat.reduceAdd, Nat.reduceSub, Nat.reduceLT, Nat.reduceLeDiff, Nat.reduceEqDiff, Nat.reduceMul, Nat.reducePow, Nat.add_one_ne_zero, Nat.add_one_sub_one, Nat.add_zero, Nat.zero_add, Int.reduceLT, Int.reduceLE, Int.reduceNeg, Int.reduceAdd, Int.reduceSub, Int.reduceToNat, Int.reduceEq, Int.reduceMul, Int.reducePow, Int.cast_ofNat_Int, Int.toNat_natCast, ne_eq, Bool.false_eq_true, true_or, or_true, or_self, Nat.not_lt_zero, ite_e0, ite_e1, lc_lt, lc_ge, lc_gt, lc_le, lc_eq, Classical.not_not]
    unfold tillC tillP at *
    try simp only [I32, I64] at *
    repeat' (first | (refine And.intro ?_ ?_) | intro _)
    all_goals first | omega | (refine qvi h ?_; ((repeat' split) <;> omega)) | (refine qvl h ?_; ((repeat' split) <;> omega)) | exact h | assumption | ((repeat' split) <;> omega)
  · exact hc.elim
def r54 : List AV → Mem → Prop × Option AV
  | [.inr (.inr (some (t, f, r))), .inl x1], σ => ((cls t = 4 ∧ t < 22 ∧ f = 0 ∧ r = 0) ∧ (0 ≤ σ t 1 0 0 ∧ 0 ≤ x1 ∧ x1 < 40), some (vi (if σ t 11 (x1.toNat + 1) 4 ≤ σ t 1 0 0 % 96 ∧ σ t 1 0 0 % 96 ≤ σ t 11 (x1.toNat + 1) 5 then 1 else 0)))
  | _, _ => (False, none)
set_option maxRecDepth 100000 in
set_option maxHeartbeats 1000000 in
theorem c54 {as : List AV} (hk : 0 ≤ k) (hc : (r54 as σ).1) (h : Q (r54 as σ).2 σ) : CC G w w k (0, 0) 54 as σ Q := by
  unfold r54 at hc h
  split at hc
  · dsimp only at hc h
    obtain ⟨⟨ht, h22, rfl, rfl⟩, hc⟩ := hc
    refine CC_vb ok54 (by decide) (sm0 G w 0) 40 [] (Nat.le_of_ble_eq_true rfl) ?_
    simp -implicitDefEqProofs only [↓b54_0, ↓b54_14, ↓b54_20, ↓b54_27, ↓b54_32, ↓b54_36, ↓b54_37, b54_0, b54_14, b54_20, b54_27, b54_32, b54_36, b54_37, nLE1, layE4, ht, h22, call_n, ↓xb, xb, ps, lpad, lat, aok2, rd2, aaok, aav, alok, alen, aok, akk, csum, isLg, cmpI, clsE, Option.elim, eq_self, List.mem_cons, List.not_mem_nil, or_false, false_or, List.append_nil, List.nil_append, List.cons_append, List.append_eq, List.replicate, List.length_cons, List.length_nil, List.map_cons, List.map_nil, reduceIte, reduceCtorEq, if_true, if_false, true_and, and_true, false_and, and_false, and_self, not_true_eq_false, not_false_eq_true, forall_const, true_implies, false_implies, implies_true, Nat.reduceAdd, Nat.reduceSub, Nat.reduceLT, Nat.reduceLeDiff, Nat.reduceEqDiff, Nat.reduceMul, Nat.reducePow, Nat.add_one_ne_zero, Nat.add_one_sub_one, Nat.add_zero, Nat.zero_add, Int.reduceLT, Int.reduceLE, Int.reduceNeg, Int.reduceAdd, Int.reduceSub, Int.reduceToNat, Int.reduceEq, Int.reduceMul, Int.reducePow, Int.cast_ofNat_Int, Int.toNat_natCast, ne_eq, Bool.false_eq_true, true_or, or_true, or_self, Nat.not_lt_zero, ite_e0, ite_e1, lc_lt, lc_ge, lc_gt, lc_le, lc_eq, Classical.not_not]
    try simp only [I32, I64] at *
    repeat' (first | (refine And.intro ?_ ?_) | intro _)
    all_goals first | omega | (refine qvi h ?_; ((repeat' split) <;> omega)) | (refine qvl h ?_; ((repeat' split) <;> omega)) | exact h | assumption | ((repeat' split) <;> omega)
  · exact hc.elim
def r62 : List AV → Mem → Prop × Option AV
  | [.inr (.inr (some (t, f, r))), .inl x1, .inl x2], σ => ((cls t = 4 ∧ t < 22 ∧ f = 0 ∧ r = 0) ∧ ((0 ≤ x1 ∧ x1 < 12) ∧ (0 ≤ x2 ∧ x2 < 12)), some (vi (if 0 < σ t 15 (x1.toNat + 1) x2.toNat ∨ 0 < σ t 15 (x2.toNat + 1) x1.toNat then 1 else 0)))
  | _, _ => (False, none)
set_option maxRecDepth 100000 in
set_option maxHeartbeats 1000000 in
theorem c62 {as : List AV} (hk : 0 ≤ k) (hc : (r62 as σ).1) (h : Q (r62 as σ).2 σ) : CC G w w k (0, 0) 62 as σ Q := by
  unfold r62 at hc h
  split at hc
  · dsimp only at hc h
    obtain ⟨⟨ht, h22, rfl, rfl⟩, hc⟩ := hc
    refine CC_vb ok62 (by decide) (sm0 G w 0) 40 [] (Nat.le_of_ble_eq_true rfl) ?_
    simp -implicitDefEqProofs only [↓b62_0, ↓b62_6, ↓b62_11, ↓b62_17, ↓b62_22, ↓b62_26, ↓b62_27, b62_0, b62_6, b62_11, b62_17, b62_22, b62_26, b62_27, nLE1, layE4, ht, h22, call_n, ↓xb, xb, ps, lpad, lat, aok2, rd2, aaok, aav, alok, alen, aok, akk, csum, isLg, cmpI, clsE, Option.elim, eq_self, List.mem_cons, List.not_mem_nil, or_false, false_or, List.append_nil, List.nil_append, List.cons_append, List.append_eq, List.replicate, List.length_cons, List.length_nil, List.map_cons, List.map_nil, reduceIte, reduceCtorEq, if_true, if_false, true_and, and_true, false_and, and_false, and_self, not_true_eq_false, not_false_eq_true, forall_const, true_implies, false_implies, implies_true, Nat.reduceAdd, Nat.reduceSub, Nat.reduceLT, Nat.reduceLeDiff, Nat.reduceEqDiff, Nat.reduceMul, Nat.reducePow, Nat.add_one_ne_zero, Nat.add_one_sub_one, Nat.add_zero, Nat.zero_add, Int.reduceLT, Int.reduceLE, Int.reduceNeg, Int.reduceAdd, Int.reduceSub, Int.reduceToNat, Int.reduceEq, Int.reduceMul, Int.reducePow, Int.cast_ofNat_Int, Int.toNat_natCast, ne_eq, Bool.false_eq_true, true_or, or_true, or_self, Nat.not_lt_zero, ite_e0, ite_e1, lc_lt, lc_ge, lc_gt, lc_le, lc_eq, Classical.not_not]
    try simp only [I32, I64] at *
    repeat' (first | (refine And.intro ?_ ?_) | intro _)
    all_goals first | omega | (refine qvi h ?_; ((repeat' split) <;> omega)) | (refine qvl h ?_; ((repeat' split) <;> omega)) | exact h | assumption | ((repeat' split) <;> omega)
  · exact hc.elim
def r147 : List AV → Mem → Prop × Option AV
  | [.inr (.inr (some (t, f, r)))], σ => ((t = 21 ∧ f = 0 ∧ r = 0) ∧ (tillC (σ 21 2 0 7) (σ 21 2 0 6)), some (vi (tillP (σ 21 2 0 7) (σ 21 2 0 6))))
  | _, _ => (False, none)
set_option maxRecDepth 100000 in
set_option maxHeartbeats 1000000 in
theorem c147 {as : List AV} (hk : 0 ≤ k) (hc : (r147 as σ).1) (h : Q (r147 as σ).2 σ) : CC G w w k (0, 0) 147 as σ Q := by
  unfold r147 at hc h
  split at hc
  · dsimp only at hc h
    obtain ⟨⟨rfl, rfl, rfl⟩, hc⟩ := hc
    refine CC_vb ok147 (by decide) (sm0 G w 0) 40 [] (Nat.le_of_ble_eq_true rfl) ?_
    simp -implicitDefEqProofs only [↓b147_0, ↓b147_11, ↓b147_17, ↓b147_34, ↓b147_52, ↓b147_53, b147_0, b147_11, b147_17, b147_34, b147_52, b147_53, nLE2, layE8, call_n, ↓xb, xb, ps, lpad, lat, aok2, rd2, aaok, aav, alok, alen, aok, akk, csum, isLg, cmpI, clsE, Option.elim, eq_self, List.mem_cons, List.not_mem_nil, or_false, false_or, List.append_nil, List.nil_append, List.cons_append, List.append_eq, List.replicate, List.length_cons, List.length_nil, List.map_cons, List.map_nil, reduceIte, reduceCtorEq, if_true, if_false, true_and, and_true, false_and, and_false, and_self, not_true_eq_false, not_false_eq_true, forall_const, true_implies, false_implies, implies_true, Nat.reduceAdd, Nat.reduceSub, Nat.reduceLT, Nat.reduceLeDiff, Nat.reduceEqDiff, Nat.reduceMul, Nat.reducePow, Nat.add_one_ne_zero, Nat.add_one_sub_one, Nat.add_zero, Nat.zero_add, Int.reduceLT, Int.reduceLE, Int.reduceNeg, Int.reduceAdd, Int.reduceSub, Int.reduceToNat, Int.reduceEq, Int.reduceMul, Int.reducePow, Int.cast_ofNat_Int, Int.toNat_natCast, ne_eq, Bool.false_eq_true, true_or, or_true, or_self, Nat.not_lt_zero, ite_e0, ite_e1, lc_lt, lc_ge, lc_gt, lc_le, lc_eq, Classical.not_not]
    unfold tillC tillP at *
    try simp only [I32, I64] at *
    repeat' (first | (refine And.intro ?_ ?_) | intro _)
    all_goals first | omega | (refine qvi h ?_; ((repeat' split) <;> omega)) | (refine qvl h ?_; ((repeat' split) <;> omega)) | exact h | assumption | ((repeat' split) <;> omega)
  · exact hc.elim
def r154 : List AV → Mem → Prop × Option AV
  | [.inr (.inr (some (t, f, r)))], σ => ((t = 21 ∧ f = 0 ∧ r = 0) ∧ (0 ≤ σ 21 40 0 0 ∧ σ 21 39 0 0 ≤ 400), some (vi (if σ 21 40 0 0 < σ 21 39 0 0 then band (σ 21 49 0 (σ 21 40 0 0).toNat) 255 else -1)))
  | _, _ => (False, none)
set_option maxRecDepth 100000 in
set_option maxHeartbeats 1000000 in
theorem c154 {as : List AV} (hk : 0 ≤ k) (hc : (r154 as σ).1) (h : Q (r154 as σ).2 σ) : CC G w w k (0, 0) 154 as σ Q := by
  unfold r154 at hc h
  split at hc
  · dsimp only at hc h
    obtain ⟨⟨rfl, rfl, rfl⟩, hc⟩ := hc
    refine CC_vb ok154 (by decide) (sm0 G w 0) 40 [] (Nat.le_of_ble_eq_true rfl) ?_
    simp -implicitDefEqProofs only [↓b154_0, ↓b154_11, ↓b154_27, ↓b154_28, b154_0, b154_11, b154_27, b154_28, nLE3, layE8, call_n, ↓xb, xb, ps, lpad, lat, aok2, rd2, aaok, aav, alok, alen, aok, akk, csum, isLg, cmpI, clsE, Option.elim, eq_self, List.mem_cons, List.not_mem_nil, or_false, false_or, List.append_nil, List.nil_append, List.cons_append, List.append_eq, List.replicate, List.length_cons, List.length_nil, List.map_cons, List.map_nil, reduceIte, reduceCtorEq, if_true, if_false, true_and, and_true, false_and, and_false, and_self, not_true_eq_false, not_false_eq_true, forall_const, true_implies, false_implies, implies_true, Nat.reduceAdd, Nat.reduceSub, Nat.reduceLT, Nat.reduceLeDiff, Nat.reduceEqDiff, Nat.reduceMul, Nat.reducePow, Nat.add_one_ne_zero, Nat.add_one_sub_one, Nat.add_zero, Nat.zero_add, Int.reduceLT, Int.reduceLE, Int.reduceNeg, Int.reduceAdd, Int.reduceSub, Int.reduceToNat, Int.reduceEq, Int.reduceMul, Int.reducePow, Int.cast_ofNat_Int, Int.toNat_natCast, ne_eq, Bool.false_eq_true, true_or, or_true, or_self, Nat.not_lt_zero, ite_e0, ite_e1, lc_lt, lc_ge, lc_gt, lc_le, lc_eq, Classical.not_not]
    try simp only [I32, I64] at *
    repeat' (first | (refine And.intro ?_ ?_) | intro _)
    all_goals first | omega | (refine qvi h ?_; ((repeat' split) <;> omega)) | (refine qvl h ?_; ((repeat' split) <;> omega)) | exact h | assumption | ((repeat' split) <;> omega)
  · exact hc.elim
def r166 : List AV → Mem → Prop × Option AV
  | [.inr (.inr (some (t, f, r)))], σ => ((t = 21 ∧ f = 0 ∧ r = 0) ∧ (0 ≤ σ 21 47 0 0 ∧ σ 21 47 0 0 ≤ 402), some (vi (if σ 21 47 0 0 = 0 then -1 else σ 21 58 0 (σ 21 47 0 0 - 1).toNat)))
  | _, _ => (False, none)
set_option maxRecDepth 100000 in
set_option maxHeartbeats 1000000 in
theorem c166 {as : List AV} (hk : 0 ≤ k) (hc : (r166 as σ).1) (h : Q (r166 as σ).2 σ) : CC G w w k (0, 0) 166 as σ Q := by
  unfold r166 at hc h
  split at hc
  · dsimp only at hc h
    obtain ⟨⟨rfl, rfl, rfl⟩, hc⟩ := hc
    refine CC_vb ok166 (by decide) (sm0 G w 0) 40 [] (Nat.le_of_ble_eq_true rfl) ?_
    simp -implicitDefEqProofs only [↓b166_0, ↓b166_7, ↓b166_11, ↓b166_22, b166_0, b166_7, b166_11, b166_22, nLE3, layE8, call_n, ↓xb, xb, ps, lpad, lat, aok2, rd2, aaok, aav, alok, alen, aok, akk, csum, isLg, cmpI, clsE, Option.elim, eq_self, List.mem_cons, List.not_mem_nil, or_false, false_or, List.append_nil, List.nil_append, List.cons_append, List.append_eq, List.replicate, List.length_cons, List.length_nil, List.map_cons, List.map_nil, reduceIte, reduceCtorEq, if_true, if_false, true_and, and_true, false_and, and_false, and_self, not_true_eq_false, not_false_eq_true, forall_const, true_implies, false_implies, implies_true, Nat.reduceAdd, Nat.reduceSub, Nat.reduceLT, Nat.reduceLeDiff, Nat.reduceEqDiff, Nat.reduceMul, Nat.reducePow, Nat.add_one_ne_zero, Nat.add_one_sub_one, Nat.add_zero, Nat.zero_add, Int.reduceLT, Int.reduceLE, Int.reduceNeg, Int.reduceAdd, Int.reduceSub, Int.reduceToNat, Int.reduceEq, Int.reduceMul, Int.reducePow, Int.cast_ofNat_Int, Int.toNat_natCast, ne_eq, Bool.false_eq_true, true_or, or_true, or_self, Nat.not_lt_zero, ite_e0, ite_e1, lc_lt, lc_ge, lc_gt, lc_le, lc_eq, Classical.not_not]
    try simp only [I32, I64] at *
    repeat' (first | (refine And.intro ?_ ?_) | intro _)
    all_goals first | omega | (refine qvi h ?_; ((repeat' split) <;> omega)) | (refine qvl h ?_; ((repeat' split) <;> omega)) | exact h | assumption | ((repeat' split) <;> omega)
  · exact hc.elim
def sm1 : Sm := fun y => if y = 76 then some r76 else if y = 128 then some r128 else if y = 129 then some r129 else if y = 132 then some r132 else if y = 176 then some r176 else if y = 31 then some r31 else if y = 32 then some r32 else if y = 26 then some r26 else if y = 45 then some r45 else if y = 52 then some r52 else if y = 53 then some r53 else if y = 54 then some r54 else if y = 62 then some r62 else if y = 147 then some r147 else if y = 154 then some r154 else if y = 166 then some r166 else none
theorem k1_76 {k ks : Nat} {C : CCt} {as : List AV} {σ : Mem} {Q' : Option AV → Mem → Prop} : call sm1 ks k 76 as σ C Q' = (ks < k ∧ (r76 as σ).1 ∧ Q' (r76 as σ).2 σ) := call_s rfl
theorem k1_128 {k ks : Nat} {C : CCt} {as : List AV} {σ : Mem} {Q' : Option AV → Mem → Prop} : call sm1 ks k 128 as σ C Q' = (ks < k ∧ (r128 as σ).1 ∧ Q' (r128 as σ).2 σ) := call_s rfl
theorem k1_129 {k ks : Nat} {C : CCt} {as : List AV} {σ : Mem} {Q' : Option AV → Mem → Prop} : call sm1 ks k 129 as σ C Q' = (ks < k ∧ (r129 as σ).1 ∧ Q' (r129 as σ).2 σ) := call_s rfl
theorem k1_132 {k ks : Nat} {C : CCt} {as : List AV} {σ : Mem} {Q' : Option AV → Mem → Prop} : call sm1 ks k 132 as σ C Q' = (ks < k ∧ (r132 as σ).1 ∧ Q' (r132 as σ).2 σ) := call_s rfl
theorem k1_176 {k ks : Nat} {C : CCt} {as : List AV} {σ : Mem} {Q' : Option AV → Mem → Prop} : call sm1 ks k 176 as σ C Q' = (ks < k ∧ (r176 as σ).1 ∧ Q' (r176 as σ).2 σ) := call_s rfl
theorem k1_31 {k ks : Nat} {C : CCt} {as : List AV} {σ : Mem} {Q' : Option AV → Mem → Prop} : call sm1 ks k 31 as σ C Q' = (ks < k ∧ (r31 as σ).1 ∧ Q' (r31 as σ).2 σ) := call_s rfl
theorem k1_32 {k ks : Nat} {C : CCt} {as : List AV} {σ : Mem} {Q' : Option AV → Mem → Prop} : call sm1 ks k 32 as σ C Q' = (ks < k ∧ (r32 as σ).1 ∧ Q' (r32 as σ).2 σ) := call_s rfl
theorem k1_26 {k ks : Nat} {C : CCt} {as : List AV} {σ : Mem} {Q' : Option AV → Mem → Prop} : call sm1 ks k 26 as σ C Q' = (ks < k ∧ (r26 as σ).1 ∧ Q' (r26 as σ).2 σ) := call_s rfl
theorem k1_45 {k ks : Nat} {C : CCt} {as : List AV} {σ : Mem} {Q' : Option AV → Mem → Prop} : call sm1 ks k 45 as σ C Q' = (ks < k ∧ (r45 as σ).1 ∧ Q' (r45 as σ).2 σ) := call_s rfl
theorem k1_52 {k ks : Nat} {C : CCt} {as : List AV} {σ : Mem} {Q' : Option AV → Mem → Prop} : call sm1 ks k 52 as σ C Q' = (ks < k ∧ (r52 as σ).1 ∧ Q' (r52 as σ).2 σ) := call_s rfl
theorem k1_53 {k ks : Nat} {C : CCt} {as : List AV} {σ : Mem} {Q' : Option AV → Mem → Prop} : call sm1 ks k 53 as σ C Q' = (ks < k ∧ (r53 as σ).1 ∧ Q' (r53 as σ).2 σ) := call_s rfl
theorem k1_54 {k ks : Nat} {C : CCt} {as : List AV} {σ : Mem} {Q' : Option AV → Mem → Prop} : call sm1 ks k 54 as σ C Q' = (ks < k ∧ (r54 as σ).1 ∧ Q' (r54 as σ).2 σ) := call_s rfl
theorem k1_62 {k ks : Nat} {C : CCt} {as : List AV} {σ : Mem} {Q' : Option AV → Mem → Prop} : call sm1 ks k 62 as σ C Q' = (ks < k ∧ (r62 as σ).1 ∧ Q' (r62 as σ).2 σ) := call_s rfl
theorem k1_147 {k ks : Nat} {C : CCt} {as : List AV} {σ : Mem} {Q' : Option AV → Mem → Prop} : call sm1 ks k 147 as σ C Q' = (ks < k ∧ (r147 as σ).1 ∧ Q' (r147 as σ).2 σ) := call_s rfl
theorem k1_154 {k ks : Nat} {C : CCt} {as : List AV} {σ : Mem} {Q' : Option AV → Mem → Prop} : call sm1 ks k 154 as σ C Q' = (ks < k ∧ (r154 as σ).1 ∧ Q' (r154 as σ).2 σ) := call_s rfl
theorem k1_166 {k ks : Nat} {C : CCt} {as : List AV} {σ : Mem} {Q' : Option AV → Mem → Prop} : call sm1 ks k 166 as σ C Q' = (ks < k ∧ (r166 as σ).1 ∧ Q' (r166 as σ).2 σ) := call_s rfl
theorem sm1_ok (G : Gl) (w : Wd) : SmOK G w 0 sm1 := by
  intro y f h k' as σ Q hk hc hq
  unfold sm1 at h
  by_cases e : y = 76
  · rw [if_pos e] at h
    cases h
    subst e
    exact c76 (by omega) hc hq
  rw [if_neg e] at h
  clear e
  by_cases e : y = 128
  · rw [if_pos e] at h
    cases h
    subst e
    exact c128 (by omega) hc hq
  rw [if_neg e] at h
  clear e
  by_cases e : y = 129
  · rw [if_pos e] at h
    cases h
    subst e
    exact c129 (by omega) hc hq
  rw [if_neg e] at h
  clear e
  by_cases e : y = 132
  · rw [if_pos e] at h
    cases h
    subst e
    exact c132 (by omega) hc hq
  rw [if_neg e] at h
  clear e
  by_cases e : y = 176
  · rw [if_pos e] at h
    cases h
    subst e
    exact c176 (by omega) hc hq
  rw [if_neg e] at h
  clear e
  by_cases e : y = 31
  · rw [if_pos e] at h
    cases h
    subst e
    exact c31 (by omega) hc hq
  rw [if_neg e] at h
  clear e
  by_cases e : y = 32
  · rw [if_pos e] at h
    cases h
    subst e
    exact c32 (by omega) hc hq
  rw [if_neg e] at h
  clear e
  by_cases e : y = 26
  · rw [if_pos e] at h
    cases h
    subst e
    exact c26 (by omega) hc hq
  rw [if_neg e] at h
  clear e
  by_cases e : y = 45
  · rw [if_pos e] at h
    cases h
    subst e
    exact c45 (by omega) hc hq
  rw [if_neg e] at h
  clear e
  by_cases e : y = 52
  · rw [if_pos e] at h
    cases h
    subst e
    exact c52 (by omega) hc hq
  rw [if_neg e] at h
  clear e
  by_cases e : y = 53
  · rw [if_pos e] at h
    cases h
    subst e
    exact c53 (by omega) hc hq
  rw [if_neg e] at h
  clear e
  by_cases e : y = 54
  · rw [if_pos e] at h
    cases h
    subst e
    exact c54 (by omega) hc hq
  rw [if_neg e] at h
  clear e
  by_cases e : y = 62
  · rw [if_pos e] at h
    cases h
    subst e
    exact c62 (by omega) hc hq
  rw [if_neg e] at h
  clear e
  by_cases e : y = 147
  · rw [if_pos e] at h
    cases h
    subst e
    exact c147 (by omega) hc hq
  rw [if_neg e] at h
  clear e
  by_cases e : y = 154
  · rw [if_pos e] at h
    cases h
    subst e
    exact c154 (by omega) hc hq
  rw [if_neg e] at h
  clear e
  by_cases e : y = 166
  · rw [if_pos e] at h
    cases h
    subst e
    exact c166 (by omega) hc hq
  rw [if_neg e] at h
  clear e
  cases h
def r77 : List AV → Mem → Prop × Option AV
  | [.inl x0], _ => ((True), some (vi (if 0 ≤ x0 ∧ x0 ≤ 5 then 1 else 0)))
  | _, _ => (False, none)
set_option maxRecDepth 100000 in
set_option maxHeartbeats 1000000 in
theorem c77 {as : List AV} (hk : 1 ≤ k) (hc : (r77 as σ).1) (h : Q (r77 as σ).2 σ) : CC G w w k (0, 0) 77 as σ Q := by
  unfold r77 at hc h
  split at hc
  · dsimp only at hc h
    refine CC_vb ok77 (by decide) (sm1_ok G w) 20 [] (Nat.le_of_ble_eq_true rfl) ?_
    simp -implicitDefEqProofs only [↓b77_0, ↓b77_6, b77_0, b77_6, nLE1, layE7, layE4, layE3, layE2, sm1, r76, r128, r129, r132, r176, r31, r32, r26, r45, r52, r53, r54, r62, r147, r154, r166, call_n, k1_76, k1_128, k1_129, k1_132, k1_176, k1_31, k1_32, k1_26, k1_45, k1_52, k1_53, k1_54, k1_62, k1_147, k1_154, k1_166, ↓xb, xb, ps, lpad, lat, aok2, rd2, aaok, aav, alok, alen, aok, akk, csum, isLg, cmpI, clsE, Option.elim, eq_self, List.mem_cons, List.not_mem_nil, or_false, false_or, List.append_nil, List.nil_append, List.cons_append, List.append_eq, List.replicate, List.length_cons, List.length_nil, List.map_cons, List.map_nil, reduceIte, reduceCtorEq, if_true, if_false, true_and, and_true, false_and, and_false, and_self, not_true_eq_false, not_false_eq_true, forall_const, true_implies, false_implies, implies_true, Nat.reduceAdd, Nat.reduceSub, Nat.reduceLT, Nat.reduceLeDiff, Nat.reduceEqDiff, Nat.reduceMul, Nat.reducePow, Nat.add_one_ne_zero, Nat.add_one_sub_one, Nat.add_zero, Nat.zero_add, Int.reduceLT, Int.reduceLE, Int.reduceNeg, Int.reduceAdd, Int.reduceSub, Int.reduceToNat, Int.reduceEq, Int.reduceMul, Int.reducePow, Int.cast_ofNat_Int, Int.toNat_natCast, ne_eq, Bool.false_eq_true, true_or, or_true, or_self, Nat.not_lt_zero, ite_e0, ite_e1, lc_lt, lc_ge, lc_gt, lc_le, lc_eq, Classical.not_not]
    try simp only [I32, I64] at *
    repeat' (first | (refine And.intro ?_ ?_) | intro _)
    all_goals first | omega | (refine qvi h ?_; ((repeat' split) <;> omega)) | (refine qvl h ?_; ((repeat' split) <;> omega)) | exact h | assumption | ((repeat' split) <;> omega)
  · exact hc.elim
def r46 : List AV → Mem → Prop × Option AV
  | [.inr (.inr (some (t, f, r))), .inl x1, .inl x2], σ => ((cls t = 4 ∧ t < 22 ∧ f = 0 ∧ r = 0) ∧ (True), some (vi (if (0 ≤ x1 ∧ x1 < σ t 3 0 0) ∧ (0 ≤ x2 ∧ x2 < σ t 3 0 0) ∧ ¬ x1 = x2 then 1 else 0)))
  | _, _ => (False, none)
set_option maxRecDepth 100000 in
set_option maxHeartbeats 1000000 in
theorem c46 {as : List AV} (hk : 1 ≤ k) (hc : (r46 as σ).1) (h : Q (r46 as σ).2 σ) : CC G w w k (0, 0) 46 as σ Q := by
  unfold r46 at hc h
  split at hc
  · dsimp only at hc h
    obtain ⟨⟨ht, h22, rfl, rfl⟩, hc⟩ := hc
    refine CC_vb ok46 (by decide) (sm1_ok G w) 40 [] (Nat.le_of_ble_eq_true rfl) ?_
    simp -implicitDefEqProofs only [↓b46_0, ↓b46_5, ↓b46_8, ↓b46_13, ↓b46_16, ↓b46_21, ↓b46_25, ↓b46_26, b46_0, b46_5, b46_8, b46_13, b46_16, b46_21, b46_25, b46_26, nLE0, layE4, ht, h22, sm1, r76, r128, r129, r132, r176, r31, r32, r26, r45, r52, r53, r54, r62, r147, r154, r166, call_n, k1_76, k1_128, k1_129, k1_132, k1_176, k1_31, k1_32, k1_26, k1_45, k1_52, k1_53, k1_54, k1_62, k1_147, k1_154, k1_166, ↓xb, xb, ps, lpad, lat, aok2, rd2, aaok, aav, alok, alen, aok, akk, csum, isLg, cmpI, clsE, Option.elim, eq_self, List.mem_cons, List.not_mem_nil, or_false, false_or, List.append_nil, List.nil_append, List.cons_append, List.append_eq, List.replicate, List.length_cons, List.length_nil, List.map_cons, List.map_nil, reduceIte, reduceCtorEq, if_true, if_false, true_and, and_true, false_and, and_false, and_self, not_true_eq_false, not_false_eq_true, forall_const, true_implies, false_implies, implies_true, Nat.reduceAdd, Nat.reduceSub, Nat.reduceLT, Nat.reduceLeDiff, Nat.reduceEqDiff, Nat.reduceMul, Nat.reducePow, Nat.add_one_ne_zero, Nat.add_one_sub_one, Nat.add_zero, Nat.zero_add, Int.reduceLT, Int.reduceLE, Int.reduceNeg, Int.reduceAdd, Int.reduceSub, Int.reduceToNat, Int.reduceEq, Int.reduceMul, Int.reducePow, Int.cast_ofNat_Int, Int.toNat_natCast, ne_eq, Bool.false_eq_true, true_or, or_true, or_self, Nat.not_lt_zero, ite_e0, ite_e1, lc_lt, lc_ge, lc_gt, lc_le, lc_eq, Classical.not_not]
    try simp only [I32, I64] at *
    repeat' (first | (refine And.intro ?_ ?_) | intro _)
    all_goals first | omega | (refine qvi h ?_; ((repeat' split) <;> omega)) | (refine qvl h ?_; ((repeat' split) <;> omega)) | exact h | assumption | ((repeat' split) <;> omega)
  · exact hc.elim
def r51 : List AV → Mem → Prop × Option AV
  | [.inr (.inr (some (t, f, r))), .inl x1, .inl x2], σ => ((cls t = 4 ∧ t < 22 ∧ f = 0 ∧ r = 0) ∧ (xyT σ t x1 ∧ xyT σ t x2), some (vi (farT σ t x1 x2)))
  | _, _ => (False, none)
set_option maxRecDepth 100000 in
set_option maxHeartbeats 1000000 in
theorem c51 {as : List AV} (hk : 1 ≤ k) (hc : (r51 as σ).1) (h : Q (r51 as σ).2 σ) : CC G w w k (0, 0) 51 as σ Q := by
  unfold r51 at hc h
  split at hc
  · dsimp only at hc h
    obtain ⟨⟨ht, h22, rfl, rfl⟩, hc⟩ := hc
    refine CC_vb ok51 (by decide) (sm1_ok G w) 40 [] (Nat.le_of_ble_eq_true rfl) ?_
    simp -implicitDefEqProofs only [↓b51_0, ↓b51_6, ↓b51_13, ↓b51_28, ↓b51_41, b51_0, b51_6, b51_13, b51_28, b51_41, nLE1, layE4, ht, h22, sm1, r76, r128, r129, r132, r176, r31, r32, r26, r45, r52, r53, r54, r62, r147, r154, r166, call_n, k1_76, k1_128, k1_129, k1_132, k1_176, k1_31, k1_32, k1_26, k1_45, k1_52, k1_53, k1_54, k1_62, k1_147, k1_154, k1_166, ↓xb, xb, ps, lpad, lat, aok2, rd2, aaok, aav, alok, alen, aok, akk, csum, isLg, cmpI, clsE, Option.elim, eq_self, List.mem_cons, List.not_mem_nil, or_false, false_or, List.append_nil, List.nil_append, List.cons_append, List.append_eq, List.replicate, List.length_cons, List.length_nil, List.map_cons, List.map_nil, reduceIte, reduceCtorEq, if_true, if_false, true_and, and_true, false_and, and_false, and_self, not_true_eq_false, not_false_eq_true, forall_const, true_implies, false_implies, implies_true, Nat.reduceAdd, Nat.reduceSub, Nat.reduceLT, Nat.reduceLeDiff, Nat.reduceEqDiff, Nat.reduceMul, Nat.reducePow, Nat.add_one_ne_zero, Nat.add_one_sub_one, Nat.add_zero, Nat.zero_add, Int.reduceLT, Int.reduceLE, Int.reduceNeg, Int.reduceAdd, Int.reduceSub, Int.reduceToNat, Int.reduceEq, Int.reduceMul, Int.reducePow, Int.cast_ofNat_Int, Int.toNat_natCast, ne_eq, Bool.false_eq_true, true_or, or_true, or_self, Nat.not_lt_zero, ite_e0, ite_e1, lc_lt, lc_ge, lc_gt, lc_le, lc_eq, Classical.not_not]
    unfold xyT farT mx at *
    try simp only [I32, I64] at *
    repeat' (first | (refine And.intro ?_ ?_) | intro _)
    all_goals first | omega | (refine qvi h ?_; ((repeat' split) <;> omega)) | (refine qvl h ?_; ((repeat' split) <;> omega)) | exact h | assumption | ((repeat' split) <;> omega)
  · exact hc.elim
def r130 : List AV → Mem → Prop × Option AV
  | [.inr (.inr (some (t, f, r))), .inl x1], σ => ((t = 21 ∧ f = 0 ∧ r = 0) ∧ (I32 (σ 21 2 0 0 - 1)), some (vi (if 0 ≤ x1 ∧ x1 ≤ σ 21 2 0 0 - 1 then 1 else 0)))
  | _, _ => (False, none)
set_option maxRecDepth 100000 in
set_option maxHeartbeats 1000000 in
theorem c130 {as : List AV} (hk : 1 ≤ k) (hc : (r130 as σ).1) (h : Q (r130 as σ).2 σ) : CC G w w k (0, 0) 130 as σ Q := by
  unfold r130 at hc h
  split at hc
  · dsimp only at hc h
    obtain ⟨⟨rfl, rfl, rfl⟩, hc⟩ := hc
    refine CC_vb ok130 (by decide) (sm1_ok G w) 40 [] (Nat.le_of_ble_eq_true rfl) ?_
    simp -implicitDefEqProofs only [↓b130_0, ↓b130_15, b130_0, b130_15, nLE2, layE8, sm1, r76, r128, r129, r132, r176, r31, r32, r26, r45, r52, r53, r54, r62, r147, r154, r166, call_n, k1_76, k1_128, k1_129, k1_132, k1_176, k1_31, k1_32, k1_26, k1_45, k1_52, k1_53, k1_54, k1_62, k1_147, k1_154, k1_166, ↓xb, xb, ps, lpad, lat, aok2, rd2, aaok, aav, alok, alen, aok, akk, csum, isLg, cmpI, clsE, Option.elim, eq_self, List.mem_cons, List.not_mem_nil, or_false, false_or, List.append_nil, List.nil_append, List.cons_append, List.append_eq, List.replicate, List.length_cons, List.length_nil, List.map_cons, List.map_nil, reduceIte, reduceCtorEq, if_true, if_false, true_and, and_true, false_and, and_false, and_self, not_true_eq_false, not_false_eq_true, forall_const, true_implies, false_implies, implies_true, Nat.reduceAdd, Nat.reduceSub, Nat.reduceLT, Nat.reduceLeDiff, Nat.reduceEqDiff, Nat.reduceMul, Nat.reducePow, Nat.add_one_ne_zero, Nat.add_one_sub_one, Nat.add_zero, Nat.zero_add, Int.reduceLT, Int.reduceLE, Int.reduceNeg, Int.reduceAdd, Int.reduceSub, Int.reduceToNat, Int.reduceEq, Int.reduceMul, Int.reducePow, Int.cast_ofNat_Int, Int.toNat_natCast, ne_eq, Bool.false_eq_true, true_or, or_true, or_self, Nat.not_lt_zero, ite_e0, ite_e1, lc_lt, lc_ge, lc_gt, lc_le, lc_eq, Classical.not_not]
    try simp only [I32, I64] at *
    repeat' (first | (refine And.intro ?_ ?_) | intro _)
    all_goals first | omega | (refine qvi h ?_; ((repeat' split) <;> omega)) | (refine qvl h ?_; ((repeat' split) <;> omega)) | exact h | assumption | ((repeat' split) <;> omega)
  · exact hc.elim
def r131 : List AV → Mem → Prop × Option AV
  | [.inl x0], _ => ((True), some (vi (if 0 ≤ x0 ∧ x0 ≤ 5 then 1 else 0)))
  | _, _ => (False, none)
set_option maxRecDepth 100000 in
set_option maxHeartbeats 1000000 in
theorem c131 {as : List AV} (hk : 1 ≤ k) (hc : (r131 as σ).1) (h : Q (r131 as σ).2 σ) : CC G w w k (0, 0) 131 as σ Q := by
  unfold r131 at hc h
  split at hc
  · dsimp only at hc h
    refine CC_vb ok131 (by decide) (sm1_ok G w) 20 [] (Nat.le_of_ble_eq_true rfl) ?_
    simp -implicitDefEqProofs only [↓b131_0, ↓b131_9, b131_0, b131_9, nLE2, layE8, sm1, r76, r128, r129, r132, r176, r31, r32, r26, r45, r52, r53, r54, r62, r147, r154, r166, call_n, k1_76, k1_128, k1_129, k1_132, k1_176, k1_31, k1_32, k1_26, k1_45, k1_52, k1_53, k1_54, k1_62, k1_147, k1_154, k1_166, ↓xb, xb, ps, lpad, lat, aok2, rd2, aaok, aav, alok, alen, aok, akk, csum, isLg, cmpI, clsE, Option.elim, eq_self, List.mem_cons, List.not_mem_nil, or_false, false_or, List.append_nil, List.nil_append, List.cons_append, List.append_eq, List.replicate, List.length_cons, List.length_nil, List.map_cons, List.map_nil, reduceIte, reduceCtorEq, if_true, if_false, true_and, and_true, false_and, and_false, and_self, not_true_eq_false, not_false_eq_true, forall_const, true_implies, false_implies, implies_true, Nat.reduceAdd, Nat.reduceSub, Nat.reduceLT, Nat.reduceLeDiff, Nat.reduceEqDiff, Nat.reduceMul, Nat.reducePow, Nat.add_one_ne_zero, Nat.add_one_sub_one, Nat.add_zero, Nat.zero_add, Int.reduceLT, Int.reduceLE, Int.reduceNeg, Int.reduceAdd, Int.reduceSub, Int.reduceToNat, Int.reduceEq, Int.reduceMul, Int.reducePow, Int.cast_ofNat_Int, Int.toNat_natCast, ne_eq, Bool.false_eq_true, true_or, or_true, or_self, Nat.not_lt_zero, ite_e0, ite_e1, lc_lt, lc_ge, lc_gt, lc_le, lc_eq, Classical.not_not]
    try simp only [I32, I64] at *
    repeat' (first | (refine And.intro ?_ ?_) | intro _)
    all_goals first | omega | (refine qvi h ?_; ((repeat' split) <;> omega)) | (refine qvl h ?_; ((repeat' split) <;> omega)) | exact h | assumption | ((repeat' split) <;> omega)
  · exact hc.elim
def r133 : List AV → Mem → Prop × Option AV
  | [.inr (.inr (some (t, f, r))), .inl x1, .inl x2], σ => ((t = 21 ∧ f = 0 ∧ r = 0) ∧ (xyM σ x1 ∧ xyM σ x2), some (vi (farM σ x1 x2)))
  | _, _ => (False, none)
set_option maxRecDepth 100000 in
set_option maxHeartbeats 1000000 in
theorem c133 {as : List AV} (hk : 1 ≤ k) (hc : (r133 as σ).1) (h : Q (r133 as σ).2 σ) : CC G w w k (0, 0) 133 as σ Q := by
  unfold r133 at hc h
  split at hc
  · dsimp only at hc h
    obtain ⟨⟨rfl, rfl, rfl⟩, hc⟩ := hc
    refine CC_vb ok133 (by decide) (sm1_ok G w) 60 [] (Nat.le_of_ble_eq_true rfl) ?_
    simp -implicitDefEqProofs only [↓b133_0, ↓b133_15, ↓b133_30, b133_0, b133_15, b133_30, nLE2, layE8, sm1, r76, r128, r129, r132, r176, r31, r32, r26, r45, r52, r53, r54, r62, r147, r154, r166, call_n, k1_76, k1_128, k1_129, k1_132, k1_176, k1_31, k1_32, k1_26, k1_45, k1_52, k1_53, k1_54, k1_62, k1_147, k1_154, k1_166, ↓xb, xb, ps, lpad, lat, aok2, rd2, aaok, aav, alok, alen, aok, akk, csum, isLg, cmpI, clsE, Option.elim, eq_self, List.mem_cons, List.not_mem_nil, or_false, false_or, List.append_nil, List.nil_append, List.cons_append, List.append_eq, List.replicate, List.length_cons, List.length_nil, List.map_cons, List.map_nil, reduceIte, reduceCtorEq, if_true, if_false, true_and, and_true, false_and, and_false, and_self, not_true_eq_false, not_false_eq_true, forall_const, true_implies, false_implies, implies_true, Nat.reduceAdd, Nat.reduceSub, Nat.reduceLT, Nat.reduceLeDiff, Nat.reduceEqDiff, Nat.reduceMul, Nat.reducePow, Nat.add_one_ne_zero, Nat.add_one_sub_one, Nat.add_zero, Nat.zero_add, Int.reduceLT, Int.reduceLE, Int.reduceNeg, Int.reduceAdd, Int.reduceSub, Int.reduceToNat, Int.reduceEq, Int.reduceMul, Int.reducePow, Int.cast_ofNat_Int, Int.toNat_natCast, ne_eq, Bool.false_eq_true, true_or, or_true, or_self, Nat.not_lt_zero, ite_e0, ite_e1, lc_lt, lc_ge, lc_gt, lc_le, lc_eq, Classical.not_not]
    unfold xyM farM ab at *
    try simp only [I32, I64] at *
    repeat' (first | (refine And.intro ?_ ?_) | intro _)
    all_goals first | omega | (refine qvi h ?_; ((repeat' split) <;> omega)) | (refine qvl h ?_; ((repeat' split) <;> omega)) | exact h | assumption | ((repeat' split) <;> omega)
  · exact hc.elim
def r139 : List AV → Mem → Prop × Option AV
  | [.inr (.inr (some (t, f, r))), .inl x1], σ => ((t = 21 ∧ f = 0 ∧ r = 0) ∧ (I32 (σ 21 2 0 2 - 1)), some (vi (if 0 ≤ x1 ∧ x1 ≤ σ 21 2 0 2 - 1 then 1 else 0)))
  | _, _ => (False, none)
set_option maxRecDepth 100000 in
set_option maxHeartbeats 1000000 in
theorem c139 {as : List AV} (hk : 1 ≤ k) (hc : (r139 as σ).1) (h : Q (r139 as σ).2 σ) : CC G w w k (0, 0) 139 as σ Q := by
  unfold r139 at hc h
  split at hc
  · dsimp only at hc h
    obtain ⟨⟨rfl, rfl, rfl⟩, hc⟩ := hc
    refine CC_vb ok139 (by decide) (sm1_ok G w) 40 [] (Nat.le_of_ble_eq_true rfl) ?_
    simp -implicitDefEqProofs only [↓b139_0, ↓b139_15, b139_0, b139_15, nLE2, layE8, sm1, r76, r128, r129, r132, r176, r31, r32, r26, r45, r52, r53, r54, r62, r147, r154, r166, call_n, k1_76, k1_128, k1_129, k1_132, k1_176, k1_31, k1_32, k1_26, k1_45, k1_52, k1_53, k1_54, k1_62, k1_147, k1_154, k1_166, ↓xb, xb, ps, lpad, lat, aok2, rd2, aaok, aav, alok, alen, aok, akk, csum, isLg, cmpI, clsE, Option.elim, eq_self, List.mem_cons, List.not_mem_nil, or_false, false_or, List.append_nil, List.nil_append, List.cons_append, List.append_eq, List.replicate, List.length_cons, List.length_nil, List.map_cons, List.map_nil, reduceIte, reduceCtorEq, if_true, if_false, true_and, and_true, false_and, and_false, and_self, not_true_eq_false, not_false_eq_true, forall_const, true_implies, false_implies, implies_true, Nat.reduceAdd, Nat.reduceSub, Nat.reduceLT, Nat.reduceLeDiff, Nat.reduceEqDiff, Nat.reduceMul, Nat.reducePow, Nat.add_one_ne_zero, Nat.add_one_sub_one, Nat.add_zero, Nat.zero_add, Int.reduceLT, Int.reduceLE, Int.reduceNeg, Int.reduceAdd, Int.reduceSub, Int.reduceToNat, Int.reduceEq, Int.reduceMul, Int.reducePow, Int.cast_ofNat_Int, Int.toNat_natCast, ne_eq, Bool.false_eq_true, true_or, or_true, or_self, Nat.not_lt_zero, ite_e0, ite_e1, lc_lt, lc_ge, lc_gt, lc_le, lc_eq, Classical.not_not]
    try simp only [I32, I64] at *
    repeat' (first | (refine And.intro ?_ ?_) | intro _)
    all_goals first | omega | (refine qvi h ?_; ((repeat' split) <;> omega)) | (refine qvl h ?_; ((repeat' split) <;> omega)) | exact h | assumption | ((repeat' split) <;> omega)
  · exact hc.elim
def r156 : List AV → Mem → Prop × Option AV
  | [.inr (.inr (some (t, f, r)))], σ => ((t = 21 ∧ f = 0 ∧ r = 0) ∧ (0 ≤ σ 21 40 0 0 ∧ σ 21 39 0 0 ≤ 400), some (vi (if σ 21 40 0 0 < σ 21 39 0 0 ∧ 48 ≤ band (σ 21 49 0 (σ 21 40 0 0).toNat) 255 ∧ band (σ 21 49 0 (σ 21 40 0 0).toNat) 255 ≤ 57 then 1 else 0)))
  | _, _ => (False, none)
set_option maxRecDepth 100000 in
set_option maxHeartbeats 1000000 in
theorem c156 {as : List AV} (hk : 1 ≤ k) (hc : (r156 as σ).1) (h : Q (r156 as σ).2 σ) : CC G w w k (0, 0) 156 as σ Q := by
  unfold r156 at hc h
  split at hc
  · dsimp only at hc h
    obtain ⟨⟨rfl, rfl, rfl⟩, hc⟩ := hc
    refine CC_vb ok156 (by decide) (sm1_ok G w) 40 [] (Nat.le_of_ble_eq_true rfl) ?_
    simp -implicitDefEqProofs only [↓b156_0, ↓b156_4, ↓b156_14, b156_0, b156_4, b156_14, nLE3, layE8, sm1, r76, r128, r129, r132, r176, r31, r32, r26, r45, r52, r53, r54, r62, r147, r154, r166, call_n, k1_76, k1_128, k1_129, k1_132, k1_176, k1_31, k1_32, k1_26, k1_45, k1_52, k1_53, k1_54, k1_62, k1_147, k1_154, k1_166, ↓xb, xb, ps, lpad, lat, aok2, rd2, aaok, aav, alok, alen, aok, akk, csum, isLg, cmpI, clsE, Option.elim, eq_self, List.mem_cons, List.not_mem_nil, or_false, false_or, List.append_nil, List.nil_append, List.cons_append, List.append_eq, List.replicate, List.length_cons, List.length_nil, List.map_cons, List.map_nil, reduceIte, reduceCtorEq, if_true, if_false, true_and, and_true, false_and, and_false, and_self, not_true_eq_false, not_false_eq_true, forall_const, true_implies, false_implies, implies_true, Nat.reduceAdd, Nat.reduceSub, Nat.reduceLT, Nat.reduceLeDiff, Nat.reduceEqDiff, Nat.reduceMul, Nat.reducePow, Nat.add_one_ne_zero, Nat.add_one_sub_one, Nat.add_zero, Nat.zero_add, Int.reduceLT, Int.reduceLE, Int.reduceNeg, Int.reduceAdd, Int.reduceSub, Int.reduceToNat, Int.reduceEq, Int.reduceMul, Int.reducePow, Int.cast_ofNat_Int, Int.toNat_natCast, ne_eq, Bool.false_eq_true, true_or, or_true, or_self, Nat.not_lt_zero, ite_e0, ite_e1, lc_lt, lc_ge, lc_gt, lc_le, lc_eq, Classical.not_not]
    try simp only [I32, I64] at *
    repeat' (first | (refine And.intro ?_ ?_) | intro _)
    all_goals first | omega | (refine qvi h ?_; ((repeat' split) <;> omega)) | (refine qvl h ?_; ((repeat' split) <;> omega)) | exact h | assumption | ((repeat' split) <;> omega)
  · exact hc.elim
def r175 : List AV → Mem → Prop × Option AV
  | [.inr (.inr (some (t, f, r))), .inl x1], σ => ((t = 21 ∧ f = 0 ∧ r = 0) ∧ (I32 (σ 21 43 0 0 - 1)), some (vi (if 0 ≤ x1 ∧ x1 ≤ σ 21 43 0 0 - 1 then 1 else 0)))
  | _, _ => (False, none)
set_option maxRecDepth 100000 in
set_option maxHeartbeats 1000000 in
theorem c175 {as : List AV} (hk : 1 ≤ k) (hc : (r175 as σ).1) (h : Q (r175 as σ).2 σ) : CC G w w k (0, 0) 175 as σ Q := by
  unfold r175 at hc h
  split at hc
  · dsimp only at hc h
    obtain ⟨⟨rfl, rfl, rfl⟩, hc⟩ := hc
    refine CC_vb ok175 (by decide) (sm1_ok G w) 40 [] (Nat.le_of_ble_eq_true rfl) ?_
    simp -implicitDefEqProofs only [↓b175_0, ↓b175_13, b175_0, b175_13, nLE3, layE8, sm1, r76, r128, r129, r132, r176, r31, r32, r26, r45, r52, r53, r54, r62, r147, r154, r166, call_n, k1_76, k1_128, k1_129, k1_132, k1_176, k1_31, k1_32, k1_26, k1_45, k1_52, k1_53, k1_54, k1_62, k1_147, k1_154, k1_166, ↓xb, xb, ps, lpad, lat, aok2, rd2, aaok, aav, alok, alen, aok, akk, csum, isLg, cmpI, clsE, Option.elim, eq_self, List.mem_cons, List.not_mem_nil, or_false, false_or, List.append_nil, List.nil_append, List.cons_append, List.append_eq, List.replicate, List.length_cons, List.length_nil, List.map_cons, List.map_nil, reduceIte, reduceCtorEq, if_true, if_false, true_and, and_true, false_and, and_false, and_self, not_true_eq_false, not_false_eq_true, forall_const, true_implies, false_implies, implies_true, Nat.reduceAdd, Nat.reduceSub, Nat.reduceLT, Nat.reduceLeDiff, Nat.reduceEqDiff, Nat.reduceMul, Nat.reducePow, Nat.add_one_ne_zero, Nat.add_one_sub_one, Nat.add_zero, Nat.zero_add, Int.reduceLT, Int.reduceLE, Int.reduceNeg, Int.reduceAdd, Int.reduceSub, Int.reduceToNat, Int.reduceEq, Int.reduceMul, Int.reducePow, Int.cast_ofNat_Int, Int.toNat_natCast, ne_eq, Bool.false_eq_true, true_or, or_true, or_self, Nat.not_lt_zero, ite_e0, ite_e1, lc_lt, lc_ge, lc_gt, lc_le, lc_eq, Classical.not_not]
    try simp only [I32, I64] at *
    repeat' (first | (refine And.intro ?_ ?_) | intro _)
    all_goals first | omega | (refine qvi h ?_; ((repeat' split) <;> omega)) | (refine qvl h ?_; ((repeat' split) <;> omega)) | exact h | assumption | ((repeat' split) <;> omega)
  · exact hc.elim
def r184 : List AV → Mem → Prop × Option AV
  | [.inr (.inr (some (t, f, r))), .inl x1], σ => ((t = 21 ∧ f = 0 ∧ r = 0) ∧ (0 ≤ σ 21 2 0 6 ∧ 0 ≤ x1 ∧ x1 < 40), some (vi (if σ 21 13 0 x1.toNat ≤ σ 21 2 0 6 % 96 ∧ σ 21 2 0 6 % 96 ≤ σ 21 14 0 x1.toNat then 1 else 0)))
  | _, _ => (False, none)
set_option maxRecDepth 100000 in
set_option maxHeartbeats 1000000 in
theorem c184 {as : List AV} (hk : 1 ≤ k) (hc : (r184 as σ).1) (h : Q (r184 as σ).2 σ) : CC G w w k (0, 0) 184 as σ Q := by
  unfold r184 at hc h
  split at hc
  · dsimp only at hc h
    obtain ⟨⟨rfl, rfl, rfl⟩, hc⟩ := hc
    refine CC_vb ok184 (by decide) (sm1_ok G w) 40 [] (Nat.le_of_ble_eq_true rfl) ?_
    simp -implicitDefEqProofs only [↓b184_0, ↓b184_28, b184_0, b184_28, nLE3, layE8, sm1, r76, r128, r129, r132, r176, r31, r32, r26, r45, r52, r53, r54, r62, r147, r154, r166, call_n, k1_76, k1_128, k1_129, k1_132, k1_176, k1_31, k1_32, k1_26, k1_45, k1_52, k1_53, k1_54, k1_62, k1_147, k1_154, k1_166, ↓xb, xb, ps, lpad, lat, aok2, rd2, aaok, aav, alok, alen, aok, akk, csum, isLg, cmpI, clsE, Option.elim, eq_self, List.mem_cons, List.not_mem_nil, or_false, false_or, List.append_nil, List.nil_append, List.cons_append, List.append_eq, List.replicate, List.length_cons, List.length_nil, List.map_cons, List.map_nil, reduceIte, reduceCtorEq, if_true, if_false, true_and, and_true, false_and, and_false, and_self, not_true_eq_false, not_false_eq_true, forall_const, true_implies, false_implies, implies_true, Nat.reduceAdd, Nat.reduceSub, Nat.reduceLT, Nat.reduceLeDiff, Nat.reduceEqDiff, Nat.reduceMul, Nat.reducePow, Nat.add_one_ne_zero, Nat.add_one_sub_one, Nat.add_zero, Nat.zero_add, Int.reduceLT, Int.reduceLE, Int.reduceNeg, Int.reduceAdd, Int.reduceSub, Int.reduceToNat, Int.reduceEq, Int.reduceMul, Int.reducePow, Int.cast_ofNat_Int, Int.toNat_natCast, ne_eq, Bool.false_eq_true, true_or, or_true, or_self, Nat.not_lt_zero, ite_e0, ite_e1, lc_lt, lc_ge, lc_gt, lc_le, lc_eq, Classical.not_not]
    try simp only [I32, I64] at *
    repeat' (first | (refine And.intro ?_ ?_) | intro _)
    all_goals first | omega | (refine qvi h ?_; ((repeat' split) <;> omega)) | (refine qvl h ?_; ((repeat' split) <;> omega)) | exact h | assumption | ((repeat' split) <;> omega)
  · exact hc.elim
def sm2 : Sm := fun y => if y = 76 then some r76 else if y = 128 then some r128 else if y = 129 then some r129 else if y = 132 then some r132 else if y = 176 then some r176 else if y = 31 then some r31 else if y = 32 then some r32 else if y = 26 then some r26 else if y = 45 then some r45 else if y = 52 then some r52 else if y = 53 then some r53 else if y = 54 then some r54 else if y = 62 then some r62 else if y = 147 then some r147 else if y = 154 then some r154 else if y = 166 then some r166 else if y = 77 then some r77 else if y = 46 then some r46 else if y = 51 then some r51 else if y = 130 then some r130 else if y = 131 then some r131 else if y = 133 then some r133 else if y = 139 then some r139 else if y = 156 then some r156 else if y = 175 then some r175 else if y = 184 then some r184 else none
theorem k2_76 {k ks : Nat} {C : CCt} {as : List AV} {σ : Mem} {Q' : Option AV → Mem → Prop} : call sm2 ks k 76 as σ C Q' = (ks < k ∧ (r76 as σ).1 ∧ Q' (r76 as σ).2 σ) := call_s rfl
theorem k2_128 {k ks : Nat} {C : CCt} {as : List AV} {σ : Mem} {Q' : Option AV → Mem → Prop} : call sm2 ks k 128 as σ C Q' = (ks < k ∧ (r128 as σ).1 ∧ Q' (r128 as σ).2 σ) := call_s rfl
theorem k2_129 {k ks : Nat} {C : CCt} {as : List AV} {σ : Mem} {Q' : Option AV → Mem → Prop} : call sm2 ks k 129 as σ C Q' = (ks < k ∧ (r129 as σ).1 ∧ Q' (r129 as σ).2 σ) := call_s rfl
theorem k2_132 {k ks : Nat} {C : CCt} {as : List AV} {σ : Mem} {Q' : Option AV → Mem → Prop} : call sm2 ks k 132 as σ C Q' = (ks < k ∧ (r132 as σ).1 ∧ Q' (r132 as σ).2 σ) := call_s rfl
theorem k2_176 {k ks : Nat} {C : CCt} {as : List AV} {σ : Mem} {Q' : Option AV → Mem → Prop} : call sm2 ks k 176 as σ C Q' = (ks < k ∧ (r176 as σ).1 ∧ Q' (r176 as σ).2 σ) := call_s rfl
theorem k2_31 {k ks : Nat} {C : CCt} {as : List AV} {σ : Mem} {Q' : Option AV → Mem → Prop} : call sm2 ks k 31 as σ C Q' = (ks < k ∧ (r31 as σ).1 ∧ Q' (r31 as σ).2 σ) := call_s rfl
theorem k2_32 {k ks : Nat} {C : CCt} {as : List AV} {σ : Mem} {Q' : Option AV → Mem → Prop} : call sm2 ks k 32 as σ C Q' = (ks < k ∧ (r32 as σ).1 ∧ Q' (r32 as σ).2 σ) := call_s rfl
theorem k2_26 {k ks : Nat} {C : CCt} {as : List AV} {σ : Mem} {Q' : Option AV → Mem → Prop} : call sm2 ks k 26 as σ C Q' = (ks < k ∧ (r26 as σ).1 ∧ Q' (r26 as σ).2 σ) := call_s rfl
theorem k2_45 {k ks : Nat} {C : CCt} {as : List AV} {σ : Mem} {Q' : Option AV → Mem → Prop} : call sm2 ks k 45 as σ C Q' = (ks < k ∧ (r45 as σ).1 ∧ Q' (r45 as σ).2 σ) := call_s rfl
theorem k2_52 {k ks : Nat} {C : CCt} {as : List AV} {σ : Mem} {Q' : Option AV → Mem → Prop} : call sm2 ks k 52 as σ C Q' = (ks < k ∧ (r52 as σ).1 ∧ Q' (r52 as σ).2 σ) := call_s rfl
theorem k2_53 {k ks : Nat} {C : CCt} {as : List AV} {σ : Mem} {Q' : Option AV → Mem → Prop} : call sm2 ks k 53 as σ C Q' = (ks < k ∧ (r53 as σ).1 ∧ Q' (r53 as σ).2 σ) := call_s rfl
theorem k2_54 {k ks : Nat} {C : CCt} {as : List AV} {σ : Mem} {Q' : Option AV → Mem → Prop} : call sm2 ks k 54 as σ C Q' = (ks < k ∧ (r54 as σ).1 ∧ Q' (r54 as σ).2 σ) := call_s rfl
theorem k2_62 {k ks : Nat} {C : CCt} {as : List AV} {σ : Mem} {Q' : Option AV → Mem → Prop} : call sm2 ks k 62 as σ C Q' = (ks < k ∧ (r62 as σ).1 ∧ Q' (r62 as σ).2 σ) := call_s rfl
theorem k2_147 {k ks : Nat} {C : CCt} {as : List AV} {σ : Mem} {Q' : Option AV → Mem → Prop} : call sm2 ks k 147 as σ C Q' = (ks < k ∧ (r147 as σ).1 ∧ Q' (r147 as σ).2 σ) := call_s rfl
theorem k2_154 {k ks : Nat} {C : CCt} {as : List AV} {σ : Mem} {Q' : Option AV → Mem → Prop} : call sm2 ks k 154 as σ C Q' = (ks < k ∧ (r154 as σ).1 ∧ Q' (r154 as σ).2 σ) := call_s rfl
theorem k2_166 {k ks : Nat} {C : CCt} {as : List AV} {σ : Mem} {Q' : Option AV → Mem → Prop} : call sm2 ks k 166 as σ C Q' = (ks < k ∧ (r166 as σ).1 ∧ Q' (r166 as σ).2 σ) := call_s rfl
theorem k2_77 {k ks : Nat} {C : CCt} {as : List AV} {σ : Mem} {Q' : Option AV → Mem → Prop} : call sm2 ks k 77 as σ C Q' = (ks < k ∧ (r77 as σ).1 ∧ Q' (r77 as σ).2 σ) := call_s rfl
theorem k2_46 {k ks : Nat} {C : CCt} {as : List AV} {σ : Mem} {Q' : Option AV → Mem → Prop} : call sm2 ks k 46 as σ C Q' = (ks < k ∧ (r46 as σ).1 ∧ Q' (r46 as σ).2 σ) := call_s rfl
theorem k2_51 {k ks : Nat} {C : CCt} {as : List AV} {σ : Mem} {Q' : Option AV → Mem → Prop} : call sm2 ks k 51 as σ C Q' = (ks < k ∧ (r51 as σ).1 ∧ Q' (r51 as σ).2 σ) := call_s rfl
theorem k2_130 {k ks : Nat} {C : CCt} {as : List AV} {σ : Mem} {Q' : Option AV → Mem → Prop} : call sm2 ks k 130 as σ C Q' = (ks < k ∧ (r130 as σ).1 ∧ Q' (r130 as σ).2 σ) := call_s rfl
theorem k2_131 {k ks : Nat} {C : CCt} {as : List AV} {σ : Mem} {Q' : Option AV → Mem → Prop} : call sm2 ks k 131 as σ C Q' = (ks < k ∧ (r131 as σ).1 ∧ Q' (r131 as σ).2 σ) := call_s rfl
theorem k2_133 {k ks : Nat} {C : CCt} {as : List AV} {σ : Mem} {Q' : Option AV → Mem → Prop} : call sm2 ks k 133 as σ C Q' = (ks < k ∧ (r133 as σ).1 ∧ Q' (r133 as σ).2 σ) := call_s rfl
theorem k2_139 {k ks : Nat} {C : CCt} {as : List AV} {σ : Mem} {Q' : Option AV → Mem → Prop} : call sm2 ks k 139 as σ C Q' = (ks < k ∧ (r139 as σ).1 ∧ Q' (r139 as σ).2 σ) := call_s rfl
theorem k2_156 {k ks : Nat} {C : CCt} {as : List AV} {σ : Mem} {Q' : Option AV → Mem → Prop} : call sm2 ks k 156 as σ C Q' = (ks < k ∧ (r156 as σ).1 ∧ Q' (r156 as σ).2 σ) := call_s rfl
theorem k2_175 {k ks : Nat} {C : CCt} {as : List AV} {σ : Mem} {Q' : Option AV → Mem → Prop} : call sm2 ks k 175 as σ C Q' = (ks < k ∧ (r175 as σ).1 ∧ Q' (r175 as σ).2 σ) := call_s rfl
theorem k2_184 {k ks : Nat} {C : CCt} {as : List AV} {σ : Mem} {Q' : Option AV → Mem → Prop} : call sm2 ks k 184 as σ C Q' = (ks < k ∧ (r184 as σ).1 ∧ Q' (r184 as σ).2 σ) := call_s rfl
theorem sm2_ok (G : Gl) (w : Wd) : SmOK G w 1 sm2 := by
  intro y f h k' as σ Q hk hc hq
  unfold sm2 at h
  by_cases e : y = 76
  · rw [if_pos e] at h
    cases h
    subst e
    exact c76 (by omega) hc hq
  rw [if_neg e] at h
  clear e
  by_cases e : y = 128
  · rw [if_pos e] at h
    cases h
    subst e
    exact c128 (by omega) hc hq
  rw [if_neg e] at h
  clear e
  by_cases e : y = 129
  · rw [if_pos e] at h
    cases h
    subst e
    exact c129 (by omega) hc hq
  rw [if_neg e] at h
  clear e
  by_cases e : y = 132
  · rw [if_pos e] at h
    cases h
    subst e
    exact c132 (by omega) hc hq
  rw [if_neg e] at h
  clear e
  by_cases e : y = 176
  · rw [if_pos e] at h
    cases h
    subst e
    exact c176 (by omega) hc hq
  rw [if_neg e] at h
  clear e
  by_cases e : y = 31
  · rw [if_pos e] at h
    cases h
    subst e
    exact c31 (by omega) hc hq
  rw [if_neg e] at h
  clear e
  by_cases e : y = 32
  · rw [if_pos e] at h
    cases h
    subst e
    exact c32 (by omega) hc hq
  rw [if_neg e] at h
  clear e
  by_cases e : y = 26
  · rw [if_pos e] at h
    cases h
    subst e
    exact c26 (by omega) hc hq
  rw [if_neg e] at h
  clear e
  by_cases e : y = 45
  · rw [if_pos e] at h
    cases h
    subst e
    exact c45 (by omega) hc hq
  rw [if_neg e] at h
  clear e
  by_cases e : y = 52
  · rw [if_pos e] at h
    cases h
    subst e
    exact c52 (by omega) hc hq
  rw [if_neg e] at h
  clear e
  by_cases e : y = 53
  · rw [if_pos e] at h
    cases h
    subst e
    exact c53 (by omega) hc hq
  rw [if_neg e] at h
  clear e
  by_cases e : y = 54
  · rw [if_pos e] at h
    cases h
    subst e
    exact c54 (by omega) hc hq
  rw [if_neg e] at h
  clear e
  by_cases e : y = 62
  · rw [if_pos e] at h
    cases h
    subst e
    exact c62 (by omega) hc hq
  rw [if_neg e] at h
  clear e
  by_cases e : y = 147
  · rw [if_pos e] at h
    cases h
    subst e
    exact c147 (by omega) hc hq
  rw [if_neg e] at h
  clear e
  by_cases e : y = 154
  · rw [if_pos e] at h
    cases h
    subst e
    exact c154 (by omega) hc hq
  rw [if_neg e] at h
  clear e
  by_cases e : y = 166
  · rw [if_pos e] at h
    cases h
    subst e
    exact c166 (by omega) hc hq
  rw [if_neg e] at h
  clear e
  by_cases e : y = 77
  · rw [if_pos e] at h
    cases h
    subst e
    exact c77 (by omega) hc hq
  rw [if_neg e] at h
  clear e
  by_cases e : y = 46
  · rw [if_pos e] at h
    cases h
    subst e
    exact c46 (by omega) hc hq
  rw [if_neg e] at h
  clear e
  by_cases e : y = 51
  · rw [if_pos e] at h
    cases h
    subst e
    exact c51 (by omega) hc hq
  rw [if_neg e] at h
  clear e
  by_cases e : y = 130
  · rw [if_pos e] at h
    cases h
    subst e
    exact c130 (by omega) hc hq
  rw [if_neg e] at h
  clear e
  by_cases e : y = 131
  · rw [if_pos e] at h
    cases h
    subst e
    exact c131 (by omega) hc hq
  rw [if_neg e] at h
  clear e
  by_cases e : y = 133
  · rw [if_pos e] at h
    cases h
    subst e
    exact c133 (by omega) hc hq
  rw [if_neg e] at h
  clear e
  by_cases e : y = 139
  · rw [if_pos e] at h
    cases h
    subst e
    exact c139 (by omega) hc hq
  rw [if_neg e] at h
  clear e
  by_cases e : y = 156
  · rw [if_pos e] at h
    cases h
    subst e
    exact c156 (by omega) hc hq
  rw [if_neg e] at h
  clear e
  by_cases e : y = 175
  · rw [if_pos e] at h
    cases h
    subst e
    exact c175 (by omega) hc hq
  rw [if_neg e] at h
  clear e
  by_cases e : y = 184
  · rw [if_pos e] at h
    cases h
    subst e
    exact c184 (by omega) hc hq
  rw [if_neg e] at h
  clear e
  cases h
def r134 : List AV → Mem → Prop × Option AV
  | [.inr (.inr (some (t, f, r))), .inl x1, .inl x2], σ => ((t = 21 ∧ f = 0 ∧ r = 0) ∧ (I32 (σ 21 2 0 0 - 1)), some (vi (if (0 ≤ x1 ∧ x1 ≤ σ 21 2 0 0 - 1) ∧ (0 ≤ x2 ∧ x2 ≤ σ 21 2 0 0 - 1) ∧ ¬ x1 = x2 then 1 else 0)))
  | _, _ => (False, none)
set_option maxRecDepth 100000 in
set_option maxHeartbeats 1000000 in
theorem c134 {as : List AV} (hk : 2 ≤ k) (hc : (r134 as σ).1) (h : Q (r134 as σ).2 σ) : CC G w w k (0, 0) 134 as σ Q := by
  unfold r134 at hc h
  split at hc
  · dsimp only at hc h
    obtain ⟨⟨rfl, rfl, rfl⟩, hc⟩ := hc
    refine CC_vb ok134 (by decide) (sm2_ok G w) 40 [] (Nat.le_of_ble_eq_true rfl) ?_
    simp -implicitDefEqProofs only [↓b134_0, ↓b134_5, ↓b134_8, ↓b134_13, ↓b134_16, ↓b134_21, ↓b134_25, ↓b134_26, b134_0, b134_5, b134_8, b134_13, b134_16, b134_21, b134_25, b134_26, nLE2, layE8, sm2, r76, r128, r129, r132, r176, r31, r32, r26, r45, r52, r53, r54, r62, r147, r154, r166, r77, r46, r51, r130, r131, r133, r139, r156, r175, r184, call_n, k2_76, k2_128, k2_129, k2_132, k2_176, k2_31, k2_32, k2_26, k2_45, k2_52, k2_53, k2_54, k2_62, k2_147, k2_154, k2_166, k2_77, k2_46, k2_51, k2_130, k2_131, k2_133, k2_139, k2_156, k2_175, k2_184, ↓xb, xb, ps, lpad, lat, aok2, rd2, aaok, aav, alok, alen, aok, akk, csum, isLg, cmpI, clsE, Option.elim, eq_self, List.mem_cons, List.not_mem_nil, or_false, false_or, List.append_nil, List.nil_append, List.cons_append, List.append_eq, List.replicate, List.length_cons, List.length_nil, List.map_cons, List.map_nil, reduceIte, reduceCtorEq, if_true, if_false, true_and, and_true, false_and, and_false, and_self, not_true_eq_false, not_false_eq_true, forall_const, true_implies, false_implies, implies_true, Nat.reduceAdd, Nat.reduceSub, Nat.reduceLT, Nat.reduceLeDiff, Nat.reduceEqDiff, Nat.reduceMul, Nat.reducePow, Nat.add_one_ne_zero, Nat.add_one_sub_one, Nat.add_zero, Nat.zero_add, Int.reduceLT, Int.reduceLE, Int.reduceNeg, Int.reduceAdd, Int.reduceSub, Int.reduceToNat, Int.reduceEq, Int.reduceMul, Int.reducePow, Int.cast_ofNat_Int, Int.toNat_natCast, ne_eq, Bool.false_eq_true, true_or, or_true, or_self, Nat.not_lt_zero, ite_e0, ite_e1, lc_lt, lc_ge, lc_gt, lc_le, lc_eq, Classical.not_not]
    try simp only [I32, I64] at *
    repeat' (first | (refine And.intro ?_ ?_) | intro _)
    all_goals first | omega | (refine qvi h ?_; ((repeat' split) <;> omega)) | (refine qvl h ?_; ((repeat' split) <;> omega)) | exact h | assumption | ((repeat' split) <;> omega)
  · exact hc.elim
def r55 : List AV → Mem → Prop × Option AV
  | [.inr (.inr (some (t, f, r))), .inl x1, .inl x2], σ => ((cls t = 4 ∧ t < 22 ∧ f = 0 ∧ r = 0) ∧ ((0 ≤ x1 ∧ x1 < 12) ∧ (0 ≤ σ t 12 (x1.toNat + 1) 5 ∧ σ t 12 (x1.toNat + 1) 5 ≤ 99) ∧ xyT σ t (σ t 12 (x1.toNat + 1) 0) ∧ xyT σ t x2), some (vi (max 0 (σ t 12 (x1.toNat + 1) 5 - farT σ t (σ t 12 (x1.toNat + 1) 0) x2))))
  | _, _ => (False, none)
set_option maxRecDepth 100000 in
set_option maxHeartbeats 1000000 in
theorem c55 {as : List AV} (hk : 2 ≤ k) (hc : (r55 as σ).1) (h : Q (r55 as σ).2 σ) : CC G w w k (0, 0) 55 as σ Q := by
  unfold r55 at hc h
  split at hc
  · dsimp only at hc h
    obtain ⟨⟨ht, h22, rfl, rfl⟩, hc⟩ := hc
    refine CC_vb ok55 (by decide) (sm2_ok G w) 60 [] (Nat.le_of_ble_eq_true rfl) ?_
    simp -implicitDefEqProofs only [↓b55_0, ↓b55_7, ↓b55_16, ↓b55_22, ↓b55_26, b55_0, b55_7, b55_16, b55_22, b55_26, nLE1, layE4, ht, h22, sm2, r76, r128, r129, r132, r176, r31, r32, r26, r45, r52, r53, r54, r62, r147, r154, r166, r77, r46, r51, r130, r131, r133, r139, r156, r175, r184, call_n, k2_76, k2_128, k2_129, k2_132, k2_176, k2_31, k2_32, k2_26, k2_45, k2_52, k2_53, k2_54, k2_62, k2_147, k2_154, k2_166, k2_77, k2_46, k2_51, k2_130, k2_131, k2_133, k2_139, k2_156, k2_175, k2_184, ↓xb, xb, ps, lpad, lat, aok2, rd2, aaok, aav, alok, alen, aok, akk, csum, isLg, cmpI, clsE, Option.elim, eq_self, List.mem_cons, List.not_mem_nil, or_false, false_or, List.append_nil, List.nil_append, List.cons_append, List.append_eq, List.replicate, List.length_cons, List.length_nil, List.map_cons, List.map_nil, reduceIte, reduceCtorEq, if_true, if_false, true_and, and_true, false_and, and_false, and_self, not_true_eq_false, not_false_eq_true, forall_const, true_implies, false_implies, implies_true, Nat.reduceAdd, Nat.reduceSub, Nat.reduceLT, Nat.reduceLeDiff, Nat.reduceEqDiff, Nat.reduceMul, Nat.reducePow, Nat.add_one_ne_zero, Nat.add_one_sub_one, Nat.add_zero, Nat.zero_add, Int.reduceLT, Int.reduceLE, Int.reduceNeg, Int.reduceAdd, Int.reduceSub, Int.reduceToNat, Int.reduceEq, Int.reduceMul, Int.reducePow, Int.cast_ofNat_Int, Int.toNat_natCast, ne_eq, Bool.false_eq_true, true_or, or_true, or_self, Nat.not_lt_zero, ite_e0, ite_e1, lc_lt, lc_ge, lc_gt, lc_le, lc_eq, Classical.not_not]
    have hr := farT_r hc.2.2.1 hc.2.2.2
    unfold xyT at hc
    try simp only [I32, I64] at *
    repeat' (first | (refine And.intro ?_ ?_) | intro _)
    all_goals first | omega | (refine qvi h ?_; ((repeat' split) <;> omega)) | (refine qvl h ?_; ((repeat' split) <;> omega)) | exact h | assumption | ((repeat' split) <;> omega)
  · exact hc.elim
def r234 : List AV → Mem → Prop × Option AV
  | [.inr (.inr (some (t, f, r))), .inl x1, .inl x2], σ => ((t = 21 ∧ f = 0 ∧ r = 0) ∧ ((0 ≤ x1 ∧ x1 < 12) ∧ (0 ≤ σ 21 21 0 x1.toNat ∧ σ 21 21 0 x1.toNat ≤ 99) ∧ xyM σ (σ 21 16 0 x1.toNat) ∧ xyM σ x2), some (vi (if σ 21 21 0 x1.toNat - farM σ (σ 21 16 0 x1.toNat) x2 < 0 then 0 else σ 21 21 0 x1.toNat - farM σ (σ 21 16 0 x1.toNat) x2)))
  | _, _ => (False, none)
set_option maxRecDepth 100000 in
set_option maxHeartbeats 1000000 in
theorem c234 {as : List AV} (hk : 2 ≤ k) (hc : (r234 as σ).1) (h : Q (r234 as σ).2 σ) : CC G w w k (0, 0) 234 as σ Q := by
  unfold r234 at hc h
  split at hc
  · dsimp only at hc h
    obtain ⟨⟨rfl, rfl, rfl⟩, hc⟩ := hc
    refine CC_vb ok234 (by decide) (sm2_ok G w) 60 [] (Nat.le_of_ble_eq_true rfl) ?_
    simp -implicitDefEqProofs only [↓b234_0, ↓b234_17, ↓b234_23, ↓b234_27, ↓b234_28, b234_0, b234_17, b234_23, b234_27, b234_28, nLE4, layE8, sm2, r76, r128, r129, r132, r176, r31, r32, r26, r45, r52, r53, r54, r62, r147, r154, r166, r77, r46, r51, r130, r131, r133, r139, r156, r175, r184, call_n, k2_76, k2_128, k2_129, k2_132, k2_176, k2_31, k2_32, k2_26, k2_45, k2_52, k2_53, k2_54, k2_62, k2_147, k2_154, k2_166, k2_77, k2_46, k2_51, k2_130, k2_131, k2_133, k2_139, k2_156, k2_175, k2_184, ↓xb, xb, ps, lpad, lat, aok2, rd2, aaok, aav, alok, alen, aok, akk, csum, isLg, cmpI, clsE, Option.elim, eq_self, List.mem_cons, List.not_mem_nil, or_false, false_or, List.append_nil, List.nil_append, List.cons_append, List.append_eq, List.replicate, List.length_cons, List.length_nil, List.map_cons, List.map_nil, reduceIte, reduceCtorEq, if_true, if_false, true_and, and_true, false_and, and_false, and_self, not_true_eq_false, not_false_eq_true, forall_const, true_implies, false_implies, implies_true, Nat.reduceAdd, Nat.reduceSub, Nat.reduceLT, Nat.reduceLeDiff, Nat.reduceEqDiff, Nat.reduceMul, Nat.reducePow, Nat.add_one_ne_zero, Nat.add_one_sub_one, Nat.add_zero, Nat.zero_add, Int.reduceLT, Int.reduceLE, Int.reduceNeg, Int.reduceAdd, Int.reduceSub, Int.reduceToNat, Int.reduceEq, Int.reduceMul, Int.reducePow, Int.cast_ofNat_Int, Int.toNat_natCast, ne_eq, Bool.false_eq_true, true_or, or_true, or_self, Nat.not_lt_zero, ite_e0, ite_e1, lc_lt, lc_ge, lc_gt, lc_le, lc_eq, Classical.not_not]
    have hr := farM_r hc.2.2.1 hc.2.2.2
    unfold xyM at hc
    try simp only [I32, I64] at *
    repeat' (first | (refine And.intro ?_ ?_) | intro _)
    all_goals first | omega | (refine qvi h ?_; ((repeat' split) <;> omega)) | (refine qvl h ?_; ((repeat' split) <;> omega)) | exact h | assumption | ((repeat' split) <;> omega)
  · exact hc.elim
def sm3 : Sm := fun y => if y = 76 then some r76 else if y = 128 then some r128 else if y = 129 then some r129 else if y = 132 then some r132 else if y = 176 then some r176 else if y = 31 then some r31 else if y = 32 then some r32 else if y = 26 then some r26 else if y = 45 then some r45 else if y = 52 then some r52 else if y = 53 then some r53 else if y = 54 then some r54 else if y = 62 then some r62 else if y = 147 then some r147 else if y = 154 then some r154 else if y = 166 then some r166 else if y = 77 then some r77 else if y = 46 then some r46 else if y = 51 then some r51 else if y = 130 then some r130 else if y = 131 then some r131 else if y = 133 then some r133 else if y = 139 then some r139 else if y = 156 then some r156 else if y = 175 then some r175 else if y = 184 then some r184 else if y = 134 then some r134 else if y = 55 then some r55 else if y = 234 then some r234 else none
theorem k3_76 {k ks : Nat} {C : CCt} {as : List AV} {σ : Mem} {Q' : Option AV → Mem → Prop} : call sm3 ks k 76 as σ C Q' = (ks < k ∧ (r76 as σ).1 ∧ Q' (r76 as σ).2 σ) := call_s rfl
theorem k3_128 {k ks : Nat} {C : CCt} {as : List AV} {σ : Mem} {Q' : Option AV → Mem → Prop} : call sm3 ks k 128 as σ C Q' = (ks < k ∧ (r128 as σ).1 ∧ Q' (r128 as σ).2 σ) := call_s rfl
theorem k3_129 {k ks : Nat} {C : CCt} {as : List AV} {σ : Mem} {Q' : Option AV → Mem → Prop} : call sm3 ks k 129 as σ C Q' = (ks < k ∧ (r129 as σ).1 ∧ Q' (r129 as σ).2 σ) := call_s rfl
theorem k3_132 {k ks : Nat} {C : CCt} {as : List AV} {σ : Mem} {Q' : Option AV → Mem → Prop} : call sm3 ks k 132 as σ C Q' = (ks < k ∧ (r132 as σ).1 ∧ Q' (r132 as σ).2 σ) := call_s rfl
theorem k3_176 {k ks : Nat} {C : CCt} {as : List AV} {σ : Mem} {Q' : Option AV → Mem → Prop} : call sm3 ks k 176 as σ C Q' = (ks < k ∧ (r176 as σ).1 ∧ Q' (r176 as σ).2 σ) := call_s rfl
theorem k3_31 {k ks : Nat} {C : CCt} {as : List AV} {σ : Mem} {Q' : Option AV → Mem → Prop} : call sm3 ks k 31 as σ C Q' = (ks < k ∧ (r31 as σ).1 ∧ Q' (r31 as σ).2 σ) := call_s rfl
theorem k3_32 {k ks : Nat} {C : CCt} {as : List AV} {σ : Mem} {Q' : Option AV → Mem → Prop} : call sm3 ks k 32 as σ C Q' = (ks < k ∧ (r32 as σ).1 ∧ Q' (r32 as σ).2 σ) := call_s rfl
theorem k3_26 {k ks : Nat} {C : CCt} {as : List AV} {σ : Mem} {Q' : Option AV → Mem → Prop} : call sm3 ks k 26 as σ C Q' = (ks < k ∧ (r26 as σ).1 ∧ Q' (r26 as σ).2 σ) := call_s rfl
theorem k3_45 {k ks : Nat} {C : CCt} {as : List AV} {σ : Mem} {Q' : Option AV → Mem → Prop} : call sm3 ks k 45 as σ C Q' = (ks < k ∧ (r45 as σ).1 ∧ Q' (r45 as σ).2 σ) := call_s rfl
theorem k3_52 {k ks : Nat} {C : CCt} {as : List AV} {σ : Mem} {Q' : Option AV → Mem → Prop} : call sm3 ks k 52 as σ C Q' = (ks < k ∧ (r52 as σ).1 ∧ Q' (r52 as σ).2 σ) := call_s rfl
theorem k3_53 {k ks : Nat} {C : CCt} {as : List AV} {σ : Mem} {Q' : Option AV → Mem → Prop} : call sm3 ks k 53 as σ C Q' = (ks < k ∧ (r53 as σ).1 ∧ Q' (r53 as σ).2 σ) := call_s rfl
theorem k3_54 {k ks : Nat} {C : CCt} {as : List AV} {σ : Mem} {Q' : Option AV → Mem → Prop} : call sm3 ks k 54 as σ C Q' = (ks < k ∧ (r54 as σ).1 ∧ Q' (r54 as σ).2 σ) := call_s rfl
theorem k3_62 {k ks : Nat} {C : CCt} {as : List AV} {σ : Mem} {Q' : Option AV → Mem → Prop} : call sm3 ks k 62 as σ C Q' = (ks < k ∧ (r62 as σ).1 ∧ Q' (r62 as σ).2 σ) := call_s rfl
theorem k3_147 {k ks : Nat} {C : CCt} {as : List AV} {σ : Mem} {Q' : Option AV → Mem → Prop} : call sm3 ks k 147 as σ C Q' = (ks < k ∧ (r147 as σ).1 ∧ Q' (r147 as σ).2 σ) := call_s rfl
theorem k3_154 {k ks : Nat} {C : CCt} {as : List AV} {σ : Mem} {Q' : Option AV → Mem → Prop} : call sm3 ks k 154 as σ C Q' = (ks < k ∧ (r154 as σ).1 ∧ Q' (r154 as σ).2 σ) := call_s rfl
theorem k3_166 {k ks : Nat} {C : CCt} {as : List AV} {σ : Mem} {Q' : Option AV → Mem → Prop} : call sm3 ks k 166 as σ C Q' = (ks < k ∧ (r166 as σ).1 ∧ Q' (r166 as σ).2 σ) := call_s rfl
theorem k3_77 {k ks : Nat} {C : CCt} {as : List AV} {σ : Mem} {Q' : Option AV → Mem → Prop} : call sm3 ks k 77 as σ C Q' = (ks < k ∧ (r77 as σ).1 ∧ Q' (r77 as σ).2 σ) := call_s rfl
theorem k3_46 {k ks : Nat} {C : CCt} {as : List AV} {σ : Mem} {Q' : Option AV → Mem → Prop} : call sm3 ks k 46 as σ C Q' = (ks < k ∧ (r46 as σ).1 ∧ Q' (r46 as σ).2 σ) := call_s rfl
theorem k3_51 {k ks : Nat} {C : CCt} {as : List AV} {σ : Mem} {Q' : Option AV → Mem → Prop} : call sm3 ks k 51 as σ C Q' = (ks < k ∧ (r51 as σ).1 ∧ Q' (r51 as σ).2 σ) := call_s rfl
theorem k3_130 {k ks : Nat} {C : CCt} {as : List AV} {σ : Mem} {Q' : Option AV → Mem → Prop} : call sm3 ks k 130 as σ C Q' = (ks < k ∧ (r130 as σ).1 ∧ Q' (r130 as σ).2 σ) := call_s rfl
theorem k3_131 {k ks : Nat} {C : CCt} {as : List AV} {σ : Mem} {Q' : Option AV → Mem → Prop} : call sm3 ks k 131 as σ C Q' = (ks < k ∧ (r131 as σ).1 ∧ Q' (r131 as σ).2 σ) := call_s rfl
theorem k3_133 {k ks : Nat} {C : CCt} {as : List AV} {σ : Mem} {Q' : Option AV → Mem → Prop} : call sm3 ks k 133 as σ C Q' = (ks < k ∧ (r133 as σ).1 ∧ Q' (r133 as σ).2 σ) := call_s rfl
theorem k3_139 {k ks : Nat} {C : CCt} {as : List AV} {σ : Mem} {Q' : Option AV → Mem → Prop} : call sm3 ks k 139 as σ C Q' = (ks < k ∧ (r139 as σ).1 ∧ Q' (r139 as σ).2 σ) := call_s rfl
theorem k3_156 {k ks : Nat} {C : CCt} {as : List AV} {σ : Mem} {Q' : Option AV → Mem → Prop} : call sm3 ks k 156 as σ C Q' = (ks < k ∧ (r156 as σ).1 ∧ Q' (r156 as σ).2 σ) := call_s rfl
theorem k3_175 {k ks : Nat} {C : CCt} {as : List AV} {σ : Mem} {Q' : Option AV → Mem → Prop} : call sm3 ks k 175 as σ C Q' = (ks < k ∧ (r175 as σ).1 ∧ Q' (r175 as σ).2 σ) := call_s rfl
theorem k3_184 {k ks : Nat} {C : CCt} {as : List AV} {σ : Mem} {Q' : Option AV → Mem → Prop} : call sm3 ks k 184 as σ C Q' = (ks < k ∧ (r184 as σ).1 ∧ Q' (r184 as σ).2 σ) := call_s rfl
theorem k3_134 {k ks : Nat} {C : CCt} {as : List AV} {σ : Mem} {Q' : Option AV → Mem → Prop} : call sm3 ks k 134 as σ C Q' = (ks < k ∧ (r134 as σ).1 ∧ Q' (r134 as σ).2 σ) := call_s rfl
theorem k3_55 {k ks : Nat} {C : CCt} {as : List AV} {σ : Mem} {Q' : Option AV → Mem → Prop} : call sm3 ks k 55 as σ C Q' = (ks < k ∧ (r55 as σ).1 ∧ Q' (r55 as σ).2 σ) := call_s rfl
theorem k3_234 {k ks : Nat} {C : CCt} {as : List AV} {σ : Mem} {Q' : Option AV → Mem → Prop} : call sm3 ks k 234 as σ C Q' = (ks < k ∧ (r234 as σ).1 ∧ Q' (r234 as σ).2 σ) := call_s rfl
theorem sm3_ok (G : Gl) (w : Wd) : SmOK G w 2 sm3 := by
  intro y f h k' as σ Q hk hc hq
  unfold sm3 at h
  by_cases e : y = 76
  · rw [if_pos e] at h
    cases h
    subst e
    exact c76 (by omega) hc hq
  rw [if_neg e] at h
  clear e
  by_cases e : y = 128
  · rw [if_pos e] at h
    cases h
    subst e
    exact c128 (by omega) hc hq
  rw [if_neg e] at h
  clear e
  by_cases e : y = 129
  · rw [if_pos e] at h
    cases h
    subst e
    exact c129 (by omega) hc hq
  rw [if_neg e] at h
  clear e
  by_cases e : y = 132
  · rw [if_pos e] at h
    cases h
    subst e
    exact c132 (by omega) hc hq
  rw [if_neg e] at h
  clear e
  by_cases e : y = 176
  · rw [if_pos e] at h
    cases h
    subst e
    exact c176 (by omega) hc hq
  rw [if_neg e] at h
  clear e
  by_cases e : y = 31
  · rw [if_pos e] at h
    cases h
    subst e
    exact c31 (by omega) hc hq
  rw [if_neg e] at h
  clear e
  by_cases e : y = 32
  · rw [if_pos e] at h
    cases h
    subst e
    exact c32 (by omega) hc hq
  rw [if_neg e] at h
  clear e
  by_cases e : y = 26
  · rw [if_pos e] at h
    cases h
    subst e
    exact c26 (by omega) hc hq
  rw [if_neg e] at h
  clear e
  by_cases e : y = 45
  · rw [if_pos e] at h
    cases h
    subst e
    exact c45 (by omega) hc hq
  rw [if_neg e] at h
  clear e
  by_cases e : y = 52
  · rw [if_pos e] at h
    cases h
    subst e
    exact c52 (by omega) hc hq
  rw [if_neg e] at h
  clear e
  by_cases e : y = 53
  · rw [if_pos e] at h
    cases h
    subst e
    exact c53 (by omega) hc hq
  rw [if_neg e] at h
  clear e
  by_cases e : y = 54
  · rw [if_pos e] at h
    cases h
    subst e
    exact c54 (by omega) hc hq
  rw [if_neg e] at h
  clear e
  by_cases e : y = 62
  · rw [if_pos e] at h
    cases h
    subst e
    exact c62 (by omega) hc hq
  rw [if_neg e] at h
  clear e
  by_cases e : y = 147
  · rw [if_pos e] at h
    cases h
    subst e
    exact c147 (by omega) hc hq
  rw [if_neg e] at h
  clear e
  by_cases e : y = 154
  · rw [if_pos e] at h
    cases h
    subst e
    exact c154 (by omega) hc hq
  rw [if_neg e] at h
  clear e
  by_cases e : y = 166
  · rw [if_pos e] at h
    cases h
    subst e
    exact c166 (by omega) hc hq
  rw [if_neg e] at h
  clear e
  by_cases e : y = 77
  · rw [if_pos e] at h
    cases h
    subst e
    exact c77 (by omega) hc hq
  rw [if_neg e] at h
  clear e
  by_cases e : y = 46
  · rw [if_pos e] at h
    cases h
    subst e
    exact c46 (by omega) hc hq
  rw [if_neg e] at h
  clear e
  by_cases e : y = 51
  · rw [if_pos e] at h
    cases h
    subst e
    exact c51 (by omega) hc hq
  rw [if_neg e] at h
  clear e
  by_cases e : y = 130
  · rw [if_pos e] at h
    cases h
    subst e
    exact c130 (by omega) hc hq
  rw [if_neg e] at h
  clear e
  by_cases e : y = 131
  · rw [if_pos e] at h
    cases h
    subst e
    exact c131 (by omega) hc hq
  rw [if_neg e] at h
  clear e
  by_cases e : y = 133
  · rw [if_pos e] at h
    cases h
    subst e
    exact c133 (by omega) hc hq
  rw [if_neg e] at h
  clear e
  by_cases e : y = 139
  · rw [if_pos e] at h
    cases h
    subst e
    exact c139 (by omega) hc hq
  rw [if_neg e] at h
  clear e
  by_cases e : y = 156
  · rw [if_pos e] at h
    cases h
    subst e
    exact c156 (by omega) hc hq
  rw [if_neg e] at h
  clear e
  by_cases e : y = 175
  · rw [if_pos e] at h
    cases h
    subst e
    exact c175 (by omega) hc hq
  rw [if_neg e] at h
  clear e
  by_cases e : y = 184
  · rw [if_pos e] at h
    cases h
    subst e
    exact c184 (by omega) hc hq
  rw [if_neg e] at h
  clear e
  by_cases e : y = 134
  · rw [if_pos e] at h
    cases h
    subst e
    exact c134 (by omega) hc hq
  rw [if_neg e] at h
  clear e
  by_cases e : y = 55
  · rw [if_pos e] at h
    cases h
    subst e
    exact c55 (by omega) hc hq
  rw [if_neg e] at h
  clear e
  by_cases e : y = 234
  · rw [if_pos e] at h
    cases h
    subst e
    exact c234 (by omega) hc hq
  rw [if_neg e] at h
  clear e
  cases h
end LEA

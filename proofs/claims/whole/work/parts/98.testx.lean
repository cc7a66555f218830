/-! 98.testx: a test (check) -/
theorem bnt_inl {f : Int} {r : PT} {g : Nat → Nat → List (Nat × Int) → List (Nat × Int) → PT} (h : r = .inl f) : bnt r g = .inl f := by rw [h]; rfl
theorem bnt_inr {r : PT} {g : Nat → Nat → List (Nat × Int) → List (Nat × Int) → PT} {p c : Nat} {L M : List (Nat × Int)} (h : r = .inr (p, c, L, M)) : bnt r g = g p c L M := by rw [h]; rfl
theorem bns_inl {f : Int} {r : PR} {g : Nat → Nat → List (Nat × Int) → PT} (h : r = .inl f) : bns r g = .inl f := by rw [h]; rfl
theorem bns_inr {r : PR} {g : Nat → Nat → List (Nat × Int) → PT} {p c : Nat} {L : List (Nat × Int)} (h : r = .inr (p, c, L)) : bns r g = g p c L := by rw [h]; rfl
def andS (a : Bool) : List Int := if a = true then [10] else []
def orS (b : Bool) : List Int := if b = true then [11] else []
def andL (a : Bool) : List (Nat × Int) := if a = true then [(10, 0)] else []
/-- neither not, and, or waits first -/
def FR (S : List Int) : Prop := ∀ y S', S = y :: S' → y ≠ 9 ∧ y ≠ 10 ∧ y ≠ 11
section TSX
variable (G : Gl) (w : Wd) (k : Nat) (Q : Option AV → Mem → Prop) (t : Nat → Int) (N s : Nat)
def PF (m : Nat) : Prop := ∀ (d : Nat) (b : Bool) (p pp c : Nat) (LL : List (Nat × Int)) (S : List Int) (σ : Mem) (l3 l4 : Option AV), XTt σ t N s pp c LL d S → pp ≤ N → p ≤ N → bls t N pp = bls t N p → c ≤ 60 → 3 * LL.length ≤ p + 4 * c → d ≤ 10 → S.length ≤ p → nd N 0 p ≤ m →
  (∀ f, pzG t N m 0 d b p c [] [] = .inl f → ∀ σ', XFb σ' t N f 1000 → same SXT σ σ' → Q none σ') →
  (∀ p1 c1 L1 M1, pzG t N m 0 d b p c [] [] = .inr (p1, c1, L1, M1) → ∀ pe σ', pe ≤ N → bls t N pe = bls t N p1 → XTt σ' t N s pe c1 (LL ++ M1) d S → same SXT σ σ' → ∀ k2 QQ, 20 ≤ k2 → (∀ σ'', (∀ l3 l4, TT G w w w k (0, 0) 170 46 [some (vr 21 0 0), some (vi 0), some (vi 1), l3, l4] [] σ'' Q) → QQ none σ'') → TT G w w w k2 (0, 0) 168 0 [some (vr 21 0 0), some (vi 9)] [] σ' QQ) →
  TT G w w w k (0, 0) 170 9 [some (vr 21 0 0), some (vi 1), some (vi 1), l3, l4] [] σ Q
def PG (m : Nat) : Prop := ∀ (d : Nat) (b : Bool) (p pp c : Nat) (LL : List (Nat × Int)) (S : List Int) (σ : Mem) (l3 l4 : Option AV), FR S → XTt σ t N s pp c LL d S → pp ≤ N → p ≤ N → bls t N pp = bls t N p → c ≤ 60 → 3 * LL.length ≤ p + 4 * c → d ≤ 10 → S.length ≤ p → nd N 1 p ≤ m →
  (∀ f, pzG t N m 1 d b p c [] [] = .inl f → ∀ σ', XFb σ' t N f 1000 → same SXT σ σ' → Q none σ') →
  (∀ p1 c1 L1 M1, pzG t N m 1 d b p c [] [] = .inr (p1, c1, L1, M1) → ∀ σ' l3 l4, XTt σ' t N s (bls t N p1) c1 (LL ++ M1) d S → same SXT σ σ' → TT G w w w k (0, 0) 170 137 [some (vr 21 0 0), some (vi 0), some (vi 1), l3, l4] [] σ' Q) →
  TT G w w w k (0, 0) 170 9 [some (vr 21 0 0), some (vi 1), some (vi 1), l3, l4] [] σ Q
def PM (m : Nat) : Prop := ∀ (d : Nat) (a b : Bool) (p pp c : Nat) (LL L M : List (Nat × Int)) (S : List Int) (σ : Mem) (l3 l4 : Option AV), FR S → XTt σ t N s pp c (LL ++ M) d (andS a ++ (orS b ++ S)) → pp ≤ N → p ≤ N → bls t N pp = bls t N p → c ≤ 60 → 3 * (LL ++ M).length + 3 * (andL a).length + 3 * (orL b).length ≤ p + 4 * c → d ≤ 10 → (andS a ++ (orS b ++ S)).length ≤ p → nd N 2 p ≤ m →
  (∀ f, pzG t N m 2 d b p c L (M ++ andL a) = .inl f → ∀ σ', XFb σ' t N f 1000 → same SXT σ σ' → Q none σ') →
  (∀ p1 c1 L1 M1, pzG t N m 2 d b p c L (M ++ andL a) = .inr (p1, c1, L1, M1) → ∀ σ' l3 l4, XTt σ' t N s (bls t N p1) c1 (LL ++ M1) d S → same SXT σ σ' → TT G w w w k (0, 0) 170 137 [some (vr 21 0 0), some (vi 0), some (vi 1), l3, l4] [] σ' Q) →
  TT G w w w k (0, 0) 170 46 [some (vr 21 0 0), some (vi 0), some (vi 1), l3, l4] [] σ Q
end TSX
section TSY
variable {G : Gl} {w : Wd} {k : Nat} {σ : Mem} {Q : Option AV → Mem → Prop} {t : Nat → Int} {N s : Nat}
set_option maxRecDepth 100000 in
set_option maxHeartbeats 1000000 in
theorem kx_tex (hk : 20 ≤ k) {f B : Int} (F : XFb σ t N f B) (q : Q none σ) {a o : Int} {l3 l4 : Option AV} : TT G w w w k (0, 0) 170 9 [some (vr 21 0 0), some (vi a), some (vi o), l3, l4] [] σ Q := by
  have e41 := F.2.1
  have fne := F.2.2.1
  refine TT_vb ok170 (sm3_ok G w) 60 [] ?_
  simp -implicitDefEqProofs only [↓b170_0, ↓b170_9, ↓b170_13, ↓b170_20, ↓b170_24, ↓b170_28, ↓b170_31, ↓b170_35, ↓b170_36, ↓b170_40, ↓b170_46, ↓b170_50, ↓b170_57, ↓b170_65, ↓b170_73, ↓b170_77, ↓b170_82, ↓b170_87, ↓b170_93, ↓b170_98, ↓b170_103, ↓b170_105, ↓b170_108, ↓b170_117, ↓b170_121, ↓b170_122, ↓b170_131, ↓b170_137, ↓b170_141, ↓b170_146, ↓b170_150, ↓b170_155, ↓b170_164, ↓b170_197, ↓b170_199, ↓b170_202, b170_0, b170_9, b170_13, b170_20, b170_24, b170_28, b170_31, b170_35, b170_36, b170_40, b170_46, b170_50, b170_57, b170_65, b170_73, b170_77, b170_82, b170_87, b170_93, b170_98, b170_103, b170_105, b170_108, b170_117, b170_121, b170_122, b170_131, b170_137, b170_141, b170_146, b170_150, b170_155, b170_164, b170_197, b170_199, b170_202, nLE3, layE8, e41, fne, n3_169, n3_168, n3_155, n3_157, n3_167, k3_166, r166, k3_154, r154, n3_153, I32, ↓xb, xb, ps, lpad, lat, aok2, rd2, aaok, aav, alok, alen, aok, akk, csum, isLg, cmpI, clsE, Option.elim, eq_self, List.mem_cons, List.not_mem_nil, or_false, false_or, List.append_nil, List.nil_append, List.cons_append, List.append_eq, List.replicate, List.length_cons, List.length_nil, List.map_cons, List.map_nil, ↓reduceIte, reduceCtorEq, if_true, if_false, true_and, and_true, false_and, and_false, and_self, not_true_eq_false, not_false_eq_true, forall_const, true_implies, false_implies, implies_true, Nat.reduceAdd, Nat.reduceSub, Nat.reduceLT, Nat.reduceLeDiff, Nat.reduceEqDiff, Nat.reduceMul, Nat.reducePow, Nat.add_one_ne_zero, Nat.add_one_sub_one, Nat.add_zero, Nat.zero_add, Int.reduceLT, Int.reduceLE, Int.reduceNeg, Int.reduceAdd, Int.reduceSub, Int.reduceToNat, Int.reduceEq, Int.reduceMul, Int.reducePow, Int.cast_ofNat_Int, Int.toNat_natCast, ne_eq, Bool.false_eq_true, true_or, or_true, or_self, Nat.not_lt_zero, ite_e0, ite_e1, lc_lt, lc_ge, lc_gt, lc_le, lc_eq, Classical.not_not]
  with_reducible repeat' (first | (refine And.intro ?_ ?_) | intro _)
  all_goals try omega
  all_goals first | omega | exact q
set_option maxRecDepth 100000 in
set_option maxHeartbeats 1000000 in
theorem kx_t9 (hk : 60 ≤ k) (e41 : σ 21 41 0 0 = 0) (q : ∀ k2 QQ, 20 ≤ k2 → (∀ σ'', (∀ l3 l4, TT G w w w k (0, 0) 170 46 [some (vr 21 0 0), some (vi 0), some (vi 1), l3, l4] [] σ'' Q) → QQ none σ'') → TT G w w w k2 (0, 0) 168 0 [some (vr 21 0 0), some (vi 9)] [] σ QQ) {l3 l4 : Option AV} : TT G w w w k (0, 0) 170 9 [some (vr 21 0 0), some (vi 0), some (vi 1), l3, l4] [] σ Q := by
  refine TT_vb ok170 (sm3_ok G w) 60 [46] ?_
  simp -implicitDefEqProofs only [↓b170_0, ↓b170_9, ↓b170_13, ↓b170_20, ↓b170_24, ↓b170_28, ↓b170_31, ↓b170_35, ↓b170_36, ↓b170_40, ↓b170_46, ↓b170_50, ↓b170_57, ↓b170_65, ↓b170_73, ↓b170_77, ↓b170_82, ↓b170_87, ↓b170_93, ↓b170_98, ↓b170_103, ↓b170_105, ↓b170_108, ↓b170_117, ↓b170_121, ↓b170_122, ↓b170_131, ↓b170_137, ↓b170_141, ↓b170_146, ↓b170_150, ↓b170_155, ↓b170_164, ↓b170_197, ↓b170_199, ↓b170_202, b170_0, b170_9, b170_13, b170_20, b170_24, b170_28, b170_31, b170_35, b170_36, b170_40, b170_46, b170_50, b170_57, b170_65, b170_73, b170_77, b170_82, b170_87, b170_93, b170_98, b170_103, b170_105, b170_108, b170_117, b170_121, b170_122, b170_131, b170_137, b170_141, b170_146, b170_150, b170_155, b170_164, b170_197, b170_199, b170_202, nLE3, layE8, e41, n3_169, n3_168, n3_155, n3_157, n3_167, k3_166, r166, k3_154, r154, n3_153, I32, ↓xb, xb, ps, lpad, lat, aok2, rd2, aaok, aav, alok, alen, aok, akk, csum, isLg, cmpI, clsE, Option.elim, eq_self, List.mem_cons, List.not_mem_nil, or_false, false_or, List.append_nil, List.nil_append, List.cons_append, List.append_eq, List.replicate, List.length_cons, List.length_nil, List.map_cons, List.map_nil, ↓reduceIte, reduceCtorEq, if_true, if_false, true_and, and_true, false_and, and_false, and_self, not_true_eq_false, not_false_eq_true, forall_const, true_implies, false_implies, implies_true, Nat.reduceAdd, Nat.reduceSub, Nat.reduceLT, Nat.reduceLeDiff, Nat.reduceEqDiff, Nat.reduceMul, Nat.reducePow, Nat.add_one_ne_zero, Nat.add_one_sub_one, Nat.add_zero, Nat.zero_add, Int.reduceLT, Int.reduceLE, Int.reduceNeg, Int.reduceAdd, Int.reduceSub, Int.reduceToNat, Int.reduceEq, Int.reduceMul, Int.reducePow, Int.cast_ofNat_Int, Int.toNat_natCast, ne_eq, Bool.false_eq_true, true_or, or_true, or_self, Nat.not_lt_zero, ite_e0, ite_e1, lc_lt, lc_ge, lc_gt, lc_le, lc_eq, Classical.not_not]
  with_reducible repeat' (first | (refine And.intro ?_ ?_) | intro _)
  all_goals try omega
  all_goals first | omega | skip
  refine CC_of (okY_of (by decide) (by decide)) (by decide) ?_
  refine q _ _ (by omega) (fun σ'' h => ?_)
  simp -implicitDefEqProofs only [↓b170_0, ↓b170_9, ↓b170_13, ↓b170_20, ↓b170_24, ↓b170_28, ↓b170_31, ↓b170_35, ↓b170_36, ↓b170_40, ↓b170_46, ↓b170_50, ↓b170_57, ↓b170_65, ↓b170_73, ↓b170_77, ↓b170_82, ↓b170_87, ↓b170_93, ↓b170_98, ↓b170_103, ↓b170_105, ↓b170_108, ↓b170_117, ↓b170_121, ↓b170_122, ↓b170_131, ↓b170_137, ↓b170_141, ↓b170_146, ↓b170_150, ↓b170_155, ↓b170_164, ↓b170_197, ↓b170_199, ↓b170_202, b170_0, b170_9, b170_13, b170_20, b170_24, b170_28, b170_31, b170_35, b170_36, b170_40, b170_46, b170_50, b170_57, b170_65, b170_73, b170_77, b170_82, b170_87, b170_93, b170_98, b170_103, b170_105, b170_108, b170_117, b170_121, b170_122, b170_131, b170_137, b170_141, b170_146, b170_150, b170_155, b170_164, b170_197, b170_199, b170_202, nLE3, layE8, hk, n3_169, n3_168, n3_155, n3_157, n3_167, k3_166, r166, k3_154, r154, n3_153, I32, ↓xb, xb, ps, lpad, lat, aok2, rd2, aaok, aav, alok, alen, aok, akk, csum, isLg, cmpI, clsE, Option.elim, eq_self, List.mem_cons, List.not_mem_nil, or_false, false_or, List.append_nil, List.nil_append, List.cons_append, List.append_eq, List.replicate, List.length_cons, List.length_nil, List.map_cons, List.map_nil, ↓reduceIte, reduceCtorEq, if_true, if_false, true_and, and_true, false_and, and_false, and_self, not_true_eq_false, not_false_eq_true, forall_const, true_implies, false_implies, implies_true, Nat.reduceAdd, Nat.reduceSub, Nat.reduceLT, Nat.reduceLeDiff, Nat.reduceEqDiff, Nat.reduceMul, Nat.reducePow, Nat.add_one_ne_zero, Nat.add_one_sub_one, Nat.add_zero, Nat.zero_add, Int.reduceLT, Int.reduceLE, Int.reduceNeg, Int.reduceAdd, Int.reduceSub, Int.reduceToNat, Int.reduceEq, Int.reduceMul, Int.reducePow, Int.cast_ofNat_Int, Int.toNat_natCast, ne_eq, Bool.false_eq_true, true_or, or_true, or_self, Nat.not_lt_zero, ite_e0, ite_e1, lc_lt, lc_ge, lc_gt, lc_le, lc_eq, Classical.not_not]
  with_reducible repeat' (first | (refine And.intro ?_ ?_) | intro _)
  all_goals try omega
  all_goals first | omega | exact h _ _
/-! what waits before the rest: and -/
theorem kx_aand (hk : 12 ≤ k) (hs7 : s ≤ 7) {p c d : Nat} {a b : Bool} {LL : List (Nat × Int)} {S : List Int} (hF : FR S) (X : XTt σ t N s p c LL d (andS a ++ (orS b ++ S))) (hd : d ≤ 10) (hS : (andS a ++ (orS b ++ S)).length ≤ 400) (hl : LL.length < 300)
    (q : ∀ σ', XTt σ' t N s p c (LL ++ andL a) d (orS b ++ S) → same SXT σ σ' → Q none σ') : TT G w w w k (0, 0) 168 0 [some (vr 21 0 0), some (vi 10)] [] σ Q := by
  have tb : ∀ y S', orS b ++ S = y :: S' → y ≠ ((10 : Nat) : Int) := fun y S' e => by
    cases b with
    | false => exact (hF y S' e).2.1
    | true =>
      have e' : (11 : Int) :: S = y :: S' := e
      injection e' with e1 _
      omega
  cases a with
  | false =>
    have q' := q σ (by rw [show LL ++ andL false = LL from List.append_nil LL]; exact X) same.refl
    exact kx_ans0 (S := orS b ++ S) (x := 10) (by omega) X (Nat.le_trans hS (by omega)) tb q'
  | true =>
    have l1 : (andS true ++ (orS b ++ S)).length = (orS b ++ S).length + 1 := rfl
    exact kx_ans1 (S := orS b ++ S) (x := 10) (d' := d) (by omega) hs7 (by omega) ⟨fun z => absurd z (by omega), fun _ => rfl⟩ (by omega) X (by omega) hl (fun σ1 X1 s1 => kx_ans0 (x := 10) (by omega) X1 (by omega) tb (q σ1 X1 s1))
theorem kx_aor (hk : 12 ≤ k) (hs7 : s ≤ 7) {p c d : Nat} {b : Bool} {LL : List (Nat × Int)} {S : List Int} (hF : FR S) (X : XTt σ t N s p c LL d (orS b ++ S)) (hd : d ≤ 10) (hS : (orS b ++ S).length ≤ 400) (hl : LL.length < 300)
    (q : ∀ σ', XTt σ' t N s p c (LL ++ orL b) d S → same SXT σ σ' → Q none σ') : TT G w w w k (0, 0) 168 0 [some (vr 21 0 0), some (vi 11)] [] σ Q := by
  have tb : ∀ y S', S = y :: S' → y ≠ ((11 : Nat) : Int) := fun y S' e => (hF y S' e).2.2
  cases b with
  | false =>
    have q' := q σ (by rw [show LL ++ orL false = LL from List.append_nil LL]; exact X) same.refl
    exact kx_ans0 (S := S) (x := 11) (by omega) X (Nat.le_trans hS (by omega)) tb q'
  | true =>
    have l1 : (orS true ++ S).length = S.length + 1 := rfl
    exact kx_ans1 (S := S) (x := 11) (d' := d) (by omega) hs7 (by omega) ⟨fun z => absurd z (by omega), fun _ => rfl⟩ (by omega) X (by omega) hl (fun σ1 X1 s1 => kx_ans0 (x := 11) (by omega) X1 (by omega) tb (q σ1 X1 s1))
theorem PG_of (ht : TR t) (hk : 80 ≤ k) (m : Nat) (hF : PF G w k Q t N s m) (hM : PM G w k Q t N s m) : PG G w k Q t N s (m + 1) := by
  intro d b p pp c LL S σ l3 l4 fr X hpp hp eb hc hr hd hS hn qf qk
  rw [pzG_1] at qf qk
  have N4 := X.1.1.2.1
  have n1 : nd N 1 p = 2 * (N - p) + 2 := rfl
  refine hF d false p pp c LL S σ l3 l4 X hpp hp eb hc hr hd hS (by show 2 * (N - p) + 1 ≤ m; omega) (fun f ef σ1 F1 s1 => qf f (bnt_inl ef) σ1 F1 s1) (fun p1 c1 L1 M1 e pe σ1 hpe ebe X1 s1 k2 QQ hk2 hQ => ?_)
  have ad := pzG_adv m 0 d false p c [] [] hp hc e
  have rm := (pzG_room ht m 0 d false p c [] [] hp hc e).1 (by omega)
  refine kx_ans0 (x := 9) (by omega) X1 (by omega) (fun y S' e' => (fr y S' e').1) (hQ σ1 (fun l3 l4 => ?_))
  have p1p := ad.2.2.2 (by omega)
  rw [bnt_inr e] at qf qk
  refine hM d false false p1 pe c1 LL L1 M1 S σ1 l3 l4 fr X1 hpe ad.2.1 ebe ad.2.2.1 ?_ hd (by show S.length ≤ p1; omega) (by show 2 * (N - p1) + 2 ≤ m; omega) (fun f ef σ2 F2 s2 => qf f (by rw [show M1 ++ andL false = M1 from List.append_nil M1] at ef; exact ef) σ2 F2 (s1.trans s2)) (fun p2 c2 L2 M2 e2 σ2 l3 l4 X2 s2 => qk p2 c2 L2 M2 (by rw [show M1 ++ andL false = M1 from List.append_nil M1] at e2; exact e2) σ2 l3 l4 X2 (s1.trans s2))
  rw [List.length_append]
  show 3 * (LL.length + M1.length) + 3 * 0 + 3 * 0 ≤ p1 + 4 * c1
  omega
end TSY

/-! 9zg.rule91n: rule() with a rule that comes to be -/
theorem mk91 : mkW 7 23 124 3 33 231 240 100 242 = true := by decide +kernel
theorem nst91 : (RN 7, 124, yn 33) ∈ nstL := by decide +kernel
theorem d91 : (decode (bc 91) 25 = .ok (.new 23, 3) ∧ decode (bc 91) 28 = .ok (.dup, 1) ∧ decode (bc 91) 29 = .ok (.invokespecial 124, 3)) ∧ decode (bc 91) 32 = .ok (.astore_n 1, 1) ∧ decode (bc 91) 33 = .ok (.aload_n 0, 1) ∧ decode (bc 91) 34 = .ok (.getfield 25, 3) ∧ decode (bc 91) 37 = .ok (.aload_n 0, 1) ∧ decode (bc 91) 38 = .ok (.getfield 121, 3) ∧ decode (bc 91) 41 = .ok (.aload_n 1, 1) ∧ decode (bc 91) 42 = .ok (.aastore, 1) := by decide +kernel
theorem f91 : hasF 7 25 7 3 = true ∧ hasF 7 121 7 4 = true := by decide +kernel
theorem bo0_ne {o x : Nat} (h : x ≠ o) (σ : Mem) (f r c : Nat) : bo0 o σ x f r c = σ x f r c := if_neg h
theorem nb91 {w : Wd} {n : Nat} (hn : n < 8) (hw : w (13 + n) = false) : ¬ born w (13 + n) := by
  rintro ⟨h | h | h | h, h2⟩
  · omega
  · omega
  · omega
  · rw [hw] at h; cases h
section R91N
variable {G : Gl} {w : Wd} {k : Nat} {σ : Mem} {Q : Option AV → Mem → Prop} {t : Nat → Int} {N n : Nat}
set_option maxRecDepth 100000 in
set_option maxHeartbeats 1000000 in
set_option maxRecDepth 100000 in
set_option maxHeartbeats 1000000 in
theorem kc_91n (ht : TR t) (hn : n < 8) (hw : w (13 + n) = false) (hr : σ 0 4 0 n = 0) (hk : 126 ≤ k) (hN : N ≤ 400) (hf : ∀ f, pzR t N 13 0 0 [] = .inl f → 1 ≤ f ∧ f ≤ 4000) (hb : ∀ i, i < N → σ 0 6 0 i = t i) (h5 : σ 0 5 0 0 = n) (h7 : σ 0 7 0 0 = N) (hnr : nrM (13 + n) σ)
    (q : A91 (13 + n) n t N (up (bo0 (13 + n) σ) 0 4 0 n (enc (13 + n) 0 0)) Q) : CC G w (wdN w (13 + n)) (k + 2) (7, 489) 91 [vr 0 0 0] σ Q := by
  refine CC_of (okY_of (by decide) (by decide)) (Nat.le_of_ble_eq_true rfl) (TT_vb ok91 (sm3_ok G w) 60 [25] ?_)
  have d0 : dec 0 = vn := rfl
  simp -implicitDefEqProofs only [↓b91_0, ↓b91_9, ↓b91_11, ↓b91_20, ↓b91_43, ↓b91_59, ↓b91_69, ↓b91_74, b91_0, b91_9, b91_11, b91_20, b91_43, b91_59, b91_69, b91_74, nLE1, layE7, layE4, layE3, layE2, h5, hr, d0, Int.toNat_natCast, n3_33, n3_19, I32, ↓xb, xb, ps, lpad, lat, aok2, rd2, aaok, aav, alok, alen, aok, akk, csum, isLg, cmpI, clsE, Option.elim, eq_self, List.mem_cons, List.not_mem_nil, or_false, false_or, List.append_nil, List.nil_append, List.cons_append, List.append_eq, List.replicate, List.length_cons, List.length_nil, List.map_cons, List.map_nil, ↓reduceIte, reduceCtorEq, if_true, if_false, true_and, and_true, false_and, and_false, and_self, not_true_eq_false, not_false_eq_true, forall_const, true_implies, false_implies, implies_true, Nat.reduceAdd, Nat.reduceSub, Nat.reduceLT, Nat.reduceLeDiff, Nat.reduceEqDiff, Nat.reduceMul, Nat.reducePow, Nat.add_one_ne_zero, Nat.add_one_sub_one, Nat.add_zero, Nat.zero_add, Int.reduceLT, Int.reduceLE, Int.reduceNeg, Int.reduceAdd, Int.reduceSub, Int.reduceToNat, Int.reduceEq, Int.reduceMul, Int.reducePow, Int.cast_ofNat_Int, Int.toNat_natCast, ne_eq, Bool.false_eq_true, true_or, or_true, or_self, Nat.not_lt_zero, ite_e0, ite_e1, lc_lt, lc_ge, lc_gt, lc_le, lc_eq, Classical.not_not]
  with_reducible repeat' (first | (refine And.intro ?_ ?_) | intro _)
  all_goals try omega
  all_goals first | omega | exact True.intro | skip
  obtain ⟨dn, e32, e33, e34, e37, e38, e41, e42⟩ := d91
  have hbo : ∀ x, born w x → born (wdN w (13 + n)) x := fun x h => (born_wN (by omega) x).mpr (Or.inl h)
  have b0 : born (wdN w (13 + n)) 0 := ⟨Or.inl (by omega), by omega⟩
  have g5 : bo0 (13 + n) σ 0 5 0 0 = n := (bo0_ne (by omega) σ 5 0 0).trans h5
  refine S_birth (mi := 91) (st := []) (rc := (7, 489)) (rc2 := (0, 0)) (k := k + 1) (c := 3) (y := 33) (mc := 6) (ms := 480) (o := 13 + n) mk91 (ci_33 (k := k)) nst91 (ro_cls (by omega)) (Or.inr (by omega)) (nb91 hn hw) dn (by decide) ⟨rfl, rfl⟩ (fun _ z => z) hnr ?_
  refine S_astore_n (i := 1) e32 (by show 1 < 3; omega) ?_
  refine S_aload_n (i := 0) (q := some (0, 0, 0)) e33 rfl ?_
  refine S_getfield (o := 0) (c0 := 7) (k0 := 3) e34 (okF_of f91.1) rfl (by omega) (fun _ _ => show vld (wdN w (13 + n)) 0 4 0 from Or.inr ⟨b0, Or.inr ⟨Nat.succ_pos 3, ⟨by decide, by decide, fun _ => rfl, fun h => absurd h (by decide)⟩⟩⟩) ?_
  refine S_aload_n (i := 0) (q := some (0, 0, 0)) e37 rfl ?_
  refine S_getfield (o := 0) (c0 := 7) (k0 := 4) e38 (okF_of f91.2) rfl (by omega) (fun _ h => (h 0 5 0 0).2 (by unfold isL; decide)) ?_
  refine S_aload_n (i := 1) (q := some (13 + n, 0, 0)) e41 rfl ?_
  show TT G w _ _ (k + 1 + 1) (0, 0) 91 42 _ (vr (13 + n) 0 0 :: vi (bo0 (13 + n) σ 0 5 0 0) :: vr 0 4 0 :: []) _ Q
  rw [g5]
  refine S_aastoreq (o := 0) (f := 4) (q := 13 + n) (i := (n : Int)) e42 (by omega) (by omega) (by decide) (Or.inr ⟨by decide, ro_cls (by omega)⟩) (by omega) (by omega) (by show (n : Int) < ((8 : Nat) : Int); omega) ?_
  rw [Int.toNat_natCast]
  refine kc_91b hbo ht hn (by unfold wdN; simp) (by omega) hN hf (fun i hi => ?_) ?_ ?_ q
  · rw [up_ne (by omega), bo0_ne (by omega)]; exact hb i hi
  · rw [up_ne (by omega)]; exact g5
  · rw [up_ne (by omega), bo0_ne (by omega)]; exact h7
end R91N

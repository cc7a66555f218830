/-! 9zi.imagen: image() with an image that comes to be -/
theorem mk125 : mkW 7 7 9 4 42 121 122 98 124 = true := w75_0.1
theorem nst125 : (RN 7, 9, yn 42) ∈ nstL := w75_0.2.2.2
theorem d125 : (decode (bc 125) 22 = .ok (.new 7, 3) ∧ decode (bc 125) 25 = .ok (.dup, 1) ∧ decode (bc 125) 26 = .ok (.invokespecial 9, 3)) ∧ decode (bc 125) 29 = .ok (.astore_n 2, 1) ∧ decode (bc 125) 30 = .ok (.aload_n 0, 1) ∧ decode (bc 125) 31 = .ok (.getfield 19, 3) ∧ decode (bc 125) 34 = .ok (.iload_n 1, 1) ∧ decode (bc 125) 35 = .ok (.aload_n 2, 1) ∧ decode (bc 125) 36 = .ok (.aastore, 1) := by decide +kernel
theorem f125 : hasF 7 19 7 2 = true := by decide +kernel
theorem nb125 {w : Wd} {n : Nat} (hn : n ≤ 3) (hw : w (3 + n) = false) : ¬ born w (3 + n) := by
  rintro ⟨h | h | h | h, h2⟩
  · omega
  · omega
  · omega
  · rw [hw] at h; cases h
section I125N
variable {G : Gl} {w : Wd} {k : Nat} {σ : Mem} {Q : Option AV → Mem → Prop} {P : Pt} {n : Nat}
set_option maxRecDepth 100000 in
set_option maxHeartbeats 1000000 in
set_option maxRecDepth 100000 in
set_option maxHeartbeats 1000000 in
theorem kc_125n (hn : n ≤ 3) (hw : w (3 + n) = false) (hr : σ 0 3 0 n = 0) (hk : 14 ≤ k) (T : TF σ P) (W : WF P) (hnr : nrM (3 + n) σ) (q : A125 n P (up (bo0 (3 + n) σ) 0 3 0 n (enc (3 + n) 0 0)) Q) : CC G w (wdN w (3 + n)) (k + 2) (162, 1344) 125 [vr 0 0 0, vi (n : Nat)] σ Q := by
  refine CC_of (okY_of (by decide) (by decide)) (Nat.le_of_ble_eq_true rfl) (TT_vb ok125 (sm3_ok G w) 60 [22] ?_)
  have d0 : dec 0 = vn := rfl
  simp -implicitDefEqProofs only [↓b125_0, ↓b125_6, ↓b125_9, ↓b125_11, ↓b125_17, ↓b125_37, ↓b125_45, b125_0, b125_6, b125_9, b125_11, b125_17, b125_37, b125_45, nLE2, layE7, layE4, layE3, layE2, hr, d0, Int.toNat_natCast, k3_76, r76, n3_42, n3_43, I32, ↓xb, xb, ps, lpad, lat, aok2, rd2, aaok, aav, alok, alen, aok, akk, csum, isLg, cmpI, clsE, Option.elim, eq_self, List.mem_cons, List.not_mem_nil, or_false, false_or, List.append_nil, List.nil_append, List.cons_append, List.append_eq, List.replicate, List.length_cons, List.length_nil, List.map_cons, List.map_nil, ↓reduceIte, reduceCtorEq, if_true, if_false, true_and, and_true, false_and, and_false, and_self, not_true_eq_false, not_false_eq_true, forall_const, true_implies, false_implies, implies_true, Nat.reduceAdd, Nat.reduceSub, Nat.reduceLT, Nat.reduceLeDiff, Nat.reduceEqDiff, Nat.reduceMul, Nat.reducePow, Nat.add_one_ne_zero, Nat.add_one_sub_one, Nat.add_zero, Nat.zero_add, Int.reduceLT, Int.reduceLE, Int.reduceNeg, Int.reduceAdd, Int.reduceSub, Int.reduceToNat, Int.reduceEq, Int.reduceMul, Int.reducePow, Int.cast_ofNat_Int, Int.toNat_natCast, ne_eq, Bool.false_eq_true, true_or, or_true, or_self, Nat.not_lt_zero, ite_e0, ite_e1, lc_lt, lc_ge, lc_gt, lc_le, lc_eq, Classical.not_not]
  with_reducible repeat' (first | (refine And.intro ?_ ?_) | intro _)
  all_goals try omega
  all_goals first | omega | exact True.intro | skip
  obtain ⟨dn, e29, e30, e31, e34, e35, e36⟩ := d125
  have hbo : ∀ x, born w x → born (wdN w (3 + n)) x := fun x h => (born_wN (by omega) x).mpr (Or.inl h)
  have b0 : born (wdN w (3 + n)) 0 := ⟨Or.inl (by omega), by omega⟩
  refine S_birth (mi := 125) (st := []) (rc := (162, 1344)) (rc2 := (0, 0)) (k := k + 1) (c := 4) (y := 42) (mc := 161) (ms := 1324) (o := 3 + n) mk125 (ci_42 (k := k)) nst125 (img_cls hn) (Or.inl (by omega)) (nb125 hn hw) dn (by decide) ⟨rfl, rfl⟩ (fun _ z => z) hnr ?_
  refine S_astore_n (i := 2) e29 (by show 2 < 3; omega) ?_
  refine S_aload_n (i := 0) (q := some (0, 0, 0)) e30 rfl ?_
  refine S_getfield (o := 0) (c0 := 7) (k0 := 2) e31 (okF_of f125) rfl (by omega) (fun _ _ => show vld (wdN w (3 + n)) 0 3 0 from Or.inr ⟨b0, Or.inr ⟨Nat.succ_pos 2, ⟨by decide, by decide, fun _ => rfl, fun h => absurd h (by decide)⟩⟩⟩) ?_
  refine S_iload_n (i := 1) (x := (n : Int)) e34 rfl ?_
  refine S_aload_n (i := 2) (q := some (3 + n, 0, 0)) e35 rfl ?_
  refine S_aastoreq (o := 0) (f := 3) (q := 3 + n) (i := (n : Int)) e36 (by omega) (by omega) (by decide) (Or.inl ⟨by decide, img_cls hn⟩) (by omega) (by omega) (by show (n : Int) < ((4 : Nat) : Int); omega) ?_
  rw [Int.toNat_natCast]
  refine kc_125b hbo hn (by unfold wdN; simp) (by omega) (T.keep1 (fun f r c => ?_)) W q
  rw [up_ne (by omega), bo0_ne (by omega)]
end I125N

/-! 9zy.gave: the rule's runs give nothing to houses that there are not; what a run leaves of a town -/
def GE (H : Int) (P P' : Pt) : Prop := ∀ a b : Nat, a < 12 → b < 12 → (H ≤ (a : Int) ∨ H ≤ (b : Int)) → P' 38 (12 * a + b) = P 38 (12 * a + b)
theorem GE.trans {H : Int} {P P' P'' : Pt} (h : GE H P P') (h' : GE H P' P'') : GE H P P'' := fun a b ha hb hz => (h' a b ha hb hz).trans (h a b ha hb hz)
theorem GE.upf {H : Int} {P P' : Pt} (h : GE H P P') {f i : Nat} {v : Int} (hf : f ≠ 38) : GE H P (pu P' f i v) := fun a b ha hb hz => (if_neg (fun z => hf z.1.symm)).trans (h a b ha hb hz)
theorem GE.upg {H : Int} {P P' : Pt} (h : GE H P P') (hH : H ≤ 12) {x y v : Int} (hx : 0 ≤ x ∧ x < H) (hy : 0 ≤ y ∧ y < H) : GE H P (pu P' 38 (12 * x + y).toNat v) := fun a b ha hb hz => (if_neg (fun z => by
  have := z.2
  omega)).trans (h a b ha hb hz)
theorem ge_sg {U : RU} {kd : Int} {P P1 : Pt} {nr : Nat → Int} {n : Nat} (hn : (n : Int) < P1 2 1) (hU : 0 ≤ U.2) (hnr : ∀ j : Nat, (j : Int) < P1 2 0 - 1 → 0 ≤ nr j ∧ nr j < P1 2 0 ∧ nr j ≠ P1 9 n) {s0 : Pt × Int} (g0 : GI P1 n s0) (h0 : GE (P1 2 0) P s0.1) (m : Nat) (hm : (m : Int) ≤ P1 2 0 - 1) : GE (P1 2 0) P (iter (sgP U kd nr n) m s0).1 := by
  refine (iter_inv (st := sgP U kd nr n) (I := fun _ s => GI P1 n s ∧ GE (P1 2 0) P s.1) ⟨g0, h0⟩ (fun j s hj hs => ⟨sg_step hU hn (hnr j (by omega)) hs.1, ?_⟩)).2
  obtain ⟨⟨⟨W, kf⟩, N, cells, l0, l9⟩, ho⟩ := hs
  have f0 := kf 2 0 (by decide) (by decide) (by decide) (by decide)
  have f1 := kf 2 1 (by decide) (by decide) (by decide) (by decide)
  obtain ⟨o1, o2, o3⟩ := hnr j (by omega)
  obtain ⟨d1, d2, d3⟩ := W.nd (n := n) (by omega)
  have w1 := W.sc.1
  unfold sgP
  split
  · show GE (P1 2 0) P (gstP kd s.1 n (nr j) _)
    unfold gstP gvP
    split
    · exact (ho.upf (by decide)).upg (by omega) ⟨o1, o2⟩ (by omega)
    · split
      · exact ((ho.upf (by decide)).upg (by omega) ⟨o1, o2⟩ (by omega)).upf (by decide)
      · exact (ho.upf (by decide)).upg (by omega) ⟨o1, o2⟩ (by omega)
  · exact ho
theorem ge_sv {U : RU} {kd : Int} {P P' : Pt} (W : WF P') (N : N38 P') (hU : 0 ≤ U.2) {n : Nat} (hn : (n : Int) < P' 2 1) {nr : Nat → Int} (hnr : ∀ j : Nat, (j : Int) < P' 2 0 - 1 → 0 ≤ nr j ∧ nr j < P' 2 0 ∧ nr j ≠ P' 9 n) (h : GE (P' 2 0) P P') : GE (P' 2 0) P (svP U kd nr n P') := by
  have w1 := W.sc.1
  obtain ⟨d1, d2, d3, d4, d5, d6, d7⟩ := W.nd hn
  have sb := W.st (n := (6 * P' 9 n + P' 10 n).toNat) (by omega)
  have so : svO P' n = min (P' 11 n) (P' 8 (6 * P' 9 n + P' 10 n).toNat) := rfl
  have k1 : KQ P' (pu P' 8 (6 * P' 9 n + P' 10 n).toNat (P' 8 (6 * P' 9 n + P' 10 n).toNat - svO P' n)) := (KQ.refl W).put8 (by omega)
  have g0 : GI (pu P' 8 (6 * P' 9 n + P' 10 n).toNat (P' 8 (6 * P' 9 n + P' 10 n).toNat - svO P' n)) n (pu P' 8 (6 * P' 9 n + P' 10 n).toNat (P' 8 (6 * P' 9 n + P' 10 n).toNat - svO P' n), P' 11 n - svO P' n) := ⟨KQ.refl k1.1, N.keep (by decide), fun _ _ _ => rfl, by show 0 ≤ P' 11 n - svO P' n; omega, by show P' 11 n - svO P' n ≤ 999; omega⟩
  have h1 : GE (P' 2 0) P (pu P' 8 (6 * P' 9 n + P' 10 n).toNat (P' 8 (6 * P' 9 n + P' 10 n).toNat - svO P' n)) := h.upf (by decide)
  have h2 : GE (P' 2 0) P (svG U kd nr n P').1 := by
    unfold svG
    split
    · exact ge_sg (P1 := pu P' 8 (6 * P' 9 n + P' 10 n).toNat (P' 8 (6 * P' 9 n + P' 10 n).toNat - svO P' n)) hn hU hnr g0 h1 _ (by show (((P' 2 0 - 1).toNat : Nat) : Int) ≤ P' 2 0 - 1; omega)
    · exact h1
  exact h2.upf (by decide)
theorem ge_qu {U : RU} {kd : Int} {P : Pt} (W : WF P) (N : N38 P) (hU : 0 ≤ U.2) : GE (P 2 0) P (quP U kd P) := by
  have k4 := q4_k (U := U) W
  have w1 := W.sc.1; have w2 := W.sc.2.1
  have v := lnP_inv (U := U) (P := q4P U P) (P 2 1).toNat
  have hnr : ∀ n : Nat, (n : Int) < P 2 1 → ∀ j : Nat, (j : Int) < P 2 0 - 1 → 0 ≤ nrP P (P 9 n) j ∧ nrP P (P 9 n) j < P 2 0 ∧ nrP P (P 9 n) j ≠ P 9 n := fun n hn j hj => nr_r W (W.nd hn).1 hj
  have z : GE (P 2 0) P (q5P U kd P).1 := by
    refine (iter_inv (st := svS U kd (lnP U (q4P U P) (P 2 1).toNat).1 (fun n => nrP P (P 9 n))) (I := fun _ s => KQ P s.1 ∧ N38 s.1 ∧ GE (P 2 0) P s.1) ⟨k4, N.same (q4_n W), fun a b _ _ _ => q4_n W _⟩ (fun j b hj hb => ?_)).2.2
    obtain ⟨b1, b2, b3⟩ := hb
    have hj' := v.2.2 j hj
    have hn : ((((lnP U (q4P U P) (P 2 1).toNat).1 j).toNat : Nat) : Int) < P 2 1 := by omega
    have z := sv_k (kd := kd) b1 b2 hU (n := ((lnP U (q4P U P) (P 2 1).toNat).1 j).toNat) hn (hnr _ hn)
    have f0 := b1.2 2 0 (by decide) (by decide) (by decide) (by decide)
    have f1 := b1.2 2 1 (by decide) (by decide) (by decide) (by decide)
    have f9 := b1.2 9 ((lnP U (q4P U P) (P 2 1).toNat).1 j).toNat (by decide) (by decide) (by decide) (by decide)
    refine ⟨z.1, z.2, ?_⟩
    have y := ge_sv (kd := kd) (P := P) b1.1 b2 hU (n := ((lnP U (q4P U P) (P 2 1).toNat).1 j).toNat) (nr := nrP P (P 9 ((lnP U (q4P U P) (P 2 1).toNat).1 j).toNat)) (by omega) (fun i hi => by rw [f0, f9]; exact hnr _ hn i (by omega)) (by rw [f0]; exact b3)
    rw [f0] at y
    exact y
  exact z.upf (by decide)
theorem ge_rn {U : RU} {kd : Int} {P : Pt} (W : WF P) (N : N38 P) (hU : 0 ≤ U.2) (n : Nat) : GE (P 2 0) P (rnP U kd n P).1 :=
  (iter_inv (st := fun _ s => (quP U kd s.1, w64 (s.2 + quH U kd s.1))) (I := fun _ s => KN P s.1 ∧ GE (P 2 0) P s.1) ⟨⟨W, N, fun _ _ _ _ _ _ _ => rfl⟩, fun _ _ _ _ _ => rfl⟩ (fun j b hj hb => ⟨hb.1.trans (qu_k hb.1.1 hb.1.2.1 hU).1, hb.2.trans (by
    have := ge_qu (kd := kd) hb.1.1 hb.1.2.1 hU
    rw [hb.1.2.2 2 0 (by decide) (by decide) (by decide) (by decide) (by decide)] at this
    exact this)⟩)).2
theorem ln_lmc (f : Nat) : ln f ≤ lmc f := by
  by_cases h : f ≤ 38
  · have : ∀ f : Fin 39, ln f.val ≤ lmc f.val := by decide
    exact this ⟨f, by omega⟩
  · have : ln f = 0 := by
      unfold ln
      repeat' split
      all_goals first | omega | rfl
    omega
theorem ZR.of {P P' : Pt} (Z : ZR P) (h : OR P P') : ZR P' := fun f i hi => (h f i (Nat.le_trans (ln_lmc f) hi)).trans (Z f i hi)
theorem QP.rn {U : RU} {kd : Int} {P : Pt} (W : WF P) (q : QP P) (hU : 0 ≤ U.2) {n : Nat} (hn : P 2 6 + (n : Nat) ≤ 9999) : WF (rnP U kd n P).1 ∧ QP (rnP U kd n P).1 := by
  have z := rn_k (kd := kd) W q.1 hU n
  have e0 : (rnP U kd n P).1 2 0 = P 2 0 := z.1.2.2 2 0 (by decide) (by decide) (by decide) (by decide) (by decide)
  refine ⟨z.1.1, z.1.2.1, fun a b ha hb hz => ?_, q.2.2.1.of (or_rn W q.1 hU n), by rw [z.2.2.1]; exact hn⟩
  rw [e0] at hz
  exact (ge_rn W q.1 hU n a b ha hb hz).trans (q.2.1 a b ha hb hz)

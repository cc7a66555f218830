/-! 37.harm: the harm of a quarter is what all harms grow by (pure); many quarters -/
theorem iter_congr {α : Type} {st st' : Nat → α → α} {a : α} : ∀ n : Nat, (∀ i b, i < n → st i b = st' i b) → iter st n a = iter st' n a
  | 0, _ => rfl
  | n + 1, h => by
    show st n (iter st n a) = st' n (iter st' n a)
    rw [iter_congr n (fun i b hi => h i b (by omega)), h n _ (by omega)]
theorem ah_ext {P P' : Pt} (h : ∀ i, P' 37 i = P 37 i) : ahP P' = ahP P := by
  unfold ahP
  refine iter_congr 12 (fun i b _ => ?_)
  unfold ahst; rw [h]
theorem ah_put {P : Pt} {h : Nat} {v : Int} : ∀ n : Nat, iter (ahst (pu P 37 h (w64 (P 37 h + v)))) n 0 = if h < n then w64 (iter (ahst P) n 0 + v) else iter (ahst P) n 0
  | 0 => by rw [if_neg (by omega)]; rfl
  | n + 1 => by
    have ih := ah_put (P := P) (h := h) (v := v) n
    show ahst (pu P 37 h (w64 (P 37 h + v))) n (iter (ahst (pu P 37 h (w64 (P 37 h + v)))) n 0) = if h < n + 1 then w64 (ahst P n (iter (ahst P) n 0) + v) else ahst P n (iter (ahst P) n 0)
    rw [ih]
    generalize iter (ahst P) n 0 = c
    unfold ahst
    by_cases e : n = h
    · subst e
      rw [if_neg (by omega), if_pos (by omega), pu_eq]
      unfold w64; omega
    · rw [pu_ni e]
      by_cases l : h < n
      · rw [if_pos l, if_pos (by omega)]; unfold w64; omega
      · rw [if_neg l, if_neg (by omega)]
theorem ah_w {P : Pt} : w64 (ahP P) = ahP P := w64_w64
theorem gst_37 {kd : Int} {P : Pt} {n : Nat} {o v : Int} {i : Nat} : gstP kd P n o v 37 i = P 37 i := by
  unfold gstP gvP
  (repeat' split) <;> rfl
theorem sg_37 {U : RU} {kd : Int} {nr : Nat → Int} {n : Nat} {s0 : Pt × Int} (m : Nat) : ∀ i, (iter (sgP U kd nr n) m s0).1 37 i = s0.1 37 i :=
  iter_inv (st := sgP U kd nr n) (I := fun _ (s : Pt × Int) => ∀ i, s.1 37 i = s0.1 37 i) (fun _ => rfl) (fun j b _ hb i => by
    unfold sgP
    split
    · exact gst_37.trans (hb i)
    · exact hb i)
theorem svG_37 {U : RU} {kd : Int} {nr : Nat → Int} {n : Nat} {P : Pt} : ∀ i, (svG U kd nr n P).1 37 i = P 37 i := fun i => by
  unfold svG
  split
  · exact (sg_37 _ i).trans rfl
  · rfl
theorem ah_sv {U : RU} {kd : Int} {nr : Nat → Int} {n : Nat} {P : Pt} (h : (P 9 n).toNat < 12) : ahP (svP U kd nr n P) = w64 (ahP P + svH U kd nr n P) := by
  have e := ah_put (P := (svG U kd nr n P).1) (h := (P 9 n).toNat) (v := w64 ((svG U kd nr n P).2 * P 12 n)) 12
  rw [if_pos h] at e
  have e2 : ahP (svG U kd nr n P).1 = ahP P := ah_ext svG_37
  unfold ahP at e2 ⊢
  rw [e2] at e
  exact e
theorem q4_37 {U : RU} {P : Pt} : ∀ i, q4P U P 37 i = P 37 i := fun j => by
  have c : ∀ P : Pt, (∀ i, iter cuP (P 2 0).toNat P 37 i = P 37 i) := fun P => iter_inv (I := fun _ (P' : Pt) => ∀ i, P' 37 i = P 37 i) (fun _ => rfl) (fun _ b _ hb i => (hb i))
  have m : ∀ (P : Pt) (n : Nat), (∀ i, iter mkP n P 37 i = P 37 i) := fun P n => iter_inv (I := fun _ (P' : Pt) => ∀ i, P' 37 i = P 37 i) (fun _ => rfl) (fun _ b _ hb i => by
    unfold mkP
    split
    · exact hb i
    · exact hb i)
  have s : ∀ (P : Pt) (n : Nat), (∀ i, iter (fun h P => spP U P h) n P 37 i = P 37 i) := fun P n => iter_inv (I := fun _ (P' : Pt) => ∀ i, P' 37 i = P 37 i) (fun _ => rfl) (fun _ b _ hb i => hb i)
  have a : ∀ (P : Pt) (n : Nat), (∀ i, iter caP n P 37 i = P 37 i) := fun P n => iter_inv (I := fun _ (P' : Pt) => ∀ i, P' 37 i = P 37 i) (fun _ => rfl) (fun _ b _ hb i => hb i)
  exact (a _ _ j).trans ((s _ _ j).trans ((m _ _ j).trans (c _ j)))
/-- what a quarter keeps -/
def KN (P P' : Pt) : Prop := WF P' ∧ N38 P' ∧ ∀ f i, f ≠ 8 → f ≠ 26 → f ≠ 37 → f ≠ 38 → ¬ (f = 2 ∧ i = 6) → P' f i = P f i
theorem WF.now {P : Pt} (h : WF P) {v : Int} (hv : 0 ≤ v) : WF (pu P 2 6 v) := ⟨⟨h.sc.1, h.sc.2.1, h.sc.2.2.1, h.sc.2.2.2.1, h.sc.2.2.2.2.1, h.sc.2.2.2.2.2.1, hv, h.sc.2.2.2.2.2.2.2⟩, h.2⟩
theorem q5_k {U : RU} {kd : Int} {P : Pt} (W : WF P) (N : N38 P) (hU : 0 ≤ U.2) : KQ P (q5P U kd P).1 ∧ N38 (q5P U kd P).1 ∧ ahP (q5P U kd P).1 = w64 (ahP P + (q5P U kd P).2) ∧ w64 (q5P U kd P).2 = (q5P U kd P).2 := by
  have k4 := q4_k (U := U) W
  have w1 := W.sc.1; have w2 := W.sc.2.1
  have v := lnP_inv (U := U) (P := q4P U P) (P 2 1).toNat
  have hnr : ∀ n : Nat, (n : Int) < P 2 1 → ∀ j : Nat, (j : Int) < P 2 0 - 1 → 0 ≤ nrP P (P 9 n) j ∧ nrP P (P 9 n) j < P 2 0 ∧ nrP P (P 9 n) j ≠ P 9 n := fun n hn j hj => nr_r W (W.nd hn).1 hj
  refine iter_inv (st := svS U kd (lnP U (q4P U P) (P 2 1).toNat).1 (fun n => nrP P (P 9 n))) (I := fun _ s => KQ P s.1 ∧ N38 s.1 ∧ ahP s.1 = w64 (ahP P + s.2) ∧ w64 s.2 = s.2) ⟨k4, N.same (q4_n W), ?_, show w64 0 = 0 by decide⟩ (fun j b hj hb => ?_)
  · show ahP (q4P U P) = w64 (ahP P + 0)
    rw [ah_ext q4_37, Int.add_zero, ah_w]
  · obtain ⟨b1, b2, b3, b4⟩ := hb
    have hj' := v.2.2 j hj
    have hn : ((((lnP U (q4P U P) (P 2 1).toNat).1 j).toNat : Nat) : Int) < P 2 1 := by omega
    have z := sv_k (kd := kd) b1 b2 hU (n := ((lnP U (q4P U P) (P 2 1).toNat).1 j).toNat) hn (hnr _ hn)
    have d1 := (W.nd hn).1
    have f9 := b1.2 9 ((lnP U (q4P U P) (P 2 1).toNat).1 j).toNat (by decide) (by decide) (by decide) (by decide)
    refine ⟨z.1, z.2, ?_, w64_w64⟩
    show ahP (svP U kd (nrP P (P 9 ((lnP U (q4P U P) (P 2 1).toNat).1 j).toNat)) ((lnP U (q4P U P) (P 2 1).toNat).1 j).toNat b.1) = w64 (ahP P + w64 (b.2 + svH U kd (nrP P (P 9 ((lnP U (q4P U P) (P 2 1).toNat).1 j).toNat)) ((lnP U (q4P U P) (P 2 1).toNat).1 j).toNat b.1))
    rw [ah_sv (by rw [f9]; omega), b3]
    generalize svH U kd (nrP P (P 9 ((lnP U (q4P U P) (P 2 1).toNat).1 j).toNat)) ((lnP U (q4P U P) (P 2 1).toNat).1 j).toNat b.1 = x
    unfold w64; omega
theorem qu_k {U : RU} {kd : Int} {P : Pt} (W : WF P) (N : N38 P) (hU : 0 ≤ U.2) : KN P (quP U kd P) ∧ ahP (quP U kd P) = w64 (ahP P + quH U kd P) ∧ quP U kd P 2 6 = P 2 6 + 1 := by
  have z := q5_k (kd := kd) W N hU
  have w6 := W.sc.2.2.2.2.2.2.1
  refine ⟨⟨z.1.1.now (by omega), z.2.1.keep (by decide), fun f i a b c d e => ?_⟩, ?_, pu_eq⟩
  · unfold quP pu
    rw [if_neg e]
    exact z.1.2 f i a b c d
  · have e : ahP (quP U kd P) = ahP (q5P U kd P).1 := ah_ext (fun i => pu_nf (by decide))
    rw [e]; exact z.2.2.1
theorem KN.trans {P P' P'' : Pt} (h : KN P P') (h' : KN P' P'') : KN P P'' := ⟨h'.1, h'.2.1, fun f i a b c d e => (h'.2.2 f i a b c d e).trans (h.2.2 f i a b c d e)⟩
/-- n quarters: the state then; the harm in them -/
noncomputable def rnP (U : RU) (kd : Int) (n : Nat) (P : Pt) : Pt × Int := iter (fun _ s => (quP U kd s.1, w64 (s.2 + quH U kd s.1))) n (P, 0)
theorem rn_k {U : RU} {kd : Int} {P : Pt} (W : WF P) (N : N38 P) (hU : 0 ≤ U.2) (n : Nat) : KN P (rnP U kd n P).1 ∧ ahP (rnP U kd n P).1 = w64 (ahP P + (rnP U kd n P).2) ∧ (rnP U kd n P).1 2 6 = P 2 6 + n ∧ w64 (rnP U kd n P).2 = (rnP U kd n P).2 := by
  refine iter_inv (st := fun _ s => (quP U kd s.1, w64 (s.2 + quH U kd s.1))) (I := fun n s => KN P s.1 ∧ ahP s.1 = w64 (ahP P + s.2) ∧ s.1 2 6 = P 2 6 + (n : Nat) ∧ w64 s.2 = s.2) ⟨⟨W, N, fun _ _ _ _ _ _ _ => rfl⟩, ?_, by simp, show w64 0 = 0 by decide⟩ (fun j b hj hb => ?_)
  · show ahP P = w64 (ahP P + 0)
    rw [Int.add_zero, ah_w]
  · obtain ⟨b1, b2, b3, b4⟩ := hb
    have z := qu_k (kd := kd) b1.1 b1.2.1 hU
    refine ⟨b1.trans z.1, ?_, ?_, w64_w64⟩
    · show ahP (quP U kd b.1) = w64 (ahP P + w64 (b.2 + quH U kd b.1))
      rw [z.2.1, b2]
      unfold w64; omega
    · show quP U kd b.1 2 6 = _
      rw [z.2.2, b3]; omega
theorem rn_d {U : RU} {kd : Int} {P : Pt} (W : WF P) (N : N38 P) (hU : 0 ≤ U.2) (n : Nat) : w64 (ahP (rnP U kd n P).1 - ahP P) = (rnP U kd n P).2 := by
  have z := rn_k (kd := kd) W N hU n
  rw [z.2.1]
  have := z.2.2.2
  unfold w64 at this ⊢; omega

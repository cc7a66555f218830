/-! 9ze.start: the heap at the start is what the memory at the start says -/
theorem adr_at {ob : Nat → Nat} {o f r : Nat} (hf : 0 < f) (hr : arow (lay (cls o) (f - 1)) r) : adr ob o f r = ob o + ((lay (cls o) (f - 1)).2.2.2 + r) := by
  have h78 := NR_le _ (cls_lt o)
  have := arow_NR (cls_lt o) hr
  unfold adr
  rw [if_neg (by omega)]
  omega
theorem k4n : ∀ c, c < 9 → c ≠ 7 → ∀ k, k < NF c → (lay c k).1 ≠ 4 := by decide +kernel
theorem ar2 : ∀ k, k < 10 → isAr 2 k = true → k = 9 ∧ cnt 2 k = 1 := by decide
section FST
variable {G : Gl} {ob : Nat → Nat} {A : Nat} {H1 H2 H3 : Heap}
/-- an object of a class that is simple -/
theorem DB.rep {o c : Nat} (hc : cls o = c) (h7 : c ≠ 7) (h2 : c ≠ 2) (hz : ∀ f r j, σ00 o f r j = Z0 c f r j) {H : Heap} {oba : Nat → Nat} (h : DB G c (oba o) H) :
    t_OB (oba o) (G.2.1.1 (cls o)) (NF (cls o)) (G.2.1.2.1 (cls o)) H (fval oba σ00 o) ∧ ∀ f r, 0 < f → arow (lay (cls o) (f - 1)) r → H[adr oba o f r]? = some (arrV (G.2.1.2.2 (acd (lay (cls o) (f - 1)) r)) (akk (lay (cls o) (f - 1)) r).2 (elv oba σ00 o f r)) := by
  subst hc
  refine ⟨h.1.to (fun k hk => (fval_new hk (k4n _ (cls_lt o) h7 k hk) (hz _ _ _)).symm), fun f r hf hr => ?_⟩
  rw [adr_at hf hr, ← elv_new hf hr (hz f r)]
  have hk := arow_NR (cls_lt o) hr
  unfold NR at hk
  rw [if_neg h2] at hk
  exact h.2 (f - 1) r hk hr
theorem VD_first (ob : Nat → Nat) (A k : Nat) (hk : k < 12) : VDs A k = fval (obF ob A) σ00 0 k := by
  have z : k = 0 ∨ k = 1 ∨ k = 2 ∨ k = 3 ∨ k = 4 ∨ k = 5 ∨ k = 6 ∨ k = 7 ∨ k = 8 ∨ k = 9 ∨ k = 10 ∨ k = 11 := by omega
  rcases z with rfl | rfl | rfl | rfl | rfl | rfl | rfl | rfl | rfl | rfl | rfl | rfl <;> rfl
theorem VR_first (ob : Nat → Nat) (A k : Nat) (hk : k < 9) : VR (A + 328) k = fval (obF ob A) σ00 7 k := by
  have z : k = 0 ∨ k = 1 ∨ k = 2 ∨ k = 3 ∨ k = 4 ∨ k = 5 ∨ k = 6 ∨ k = 7 ∨ k = 8 := by omega
  rcases z with rfl | rfl | rfl | rfl | rfl | rfl | rfl | rfl | rfl <;> rfl
theorem rep_first (hA : G.2.2.1 ≤ A) (q1 : IQd G A H1 H2) (q2 : IQm G (A + 362) H2 H3) : Rep G w00 (obF ob A) σ00 H3 := by
  obtain ⟨a1, a2, a3, a4, a5, a6, a7, a8, a9, a10⟩ := q1
  obtain ⟨b1, b2, b3, b4⟩ := q2
  have e0 : obF ob A 0 = A := rfl
  have e7 : obF ob A 7 = A + 328 := rfl
  have e21 : obF ob A 21 = A + 362 := rfl
  have c1 : DB G 4 (obF ob A 1) H3 := DB.kept (c := 4) (by decide) _ _ _ (fun q _ h => b2 q (by have : nB 4 = 162 := rfl; have : obF ob A 1 = A + 1 := rfl; omega)) a4
  have c2 : DB G 4 (obF ob A 2) H3 := DB.kept (c := 4) (by decide) _ _ _ (fun q _ h => b2 q (by have : nB 4 = 162 := rfl; have : obF ob A 2 = A + 163 := rfl; omega)) a5
  have c12 : DB G 3 (obF ob A 12) H3 := DB.kept (c := 3) (by decide) _ _ _ (fun q _ h => b2 q (by have : nB 3 = 7 := rfl; have : obF ob A 12 = A + 330 := rfl; omega)) a6.2.2
  have c8 : DB G 1 (obF ob A 8) H3 := DB.kept (c := 1) (by decide) _ _ _ (fun q _ h => b2 q (by have : nB 1 = 4 := rfl; have : obF ob A 8 = A + 337 := rfl; omega)) a7
  have c9 : DB G 6 (obF ob A 9) H3 := DB.kept (c := 6) (by decide) _ _ _ (fun q _ h => b2 q (by have : nB 6 = 4 := rfl; have : obF ob A 9 = A + 341 := rfl; omega)) a8
  have c10 : DB G 5 (obF ob A 10) H3 := DB.kept (c := 5) (by decide) _ _ _ (fun q _ h => b2 q (by have : nB 5 = 13 := rfl; have : obF ob A 10 = A + 345 := rfl; omega)) a9
  have c11 : DB G 0 (obF ob A 11) H3 := DB.kept (c := 0) (by decide) _ _ _ (fun q _ h => b2 q (by have : nB 0 = 4 := rfl; have : obF ob A 11 = A + 358 := rfl; omega)) a10
  have r1 := DB.rep (o := 1) (c := 4) rfl (by decide) (by decide) (fun f r j => ss0 (by decide) f r j) c1
  have r2 := DB.rep (o := 2) (c := 4) rfl (by decide) (by decide) (fun f r j => ss0 (by decide) f r j) c2
  have r12 := DB.rep (o := 12) (c := 3) rfl (by decide) (by decide) (fun f r j => ss0 (by decide) f r j) c12
  have r8 := DB.rep (o := 8) (c := 1) rfl (by decide) (by decide) (fun f r j => ss0 (by decide) f r j) c8
  have r9 := DB.rep (o := 9) (c := 6) rfl (by decide) (by decide) (fun f r j => ss0 (by decide) f r j) c9
  have r10 := DB.rep (o := 10) (c := 5) rfl (by decide) (by decide) (fun f r j => ss0 (by decide) f r j) c10
  have r11 := DB.rep (o := 11) (c := 0) rfl (by decide) (by decide) (fun f r j => ss0 (by decide) f r j) c11
  have r0 : t_OB (obF ob A 0) (G.2.1.1 (cls 0)) (NF (cls 0)) (G.2.1.2.1 (cls 0)) H3 (fval (obF ob A) σ00 0) := (a3.1.kept (b2 A (by omega))).to (fun k hk => VD_first ob A k hk)
  have r7 : t_OB (obF ob A 7) (G.2.1.1 (cls 7)) (NF (cls 7)) (G.2.1.2.1 (cls 7)) H3 (fval (obF ob A) σ00 7) := (a6.1.1.kept (b2 (A + 328) (by omega))).to (fun k hk => VR_first ob A k hk)
  have r21 : t_OB (obF ob A 21) (G.2.1.1 (cls 21)) (NF (cls 21)) (G.2.1.2.1 (cls 21)) H3 (fval (obF ob A) σ00 21) := b3.to (fun k hk => by
    show VI (cls 21) (obF ob A 21) k = _
    exact (fval_new (ob := obF ob A) (o := 21) hk (k4n (cls 21) (by decide) (by decide) k hk) (ss21 (by omega))).symm)
  refine ⟨fun o hb => ?_, fun o f r hb hf hr => ?_, fun o f r o' f' r' h1 h2 e => ?_, fun o f r h => ?_⟩
  · rcases born0 hb with rfl | rfl | rfl | rfl | rfl | rfl | rfl | rfl | rfl | rfl
    · exact r0
    · exact r1.1
    · exact r2.1
    · exact r7
    · exact r8.1
    · exact r9.1
    · exact r10.1
    · exact r11.1
    · exact r12.1
    · exact r21
  · rcases born0 hb with rfl | rfl | rfl | rfl | rfl | rfl | rfl | rfl | rfl | rfl
    · rw [adr_at hf hr, ← elv_new hf hr (fun j => ss0 (by decide) f r j)]
      have hk := arow_NR (cls_lt 0) hr
      have z := arow_lt hr
      obtain ⟨y1, y2⟩ := arow7 (f - 1) hk z.2
      rw [b2 _ (by
        have r0 : r = 0 := by
          have : cnt (cls 0) (f - 1) = 1 := y2
          omega
        subst r0
        rw [e0]
        rcases y1 with y | y | y <;> rw [y]
        · show A + (325 + 0) < A + 362; omega
        · show A + (326 + 0) < A + 362; omega
        · show A + (327 + 0) < A + 362; omega)]
      exact a3.2 (f - 1) r hk hr
    · exact r1.2 f r hf hr
    · exact r2.2 f r hf hr
    · have hk := arow_NR (cls_lt 7) hr
      have z := arow_lt hr
      obtain ⟨y1, y2⟩ := ar2 (f - 1) hk z.2
      have hf10 : f = 10 := by omega
      have r0 : r = 0 := by
        have : cnt (cls 7) (f - 1) = 1 := y2
        omega
      subst hf10; subst r0
      rw [adr_at hf hr, ← elv_new hf hr (fun j => ss7 (by decide) 0 j)]
      show H3[A + 328 + (1 + 0)]? = _
      rw [b2 _ (by omega)]
      exact a6.2.1
    · exact r8.2 f r hf hr
    · exact r9.2 f r hf hr
    · exact r10.2 f r hf hr
    · exact r11.2 f r hf hr
    · exact r12.2 f r hf hr
    · have hk : f - 1 < NF 8 := arow_NR (cls_lt 21) hr
      have z := b4 (f - 1) r hk hr
      rw [adr_at hf hr, e21]
      refine z.trans ?_
      unfold celM
      by_cases h1 : f - 1 = 1
      · rw [if_pos h1]
        have hf2 : f = 2 := by omega
        subst hf2
        have r0 : r = 0 := hr.2.2.1 (by decide)
        subst r0
        congr 1
      · rw [if_neg h1, ← elv_new hf hr (fun j => ss21 (by omega))]
        rfl
  · rw [adr_dis, adr_dis] at e
    have z1 := zon_ok (A := A) ob h1.1 (vl_pl h1)
    have z2 := zon_ok (A := A) ob h2.1 (vl_pl h2)
    rw [e] at z1
    have eo : o = o' := z1.symm.trans z2
    subst eo
    have := dis_inj (vl_pl h1) (vl_pl h2) (by omega)
    exact ⟨rfl, this.1, this.2⟩
  · rw [adr_dis]
    have : A ≤ obF ob A o := by
      unfold obF
      rw [if_pos h.1.2]
      omega
    omega
end FST

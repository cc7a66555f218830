/-! 9zzb.image: image, a command of both -/
theorem nref_dec {o a f r : Nat} {x : Int} (h : dec x = vr a f r) (ha : a ≠ o) : nref o x := by
  unfold dec at h
  by_cases z : x = 0
  · exact Or.inl z
  · rw [if_neg z] at h
    refine Or.inr ?_
    have e : (x.toNat - 1) % 64 = a := by
      have h' := h
      unfold vr at h'
      injection h' with h'
      injection h' with h'
      injection h' with h'
      injection h' with h' _
    omega
theorem nref_enc {o a : Nat} (ha : a ≠ o) (h64 : a < 64) : nref o (enc a 0 0) := Or.inr (by
  unfold enc
  omega)
section IPR
variable {G : Gl} {w w' : Wd} {k : Nat} {σ : Mem} {P : Pt} {n N : Nat} {Cs : Nat → List Cl} {b : Nat → Prop} {Pk : Nat → Pt}
theorem LB.wd (L : LB w σ n Cs) (h : ∀ i, i < 8 → w' (13 + i) = w (13 + i)) : LB w' σ n Cs := by
  obtain ⟨h1, h4, h5, h6⟩ := L
  refine ⟨h1, h4, fun i hi => ?_, fun i hi => ?_⟩
  · rw [h i hi]; exact h5 i hi
  · rw [h i (by omega)]; exact h6 i hi
theorem LE.wd (L : LE w σ) (h : ∀ o, w o = true → w' o = true) : LE w' σ :=
  ⟨L.1, L.2.elim Or.inl (fun ⟨i, a, c, d⟩ => Or.inr ⟨i, a, c, h _ d⟩)⟩
theorem LD.wd (L : LD w σ b Pk) (h : ∀ i, i < 4 → w' (3 + i) = w (3 + i)) : LD w' σ b Pk := by
  obtain ⟨h1, h2, h3, h4⟩ := L
  refine ⟨fun i hi => ?_, fun i hi hb => ?_, h3, h4⟩
  · rw [h i hi]; exact h1 i hi
  · rw [h i hi]; exact h2 i hi hb
theorem LW.nrI (L : LW w σ P n Cs N b Pk) {m : Nat} (hm : m < 4) (hb : ¬ b m) : nrM (3 + m) σ := by
  obtain ⟨e1, e2⟩ := L.2.2.2.2
  refine ⟨?_, ?_, fun j hj => ?_, fun j hj => ?_⟩
  · rcases e1 with e | e
    · exact nref_dec e (by omega)
    · exact nref_dec e (by omega)
  · rcases e2 with e | ⟨i, hi, e, _⟩
    · exact nref_dec e (by omega)
    · exact nref_dec e (by omega)
  · by_cases c : b j
    · rw [((L.2.2.2.1.1 j hj).2 c).1]
      exact nref_enc (fun z => by
        have : j = m := by omega
        subst this
        exact hb c) (by omega)
    · exact Or.inl ((L.2.2.2.1.1 j hj).1 c)
  · rcases L.2.1.2.2.1 j hj with e | e
    · exact Or.inl e.1
    · rw [e.1]; exact nref_enc (by omega) (by omega)
/-- an image laid on both sides -/
theorem LW.img (L : LW w σ P n Cs N b Pk) {m : Nat} (hm : m < 4) {σm σ1 σ2 : Mem} (em : ∀ o f, o ≠ 3 + m → ¬ (o = 0 ∧ f = 3) → ∀ r c, σm o f r c = σ o f r c) (e3 : ∀ j, σm 0 3 0 j = if j = m then enc (3 + m) 0 0 else σ 0 3 0 j) (hw : ∀ o, w o = true → w' o = true) (hn : ∀ o, o ≠ 3 + m → w' o = w o) (h1 : w' (3 + m) = true)
    (s1 : same (fun o _ => o == 3 + m) σm σ1) (I1 : RT True σ1 (3 + m) P ∧ WRs σ1 (3 + m) P ∧ NRs σ1 (3 + m) P) (M2 : MR σ2 P) (i2 : IM σ2 m P) (io : ∀ j : Nat, j ≠ m → ∀ Pj, IM σ1 j Pj → IM σ2 j Pj) (e76 : ∀ c, σ2 21 76 0 c = if c = m then 1 else σ1 21 76 0 c) (s2 : same Sim σ1 σ2) :
    LW w' σ2 P n Cs N (fun j => b j ∨ j = m) (fun j => if j = m then P else Pk j) := by
  have a1 : ∀ o f, o ≠ 3 + m → ¬ (o = 0 ∧ f = 3) → ∀ r c, σ1 o f r c = σ o f r c := fun o f h h' r c => (s1 o f (by show (o == 3 + m) = false; simp [h]) r c).trans (em o f h h' r c)
  have a2 : ∀ o f, o ≠ 3 + m → ¬ (o = 0 ∧ f = 3) → ¬ (o = 21 ∧ 75 ≤ f) → ∀ r c, σ2 o f r c = σ o f r c := fun o f h h' h'' r c => (s2 o f (by
    show (o == 21 && (f == 75 || f == 76 || f == 77 || f == 78)) = false
    simp
    omega) r c).trans (a1 o f h h' r c)
  have a3 : ∀ o, o ≠ 21 → ∀ f r c, σ2 o f r c = σ1 o f r c := fun o h f r c => s2 o f (by
    show (o == 21 && (f == 75 || f == 76 || f == 77 || f == 78)) = false
    simp [h]) r c
  have a4 : ∀ j, σ2 0 3 0 j = if j = m then enc (3 + m) 0 0 else σ 0 3 0 j := fun j => ((a3 0 (by decide) 3 0 j).trans (s1 0 3 (by show (0 == 3 + m) = false; simp; omega) 0 j)).trans (e3 j)
  refine ⟨⟨L.1.1.keep1 (fun f r c => a2 1 f (by omega) (by omega) (by omega) r c), M2, L.1.2.2.1, L.1.2.2.2.1, L.1.2.2.2.2.1, L.1.2.2.2.2.2.1, L.1.2.2.2.2.2.2.1, (a2 10 2 (by omega) (by omega) (by omega) 0 0).trans L.1.2.2.2.2.2.2.2⟩,
    (L.2.1.keepE (fun o f z r c => a2 o f (by unfold pB at z; simp at z; omega) (by unfold pB at z; simp at z; omega) (by unfold pB at z; simp at z; omega) r c)).wd (fun i _ => hn _ (by omega)),
    L.2.2.1.keepE (fun o f z r c => a2 o f (by unfold pC at z; simp at z; omega) (by unfold pC at z; simp at z; omega) (by unfold pC at z; simp at z; omega) r c), ⟨fun i hi => ?_, fun i hi hb => ?_, fun i hi => ?_, fun i hi hb => ?_⟩,
    (L.2.2.2.2.keepE (fun o f z r c => a2 o f (by unfold pE at z; simp at z; omega) (by unfold pE at z; simp at z; omega) (by unfold pE at z; simp at z; omega) r c)).wd hw⟩
  · rw [a4 i]
    by_cases c : i = m
    · subst c
      rw [if_pos rfl]
      exact ⟨fun z => absurd (Or.inr rfl) z, fun _ => ⟨rfl, h1⟩⟩
    · rw [if_neg c]
      refine ⟨fun z => (L.2.2.2.1.1 i hi).1 (fun y => z (Or.inl y)), fun z => ?_⟩
      have y := (L.2.2.2.1.1 i hi).2 (z.resolve_right c)
      exact ⟨y.1, hw _ y.2⟩
  · have c : i ≠ m := fun z => hb (Or.inr z)
    rw [hn _ (by omega)]
    exact L.2.2.2.1.2.1 i hi (fun y => hb (Or.inl y))
  · rw [e76 i]
    by_cases c : i = m
    · rw [if_pos c]
      exact ⟨fun _ => by decide, fun _ => Or.inr c⟩
    · rw [if_neg c, a1 21 76 (by omega) (by omega)]
      exact ⟨fun z => (L.2.2.2.1.2.2.1 i hi).mp (z.resolve_right c), fun z => Or.inl ((L.2.2.2.1.2.2.1 i hi).mpr z)⟩
  · by_cases c : i = m
    · subst c
      obtain ⟨R1, W1, N1⟩ := I1
      show LI σ2 i (if i = i then P else Pk i)
      rw [if_pos rfl]
      exact ⟨⟨fun f j hj hg => (a3 _ (by omega) _ _ _).trans (R1 f j hj hg), fun x y hx hy => (a3 _ (by omega) _ _ _).trans (W1 x y hx hy), fun f h0 h1 c hc => (a3 _ (by omega) _ _ _).trans (N1 f h0 h1 c hc)⟩, L.1.2.2.1, L.1.2.2.2.1, L.1.2.2.2.2.1, L.1.2.2.2.2.2.1, L.1.2.2.2.2.2.2.1, i2⟩
    · show LI σ2 i (if i = m then P else Pk i)
      rw [if_neg c]
      have hb' : b i := Or.resolve_right hb c
      obtain ⟨⟨R1, W1, N1⟩, g4, g5, g6, g7, g8, g9⟩ := L.2.2.2.1.2.2.2 i hi hb'
      have k1 : ∀ f r c', σ2 (3 + i) f r c' = σ (3 + i) f r c' := fun f r c' => a2 (3 + i) f (by omega) (by omega) (by omega) r c'
      exact ⟨⟨fun f j hj hg => (k1 _ _ _).trans (R1 f j hj hg), fun x y hx hy => (k1 _ _ _).trans (W1 x y hx hy), fun f h0 h1 c hc => (k1 _ _ _).trans (N1 f h0 h1 c hc)⟩, g4, g5, g6, g7, g8, io i c _ (g9.keep (fun c' _ _ => a1 21 75 (by omega) (by omega) 0 c'))⟩
/-- what image() of the class leaves -/
def MI (m : Nat) (P : Pt) (σm : Mem) : AV → Mem → Prop := fun a σ1 => a = vi (P 2 6) ∧ (RT True σ1 (3 + m) P ∧ WRs σ1 (3 + m) P ∧ NRs σ1 (3 + m) P) ∧ same (fun o _ => o == 3 + m) σm σ1
theorem img_x (L : LW w σ P n Cs N b Pk) (hk : 14 ≤ k) {m : Nat} (hm : m < 4) {σm : Mem} (em : ∀ o f, o ≠ 3 + m → ¬ (o = 0 ∧ f = 3) → ∀ r c, σm o f r c = σ o f r c) (e3 : ∀ j, σm 0 3 0 j = if j = m then enc (3 + m) 0 0 else σ 0 3 0 j) (hw : ∀ o, w o = true → w' o = true) (hn : ∀ o, o ≠ 3 + m → w' o = w o) (h1 : w' (3 + m) = true) (a : AV) (σ1 : Mem) (h : MI m P σm a σ1) (Q : Option AV → Mem → Prop) (q : ∀ σ2, LWx w' σ2 → Q (some a) σ2) : CC G w' w' k (0, 0) 246 [vr 21 0 0, vi (m : Nat)] σ1 Q := by
  obtain ⟨rfl, I1, s1⟩ := h
  have M1 : MR σ1 P := fun f i h2 h38 => ((s1 21 f (by show (21 == 3 + m) = false; simp; omega) 0 i).trans (em 21 f (by omega) (by omega) 0 i)).trans (L.1.2.1 f i h2 h38)
  refine kx_image M1 hk (fun c => absurd ⟨Int.natCast_nonneg m, by omega⟩ c) (fun _ σ2 M2 i2 io e76 s2 => q _ (L.img (w' := w') hm em e3 hw hn h1 s1 I1 M2 i2 io e76 s2).x)
theorem pair_image (L : LW w σ P n Cs N b Pk) (hk : 16 ≤ k) {i : Int} : Pair G w w k (0, 0) 125 [vr 0 0 0, vi i] 246 [vr 21 0 0, vi i] σ ∨ ∃ m, m < 4 ∧ w (3 + m) = false ∧ Pair G w (wdN w (3 + m)) k (162, 1344) 125 [vr 0 0 0, vi i] 246 [vr 21 0 0, vi i] σ := by
  have W := L.1.2.2.1
  by_cases ci : 0 ≤ i ∧ i ≤ 3
  · obtain ⟨m, rfl⟩ : ∃ m : Nat, i = (m : Nat) := ⟨i.toNat, by omega⟩
    have hm : m < 4 := by omega
    by_cases hb : b m
    · obtain ⟨l1, l2⟩ := (L.2.2.2.1.1 m hm).2 hb
      refine Or.inl ⟨MI m P σ, fun a σ1 hm => ⟨_, hm.1⟩, fun Q q => kc_125o (by omega) l2 l1 (by omega) L.1.1 W (fun σ' R1 W1 N1 s1 => q _ _ ⟨rfl, ⟨R1, W1, N1⟩, s1⟩), fun a σ1 h Q q => img_x L (by omega) hm (fun _ _ _ _ _ _ => rfl) (fun j => ?_) (fun _ z => z) (fun _ _ => rfl) l2 a σ1 h Q q⟩
      by_cases c : j = m
      · rw [if_pos c, c]; exact l1
      · rw [if_neg c]
    · have hw0 := L.2.2.2.1.2.1 m hm hb
      refine Or.inr ⟨m, hm, hw0, MI m P (up (bo0 (3 + m) σ) 0 3 0 m (enc (3 + m) 0 0)), fun a σ1 hm => ⟨_, hm.1⟩, fun Q q => ?_, fun a σ1 h Q q => img_x L (by omega) hm (fun o f h1 h2 r c => ?_) (fun j => ?_) (fun o z => by unfold wdN; rw [z]; rfl) (fun o z => by unfold wdN; simp [z]) (by unfold wdN; simp) a σ1 h Q q⟩
      · have r := kc_125n (G := G) (k := k - 2) (Q := Q) (P := P) (by omega : m ≤ 3) hw0 ((L.2.2.2.1.1 m hm).1 hb) (by omega) L.1.1 W (L.nrI hm hb) (fun σ' R1 W1 N1 s1 => q _ _ ⟨rfl, ⟨R1, W1, N1⟩, s1⟩)
        rw [show k - 2 + 2 = k by omega] at r
        exact r
      · rw [show up (bo0 (3 + m) σ) 0 3 0 m (enc (3 + m) 0 0) o f r c = bo0 (3 + m) σ o f r c from if_neg (fun z => h2 ⟨z.1, z.2.1⟩)]
        exact bo0_ne h1 σ f r c
      · by_cases c : j = m
        · subst c; rw [upp_eq, if_pos rfl]
        · rw [upp_nc c, if_neg c]
          exact bo0_ne (by omega) σ 3 0 j
  · refine Or.inl ⟨fun a σ1 => a = vi (-1) ∧ σ1 = σ, fun a σ1 hm => ⟨_, hm.1⟩, fun Q q => kc_125f (by omega) ci (q _ _ ⟨rfl, rfl⟩), fun a σ1 h Q q => ?_⟩
    obtain ⟨rfl, rfl⟩ := h
    exact kx_image L.1.2.1 (by omega) (fun _ => q _ L.x) (fun z => absurd z ci)
end IPR

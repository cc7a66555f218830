/-! 9zzc.rule: rule, a command of both -/
section RPR
variable {G : Gl} {w w' : Wd} {k : Nat} {σ : Mem} {P : Pt} {n N : Nat} {Cs : Nat → List Cl} {b : Nat → Prop} {Pk : Nat → Pt}
theorem LW.nrR (L : LW w σ P n Cs N b Pk) {m : Nat} (hm : m < 8) (hw : w (13 + m) = false) : nrM (13 + m) σ := by
  obtain ⟨e1, e2⟩ := L.2.2.2.2
  refine ⟨?_, ?_, fun j hj => ?_, fun j hj => ?_⟩
  · rcases e1 with e | e
    · exact nref_dec e (by omega)
    · exact nref_dec e (by omega)
  · rcases e2 with e | ⟨i, hi, e, d⟩
    · exact nref_dec e (by omega)
    · refine nref_dec e (fun z => ?_)
      rw [z, hw] at d
      cases d
  · by_cases c : b j
    · rw [((L.2.2.2.1.1 j hj).2 c).1]
      exact nref_enc (by omega) (by omega)
    · exact Or.inl ((L.2.2.2.1.1 j hj).1 c)
  · rcases L.2.1.2.2.1 j hj with e | e
    · exact Or.inl e.1
    · rw [e.1]
      refine nref_enc (fun z => ?_) (by omega)
      have d := e.2
      rw [z, hw] at d
      cases d
/-- what rule() of the class leaves -/
def MR91 (n : Nat) (t : Nat → Int) (N : Nat) (σm : Mem) : AV → Mem → Prop := fun a σ1 => ∃ σ', same (SRr (13 + n)) σm σ' ∧ dec (σ' 7 1 0 0) = vr 0 6 0 ∧ dec (σ' 7 9 0 0) = vr (13 + n) 0 0 ∧
  ((∃ f, pzR t N 13 0 0 [] = .inl f ∧ a = vi (-2 - f) ∧ σ1 = up σ' 0 7 0 0 0) ∨ ∃ Ds, pzR t N 13 0 0 [] = .inr Ds ∧ RcF σ' (13 + n) Ds ∧ a = vi n ∧ σ1 = up (up σ' 0 7 0 0 0) 0 5 0 0 (n + 1))
theorem MR91_i {n : Nat} {t : Nat → Int} {N : Nat} {σm : Mem} {a : AV} {σ1 : Mem} (h : MR91 n t N σm a σ1) : anI a := by
  obtain ⟨_, _, _, _, ⟨_, _, rfl, _⟩ | ⟨_, _, _, rfl, _⟩⟩ := h <;> exact ⟨_, rfl⟩
theorem A91_of {n : Nat} {t : Nat → Int} {N : Nat} {σm : Mem} {Q : Option AV → Mem → Prop} (q : ∀ a σ1, MR91 n t N σm a σ1 → Q (some a) σ1) : A91 (13 + n) n t N σm Q :=
  ⟨fun f e σ' s d1 d9 => q _ _ ⟨σ', s, d1, d9, Or.inl ⟨f, e, rfl, rfl⟩⟩, fun Ds e σ' R s d1 d9 => q _ _ ⟨σ', s, d1, d9, Or.inr ⟨Ds, e, R, rfl, rfl⟩⟩⟩
theorem SRr_no {o x f : Nat} (h7 : x ≠ 7) (ho : x ≠ o) : SRr o x f = false := by
  show ((x == 7) || (x == o && (f == 1 || f == 2 || f == 3 || f == 4 || f == 5 || f == 6 || f == 7 || f == 8))) = false
  simp [h7, ho]
theorem SXE_no {x f : Nat} (h : x ≠ 21 ∨ f < 39 ∨ f = 48 ∨ f = 49 ∨ 58 < f) : SXE x f = false := by
  show (x == 21 && (f == 39 || f == 40 || f == 41 || f == 42 || f == 43 || f == 44 || f == 45 || f == 46 || f == 47 || f == 50 || f == 51 || f == 52 || f == 53 || f == 54 || f == 55 || f == 56 || f == 57 || f == 58)) = false
  simp
  omega
/-- a rule read on both sides, in the memory then -/
theorem LW.rul (L : LW w σ P n Cs N b Pk) (hn : n < 8) {σm σ' σ1 σ2 : Mem} (em : ∀ o f, o ≠ 13 + n → ¬ (o = 0 ∧ f = 4) → ∀ r c, σm o f r c = σ o f r c) (e4 : ∀ j, σm 0 4 0 j = if j = n then enc (13 + n) 0 0 else σ 0 4 0 j) (hw : ∀ o, w o = true → w' o = true) (hn' : ∀ o, o ≠ 13 + n → w' o = w o) (h1 : w' (13 + n) = true)
    (s1 : same (SRr (13 + n)) σm σ') (d1 : dec (σ' 7 1 0 0) = vr 0 6 0) (d9 : dec (σ' 7 9 0 0) = vr (13 + n) 0 0) {n' : Nat} {Cs' : Nat → List Cl} (hn2 : n ≤ n' ∧ n' ≤ n + 1) (u1 : ∀ o f, ¬ (o = 0 ∧ (f = 5 ∨ f = 7)) → ∀ r c, σ1 o f r c = σ' o f r c) (u5 : σ1 0 5 0 0 = (n' : Nat)) (u7 : σ1 0 7 0 0 = 0)
    (F2 : FTS σ2 (gh σ n)) (s2 : same SXE σ1 σ2) (k39 : σ2 21 39 0 0 = 0) (k43 : σ2 21 43 0 0 = (n' : Nat)) (hC : ∀ i, i < n → Cs' i = Cs i) (hN : n' = n + 1 → ((∀ x, x ∈ Cs' n → ClOK x) ∧ (Cs' n).length ≤ 12) ∧ RcF σ' (13 + n) (Cs' n) ∧ RcG σ2 n (Cs' n)) :
    LW w' σ2 P n' Cs' 0 b Pk := by
  have a2 : ∀ o f, o ≠ 7 → o ≠ 13 + n → ¬ (o = 0 ∧ (f = 4 ∨ f = 5 ∨ f = 7)) → (o ≠ 21 ∨ f < 39 ∨ f = 48 ∨ f = 49 ∨ 58 < f) → ∀ r c, σ2 o f r c = σ o f r c := fun o f h7 ho h0 h21 r c =>
    (((s2 o f (SXE_no h21) r c).trans (u1 o f (by omega) r c)).trans (s1 o f (SRr_no h7 ho) r c)).trans (em o f ho (by omega) r c)
  have a7 : ∀ f r c, σ2 7 f r c = σ' 7 f r c := fun f r c => (s2 7 f (SXE_no (by omega)) r c).trans (u1 7 f (by omega) r c)
  have aR : ∀ f r c, σ2 (13 + n) f r c = σ' (13 + n) f r c := fun f r c => (s2 _ f (SXE_no (by omega)) r c).trans (u1 _ f (by omega) r c)
  have a4 : ∀ j, σ2 0 4 0 j = if j = n then enc (13 + n) 0 0 else σ 0 4 0 j := fun j => (((s2 0 4 (SXE_no (by omega)) 0 j).trans (u1 0 4 (by omega) 0 j)).trans (s1 0 4 (SRr_no (by omega) (by omega)) 0 j)).trans (e4 j)
  have B0 : RBo σ2 n Cs := L.2.1.2.1.keepG (by omega) F2 (fun i hi f r c _ => a2 (13 + i) f (by omega) (by omega) (by omega) (by omega) r c)
  refine ⟨⟨L.1.1.keep1 (fun f r c => a2 1 f (by omega) (by omega) (by omega) (by omega) r c), fun f i h2 h38 => (a2 21 f (by omega) (by omega) (by omega) (by omega) 0 i).trans (L.1.2.1 f i h2 h38), L.1.2.2.1, L.1.2.2.2.1, L.1.2.2.2.2.1, L.1.2.2.2.2.2.1, L.1.2.2.2.2.2.2.1, (a2 10 2 (by omega) (by omega) (by omega) (by omega) 0 0).trans L.1.2.2.2.2.2.2.2⟩,
    ⟨⟨((s2 0 5 (SXE_no (by omega)) 0 0).trans u5), k43, by omega⟩, fun i hi => ?_, fun i hi => ?_, fun i hi => ?_⟩,
    ⟨(s2 0 7 (SXE_no (by omega)) 0 0).trans u7, k39, by omega, (a2 21 48 (by omega) (by omega) (by omega) (by omega) 0 0).trans L.2.2.1.2.2.2.1, fun i hi => absurd hi (by omega)⟩,
    (L.2.2.2.1.keepE (fun o f z r c => a2 o f (by unfold pD at z; simp at z; omega) (by unfold pD at z; simp at z; omega) (by unfold pD at z; simp at z; omega) (by unfold pD at z; simp at z; omega) r c)).wd (fun i _ => hn' _ (by omega)),
    ⟨Or.inr (by rw [a7]; exact d1), Or.inr ⟨n, hn, by rw [a7]; exact d9, h1⟩⟩⟩
  · by_cases c : i = n
    · subst c
      obtain ⟨g1, g2, g3⟩ := hN (by omega)
      exact ⟨g1, g2.keep (fun f r c _ => aR f r c), g3⟩
    · have hi' : i < n := by omega
      rw [hC i hi']
      exact B0 i hi'
  · rw [a4 i]
    by_cases c : i = n
    · subst c
      rw [if_pos rfl]
      exact Or.inr ⟨rfl, h1⟩
    · rw [if_neg c, hn' _ (by omega)]
      exact L.2.1.2.2.1 i hi
  · rw [a4 i]
    by_cases c : i = n
    · subst c
      rw [if_pos rfl]
      exact ⟨rfl, h1⟩
    · rw [if_neg c, hn' _ (by omega)]
      exact L.2.1.2.2.2 i (by omega)
theorem rul_x (L : LW w σ P n Cs N b Pk) (hn : n < 8) (hk : 135 ≤ k) {σm : Mem} (em : ∀ o f, o ≠ 13 + n → ¬ (o = 0 ∧ f = 4) → ∀ r c, σm o f r c = σ o f r c) (e4 : ∀ j, σm 0 4 0 j = if j = n then enc (13 + n) 0 0 else σ 0 4 0 j) (hw : ∀ o, w o = true → w' o = true) (hn' : ∀ o, o ≠ 13 + n → w' o = w o) (h1 : w' (13 + n) = true) (a : AV) (σ1 : Mem) (h : MR91 n (gh σ n) N σm a σ1) (Q : Option AV → Mem → Prop) (q : ∀ σ2, LWx w' σ2 → Q (some a) σ2) : CC G w' w' k (0, 0) 174 [vr 21 0 0] σ1 Q := by
  obtain ⟨σ', s1, d1, d9, h⟩ := h
  obtain ⟨g1, g2, g3, g4, g5⟩ := L.2.2.1
  have m21 : ∀ f r c, σ' 21 f r c = σ 21 f r c := fun f r c => (s1 21 f (SRr_no (by omega) (by omega)) r c).trans (em 21 f (by omega) (by omega) r c)
  have key : ∀ τ : Mem, (∀ f r c, τ 21 f r c = σ 21 f r c) → ∀ Q' : Option AV → Mem → Prop, (∀ f, pzR (gh σ n) N 13 0 0 [] = .inl f → ∀ σ', FTS σ' (gh σ n) → same SXE τ σ' → σ' 21 39 0 0 = 0 → σ' 21 43 0 0 = ((n : Nat) : Int) → Q' (some (vi (-2 - f))) σ') → (∀ Cs, pzR (gh σ n) N 13 0 0 [] = .inr Cs → ∀ σ', FTS σ' (gh σ n) → RcG σ' n Cs → same SXE τ σ' → σ' 21 39 0 0 = 0 → σ' 21 43 0 0 = ((n : Nat) : Int) + 1 → Q' (some (vi n)) σ') → CC G w' w' k (0, 0) 174 [vr 21 0 0] τ Q' := fun τ et Q' qf qk =>
    kx_rule (gh_TR σ n) hk (by rw [et]; exact L.2.1.1.2.1) (by omega) (by rw [et]; exact g2) g3 (fun i hi => by
      rw [et, gh_tape σ n (by omega)]
      have := g5 i hi
      omega) (by rw [et]; exact g4) (fun f i x a b c y => by
      rw [et]
      exact gh_in a b c y) qf qk
  rcases h with ⟨f, ef, rfl, rfl⟩ | ⟨Ds, eD, RD, rfl, rfl⟩
  · refine key _ (fun f r c => (upp_no (by decide)).trans (m21 f r c)) Q (fun f' ef' σ2 F2 s2 k39 k43 => ?_) (fun Ds eD => ?_)
    · have e : f' = f := by rw [ef] at ef'; injection ef' with e; exact e.symm
      rw [e]
      exact q σ2 ((L.rul (w' := w') (n' := n) (Cs' := Cs) (σ1 := up σ' 0 7 0 0 0) hn em e4 hw hn' h1 s1 d1 d9 (by omega) (fun o f h r c => if_neg (fun z => h ⟨z.1, Or.inr z.2.1⟩)) (by
        rw [upp_nf (by decide), s1 0 5 (SRr_no (by omega) (by omega)), em 0 5 (by omega) (by omega)]
        exact L.2.1.1.1) upp_eq F2 s2 k39 k43 (fun _ _ => rfl) (fun z => absurd z (by omega))).x)
    · rw [ef] at eD; cases eD
  · refine key _ (fun f r c => ((upp_no (by decide)).trans (upp_no (by decide))).trans (m21 f r c)) Q (fun f' ef' => ?_) (fun Ds' eD' σ2 F2 G2 s2 k39 k43 => ?_)
    · rw [eD] at ef'; cases ef'
    · have e : Ds' = Ds := by rw [eD] at eD'; injection eD' with e; exact e.symm
      rw [e] at G2
      have ok := pzR_ok (gh_TR σ n) 13 0 0 [] (Nat.zero_le _) (by omega) (fun x hx => absurd hx (List.not_mem_nil)) (by simp) eD
      refine q σ2 ((L.rul (w' := w') (n' := n + 1) (Cs' := fun i => if i = n then Ds else Cs i) (σ1 := up (up σ' 0 7 0 0 0) 0 5 0 0 (n + 1)) hn em e4 hw hn' h1 s1 d1 d9 (by omega) (fun o f h r c => (if_neg (fun z => h ⟨z.1, Or.inl z.2.1⟩)).trans (if_neg (fun z => h ⟨z.1, Or.inr z.2.1⟩))) (by rw [upp_eq]; omega) (by rw [upp_nf (by decide), upp_eq]) F2 s2 k39 (by rw [k43]; omega) (fun i hi => if_neg (by omega)) (fun _ => ?_)).x)
      rw [if_pos rfl]
      exact ⟨ok, RD, G2⟩
theorem pair_rule (L : LW w σ P n Cs N b Pk) (hk : 135 ≤ k) : Pair G w w k (0, 0) 91 [vr 0 0 0] 174 [vr 21 0 0] σ ∨ ∃ m, m < 8 ∧ w (13 + m) = false ∧ Pair G w (wdN w (13 + m)) k (7, 489) 91 [vr 0 0 0] 174 [vr 21 0 0] σ := by
  obtain ⟨l1, l2, l3⟩ := L.2.1.1
  by_cases h8 : n < 8
  · have hf : ∀ f, pzR (gh σ n) N 13 0 0 [] = .inl f → 1 ≤ f ∧ f ≤ 4000 := fun f e => by
      have := pzR_pos 13 0 0 [] (Nat.zero_le _) (by omega) (by simp) (by simp) e
      have := L.2.2.1.2.2.1
      omega
    have hb : ∀ i, i < N → σ 0 6 0 i = gh σ n i := fun i hi => by
      have := L.2.2.1.2.2.1
      have := L.2.2.1.2.2.2.2 i hi
      rw [gh_tape σ n (by omega)]
      omega
    rcases L.2.1.2.2.1 n h8 with ⟨e, hw⟩ | ⟨e, hw⟩
    · refine Or.inr ⟨n, h8, hw, MR91 n (gh σ n) N (up (bo0 (13 + n) σ) 0 4 0 n (enc (13 + n) 0 0)), fun a σ1 hm => MR91_i hm, fun Q q => ?_, fun a σ1 h Q q => rul_x L h8 hk (fun o f h1 h2 r c => ?_) (fun j => ?_) (fun o z => by unfold wdN; rw [z]; rfl) (fun o z => by unfold wdN; simp [z]) (by unfold wdN; simp) a σ1 h Q q⟩
      · have r := kc_91n (G := G) (k := k - 2) (Q := Q) (gh_TR σ n) h8 hw e (by omega) L.2.2.1.2.2.1 hf hb l1 L.2.2.1.1 (L.nrR h8 hw) (A91_of q)
        rw [show k - 2 + 2 = k by omega] at r
        exact r
      · rw [show up (bo0 (13 + n) σ) 0 4 0 n (enc (13 + n) 0 0) o f r c = bo0 (13 + n) σ o f r c from if_neg (fun z => h2 ⟨z.1, z.2.1⟩)]
        exact bo0_ne h1 σ f r c
      · by_cases c : j = n
        · subst c; rw [upp_eq, if_pos rfl]
        · rw [upp_nc c, if_neg c]
          exact bo0_ne (by omega) σ 4 0 j
    · refine Or.inl ⟨MR91 n (gh σ n) N σ, fun a σ1 hm => MR91_i hm, fun Q q => kc_91o (gh_TR σ n) h8 hw e (by omega) L.2.2.1.2.2.1 hf hb l1 L.2.2.1.1 (A91_of q), fun a σ1 h Q q => rul_x L h8 hk (fun _ _ _ _ _ _ => rfl) (fun j => ?_) (fun _ z => z) (fun _ _ => rfl) hw a σ1 h Q q⟩
      by_cases c : j = n
      · rw [if_pos c, c]; exact e
      · rw [if_neg c]
  · have e8 : n = 8 := by omega
    subst e8
    refine Or.inl ⟨fun a σ1 => a = vi (-1) ∧ σ1 = σ, fun a σ1 hm => ⟨_, hm.1⟩, fun Q q => kc_91f l1 (q _ _ ⟨rfl, rfl⟩), fun a σ1 h Q q => ?_⟩
    obtain ⟨rfl, rfl⟩ := h
    exact kx_rule8 (by omega) l2 (q _ L.x)
end RPR

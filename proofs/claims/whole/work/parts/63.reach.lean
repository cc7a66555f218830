/-! 63.reach: trees, graphs and the table of joins: what the two ways to REACH come to is one number (pure) -/
def el (d : Nat → Nat → Int) : List (Nat × Nat) → Int
  | [] => 0
  | e :: r => d e.1 e.2 + el d r
/-- u hangs together with S by the lines of E -/
def Cn (E : List (Nat × Nat)) (S : Nat → Prop) (u : Nat) : Prop := ∀ X : Nat → Prop, (∀ v, S v → X v) → (∀ e, e ∈ E → (X e.1 ↔ X e.2)) → X u
/-- m houses of R come to S, each time a nearest one: L -/
def Pr (d : Nat → Nat → Int) : Nat → (Nat → Prop) → (Nat → Prop) → Int → Prop
  | 0, _, R, L => (∀ v, ¬ R v) ∧ L = 0
  | m + 1, S, R, L => ∃ v p L', R v ∧ S p ∧ (∀ v' p', R v' → S p' → d p v ≤ d p' v') ∧ L = d p v + L' ∧ Pr d m (fun x => S x ∨ x = v) (fun x => R x ∧ x ≠ v) L'
def Met3 (d : Nat → Nat → Int) : Prop := (∀ a b, 0 ≤ d a b) ∧ (∀ a, d a a = 0) ∧ (∀ a b, d a b = d b a) ∧ ∀ a b c, d a c ≤ d a b + d b c
theorem el_nn {d : Nat → Nat → Int} (hd : Met3 d) : ∀ E, 0 ≤ el d E
  | [] => Int.le_refl 0
  | e :: r => by
    have := el_nn hd r
    have := hd.1 e.1 e.2
    show 0 ≤ d e.1 e.2 + el d r
    omega
theorem el_app {d : Nat → Nat → Int} : ∀ E F, el d (E ++ F) = el d E + el d F
  | [], F => by show el d F = 0 + el d F; omega
  | e :: r, F => by
    have := el_app (d := d) r F
    show d e.1 e.2 + el d (r ++ F) = d e.1 e.2 + el d r + el d F
    omega
theorem el_erase {d : Nat → Nat → Int} (e : Nat × Nat) : ∀ E : List (Nat × Nat), e ∈ E → el d E = d e.1 e.2 + el d (E.erase e)
  | [], h => by cases h
  | f :: r, h => by
    by_cases q : f = e
    · subst q
      rw [List.erase_cons_head]
      rfl
    · have h' : e ∈ r := by
        rcases List.mem_cons.mp h with z | z
        · exact (q z.symm).elim
        · exact z
      have ih := el_erase (d := d) e r h'
      rw [List.erase_cons_tail (by simpa using q)]
      show d f.1 f.2 + el d r = d e.1 e.2 + (d f.1 f.2 + el d (r.erase e))
      omega
theorem Pr_le {d : Nat → Nat → Int} (hd : Met3 d) : ∀ (m : Nat) (S R : Nat → Prop) (L : Int) (E : List (Nat × Nat)), Pr d m S R L → (∀ e, e ∈ E → (S e.1 ∨ R e.1) ∧ (S e.2 ∨ R e.2)) → (∀ u, R u → ¬ S u) → (∀ u, R u → Cn E S u) → L ≤ el d E
  | 0, S, R, L, E, h, _, _, _ => by
    have := el_nn hd E
    rw [h.2]; exact this
  | m + 1, S, R, L, E, h, hE, hdj, hc => by
    obtain ⟨v, p, L', hv, hp, hmin, hL, hrest⟩ := h
    let T : Nat → Prop := fun u => ∀ X : Nat → Prop, X v → (∀ e, e ∈ E → ¬ S e.1 → ¬ S e.2 → (X e.1 ↔ X e.2)) → X u
    have hTv : T v := fun X hX _ => hX
    have hTS : ∀ u, T u → ¬ S u := fun u hu => hu (fun x => ¬ S x) (hdj v hv) (fun e _ h1 h2 => ⟨fun _ => h2, fun _ => h1⟩)
    have hTe : ∀ e, e ∈ E → T e.1 → ¬ S e.2 → T e.2 := fun e he h1 h2 X hX hcl => (hcl e he (hTS _ h1) h2).mp (h1 X hX hcl)
    have hTe' : ∀ e, e ∈ E → T e.2 → ¬ S e.1 → T e.1 := fun e he h1 h2 X hX hcl => (hcl e he h2 (hTS _ h1)).mpr (h1 X hX hcl)
    have hex : ∃ e, e ∈ E ∧ ((T e.1 ∧ S e.2) ∨ (T e.2 ∧ S e.1)) := Classical.byContradiction fun hno => by
      have hn : ∀ e, e ∈ E → ¬ ((T e.1 ∧ S e.2) ∨ (T e.2 ∧ S e.1)) := fun e he z => hno ⟨e, he, z⟩
      exact hc v hv (fun u => ¬ T u) (fun u hu ht => hTS u ht hu) (fun e he => ⟨fun h1 h2 => h1 (hTe' e he h2 (fun z => hn e he (Or.inr ⟨h2, z⟩))), fun h1 h2 => h1 (hTe e he h2 (fun z => hn e he (Or.inl ⟨h2, z⟩)))⟩) hTv
    obtain ⟨e, he, hcr⟩ := hex
    have hcost : d p v ≤ d e.1 e.2 := by
      rcases hcr with ⟨h1, h2⟩ | ⟨h1, h2⟩
      · have := hmin e.1 e.2 ((hE e he).1.resolve_left (hTS _ h1)) h2
        rw [hd.2.2.1 e.1 e.2]; exact this
      · exact hmin e.2 e.1 ((hE e he).2.resolve_left (hTS _ h1)) h2
    have ih := Pr_le hd m _ _ L' (E.erase e) hrest (fun f hf => by
        have hf' := List.mem_of_mem_erase hf
        have g : ∀ x, S x ∨ R x → (S x ∨ x = v) ∨ (R x ∧ x ≠ v) := fun x hx => by
          by_cases q : x = v
          · exact Or.inl (Or.inr q)
          · exact hx.elim (fun z => Or.inl (Or.inl z)) (fun z => Or.inr ⟨z, q⟩)
        exact ⟨g _ (hE f hf').1, g _ (hE f hf').2⟩)
      (fun u hu hs => hs.elim (hdj u hu.1) hu.2)
      (fun u hu X hX hcl => hc u hu.1 X (fun x hx => hX x (Or.inl hx)) (fun f hf => by
        by_cases q : f = e
        · subst q
          have hx : ∀ x, T x → X x := fun x hx => hx X (hX v (Or.inr rfl)) (fun g hg g1 g2 => hcl g ((List.mem_erase_of_ne (fun z => by
            subst z
            rcases hcr with ⟨_, z2⟩ | ⟨_, z2⟩
            · exact g2 z2
            · exact g1 z2)).mpr hg))
          rcases hcr with ⟨h1, h2⟩ | ⟨h1, h2⟩
          · exact ⟨fun _ => hX _ (Or.inl h2), fun _ => hx _ h1⟩
          · exact ⟨fun _ => hx _ h1, fun _ => hX _ (Or.inl h2)⟩
        · exact hcl f ((List.mem_erase_of_ne q).mpr hf)))
    have := el_erase (d := d) e E he
    omega
theorem Cn_root {E : List (Nat × Nat)} {V : Nat → Prop} {h a : Nat} (ha : V a) (hc : ∀ u, V u → Cn E (fun x => x = h) u) : ∀ u, V u → Cn E (fun x => x = a) u := fun u hu X hX hcl => by
  have q : ∀ z, V z → (X z ↔ X h) := fun z hz => hc z hz (fun y => X y ↔ X h) (fun y hy => by rw [hy]) (fun e he => by rw [hcl e he])
  exact (q u hu).mpr ((q a ha).mp (hX a rfl))
/-- what the table of joins keeps: never more than .. -/
def JU (d J : Nat → Nat → Int) (n set : Nat) : Prop :=
  (∀ h, h < n → set.testBit h = true → J (2 ^ h) h ≤ 0) ∧
  (∀ s t h, h < n → s ≠ 0 → t ≠ 0 → s &&& t = 0 → (s ||| t) &&& set = s ||| t → J (s ||| t) h ≤ J s h + J t h) ∧
  (∀ s h o, h < n → o < n → s ≠ 0 → s &&& set = s → J s h ≤ J s o + d o h)
/-- .. and each comes from somewhere -/
def JL (d J : Nat → Nat → Int) (n set : Nat) (F : Int) : Prop :=
  ∀ s h, h < n → s ≠ 0 → s &&& set = s → ∃ o b, o < n ∧ J s h = b + d o h ∧ (b = F ∨ (s = 2 ^ o ∧ b = 0) ∨ ∃ t r, t ≠ 0 ∧ r ≠ 0 ∧ t &&& r = 0 ∧ t ||| r = s ∧ b = J t o + J r o)
/-- a graph on the houses of V that holds s and h together -/
def Gr (d : Nat → Nat → Int) (n s h : Nat) (L : Int) : Prop := ∃ V E, V < 2 ^ n ∧ V.testBit h = true ∧ (∀ i, s.testBit i = true → V.testBit i = true) ∧ (∀ e, e ∈ E → V.testBit e.1 = true ∧ V.testBit e.2 = true) ∧ (∀ u, V.testBit u = true → Cn E (fun x => x = h) u) ∧ el d E = L
theorem Cn_mono {E F : List (Nat × Nat)} {S : Nat → Prop} {u : Nat} (h : Cn E S u) (hs : ∀ e, e ∈ E → e ∈ F) : Cn F S u := fun X hX hc => h X hX (fun e he => hc e (hs e he))
theorem Gr_move {d : Nat → Nat → Int} {n s h o : Nat} {L : Int} (hh : h < n) (g : Gr d n s o L) : Gr d n s h (L + d o h) := by
  obtain ⟨V, E, h1, h2, h3, h4, h5, h6⟩ := g
  refine ⟨V ||| 2 ^ h, E ++ [(o, h)], Nat.or_lt_two_pow h1 (Nat.pow_lt_pow_right (by omega) hh), ?_, ?_, ?_, ?_, ?_⟩
  · rw [Nat.testBit_or, Nat.testBit_two_pow_self, Bool.or_true]
  · intro i hi
    rw [Nat.testBit_or, h3 i hi, Bool.true_or]
  · intro e he
    rcases List.mem_append.mp he with z | z
    · rw [Nat.testBit_or, Nat.testBit_or, (h4 e z).1, (h4 e z).2]
      exact ⟨rfl, rfl⟩
    · rw [List.mem_singleton.mp z]
      show (V ||| 2 ^ h).testBit o = true ∧ (V ||| 2 ^ h).testBit h = true
      rw [Nat.testBit_or, Nat.testBit_or, h2, Nat.testBit_two_pow_self, Bool.or_true]
      exact ⟨rfl, rfl⟩
  · intro u hu X hX hc
    by_cases q : u = h
    · exact hX u q
    · have hu' : V.testBit u = true := by
        rw [Nat.testBit_or, Nat.testBit_two_pow_of_ne (fun z => q z.symm), Bool.or_false] at hu
        exact hu
      exact h5 u hu' X (fun x hx => by
        rw [hx]
        exact (hc (o, h) (List.mem_append.mpr (Or.inr (List.mem_singleton.mpr rfl)))).mpr (hX h rfl)) (fun e he => hc e (List.mem_append.mpr (Or.inl he)))
  · rw [el_app, h6]
    show L + (d o h + 0) = L + d o h
    omega
theorem Gr_join {d : Nat → Nat → Int} {n s t h : Nat} {L M : Int} (g : Gr d n s h L) (k : Gr d n t h M) : Gr d n (s ||| t) h (L + M) := by
  obtain ⟨V, E, h1, h2, h3, h4, h5, h6⟩ := g
  obtain ⟨U, D, k1, k2, k3, k4, k5, k6⟩ := k
  refine ⟨V ||| U, E ++ D, Nat.or_lt_two_pow h1 k1, ?_, ?_, ?_, ?_, ?_⟩
  · rw [Nat.testBit_or, h2, Bool.true_or]
  · intro i hi
    rw [Nat.testBit_or, Bool.or_eq_true] at hi ⊢
    exact hi.imp (h3 i) (k3 i)
  · intro e he
    rw [Nat.testBit_or, Nat.testBit_or]
    rcases List.mem_append.mp he with z | z
    · rw [(h4 e z).1, (h4 e z).2]
      exact ⟨rfl, rfl⟩
    · rw [(k4 e z).1, (k4 e z).2, Bool.or_true, Bool.or_true]
      exact ⟨rfl, rfl⟩
  · intro u hu
    rw [Nat.testBit_or, Bool.or_eq_true] at hu
    rcases hu with z | z
    · exact Cn_mono (h5 u z) (fun e he => List.mem_append.mpr (Or.inl he))
    · exact Cn_mono (k5 u z) (fun e he => List.mem_append.mpr (Or.inr he))
  · rw [el_app, h6, k6]
theorem Gr_one {d : Nat → Nat → Int} {n h : Nat} (hh : h < n) : Gr d n (2 ^ h) h 0 := by
  refine ⟨2 ^ h, [], Nat.pow_lt_pow_right (by omega) hh, Nat.testBit_two_pow_self, fun i hi => hi, fun e he => absurd he List.not_mem_nil, ?_, rfl⟩
  intro u hu X hX _
  refine hX u ?_
  exact Classical.byContradiction fun z => by
    rw [Nat.testBit_two_pow_of_ne (fun y => z y.symm)] at hu
    cases hu
theorem sub_lt {t r s : Nat} (hr : r ≠ 0) (h0 : t &&& r = 0) (h1 : t ||| r = s) : t < s := by
  have h2 : t ≤ s := by rw [← h1]; exact Nat.left_le_or
  have h3 : t ≠ s := fun z => hr (by
    apply Nat.eq_of_testBit_eq
    intro i
    rw [Nat.zero_testBit]
    cases e : r.testBit i
    · rfl
    · have e1 := congrArg (fun y => y.testBit i) h0
      have e2 := congrArg (fun y => y.testBit i) h1
      simp only [Nat.testBit_and, Nat.testBit_or, Nat.zero_testBit, e, Bool.and_true, Bool.or_true] at e1 e2
      rw [z, ← e2] at e1
      cases e1)
  omega
theorem sub_in {t r s set : Nat} (h1 : t ||| r = s) (hs : s &&& set = s) : t &&& set = t := by
  apply Nat.eq_of_testBit_eq
  intro i
  have := congrArg (fun z => z.testBit i) hs
  have e1 := congrArg (fun z => z.testBit i) h1
  simp only [Nat.testBit_and, Nat.testBit_or] at this e1 ⊢
  rw [← e1] at this
  cases ht : t.testBit i
  · rfl
  · rw [ht] at this
    simpa using this
/-- a number of the table is the length of a graph, or as much as told at first -/
theorem J_graph {d J : Nat → Nat → Int} {n set : Nat} {F : Int} (hd : Met3 d) (hF : 0 ≤ F) (hJ : JL d J n set F) : ∀ (k s h : Nat), s < k → h < n → s ≠ 0 → s &&& set = s → 0 ≤ J s h ∧ (F ≤ J s h ∨ Gr d n s h (J s h))
  | 0, s, h, hk, _, _, _ => by omega
  | k + 1, s, h, hk, hh, hs, hset => by
    obtain ⟨o, b, ho, hb, hcase⟩ := hJ s h hh hs hset
    have hoh := hd.1 o h
    rcases hcase with rfl | ⟨rfl, rfl⟩ | ⟨t, r, ht, hr, h0, h1, rfl⟩
    · exact ⟨by omega, Or.inl (by omega)⟩
    · refine ⟨by omega, Or.inr ?_⟩
      rw [hb]
      exact Gr_move hh (Gr_one ho)
    · have l1 := sub_lt hr h0 h1
      have l2 : r < s := sub_lt (t := r) (r := t) ht (by rw [Nat.and_comm]; exact h0) (by rw [Nat.or_comm]; exact h1)
      have a1 := J_graph hd hF hJ k t o (by omega) ho ht (sub_in h1 hset)
      have a2 := J_graph hd hF hJ k r o (by omega) ho hr (sub_in (t := r) (r := t) (by rw [Nat.or_comm]; exact h1) hset)
      refine ⟨by omega, ?_⟩
      rcases a1.2 with z1 | z1
      · exact Or.inl (by omega)
      · rcases a2.2 with z2 | z2
        · exact Or.inl (by omega)
        · refine Or.inr ?_
          rw [hb]
          have := Gr_move hh (Gr_join z1 z2)
          rw [h1] at this
          exact this
def sumn : Nat → (Nat → Int) → Int
  | 0, _ => 0
  | n + 1, f => sumn n f + f n
def fu (f : Nat → Int) (i : Nat) (v : Int) : Nat → Int := fun x => if x = i then v else f x
theorem sumn_fu_ge {f : Nat → Int} {i : Nat} {v : Int} : ∀ n : Nat, n ≤ i → sumn n (fu f i v) = sumn n f
  | 0, _ => rfl
  | n + 1, h => by
    have ih := sumn_fu_ge (f := f) (i := i) (v := v) n (by omega)
    have e : fu f i v n = f n := if_neg (by omega)
    show sumn n (fu f i v) + fu f i v n = sumn n f + f n
    rw [ih, e]
theorem sumn_fu {f : Nat → Int} {i : Nat} {v : Int} : ∀ n : Nat, i < n → sumn n (fu f i v) = sumn n f - f i + v
  | 0, h => by omega
  | n + 1, h => by
    show sumn n (fu f i v) + fu f i v n = sumn n f + f n - f i + v
    by_cases q : i = n
    · subst q
      have e : fu f i v i = v := if_pos rfl
      rw [sumn_fu_ge i (Nat.le_refl i), e]
      omega
    · have e : fu f i v n = f n := if_neg (by omega)
      rw [sumn_fu n (by omega), e]
      omega
theorem sumn_le0 {f : Nat → Int} : ∀ n : Nat, (∀ i, i < n → f i ≤ 0) → sumn n f ≤ 0
  | 0, _ => Int.le_refl 0
  | n + 1, h => by
    have ih := sumn_le0 n (fun i hi => h i (by omega))
    have := h n (by omega)
    show sumn n f + f n ≤ 0
    omega
def Dz (J : Nat → Nat → Int) (s x : Nat) : Int := if s = 0 then 0 else J s x
def DJ (s t : Nat) : Prop := ∀ i, s.testBit i = true → t.testBit i = true → False
def SbS (s t : Nat) : Prop := ∀ i, s.testBit i = true → t.testBit i = true
theorem DJ_and {s t : Nat} (h : DJ s t) : s &&& t = 0 := by
  apply Nat.eq_of_testBit_eq
  intro i
  rw [Nat.testBit_and, Nat.zero_testBit]
  cases e : s.testBit i
  · rfl
  · cases f : t.testBit i
    · rfl
    · exact (h i e f).elim
theorem SbS_and {s t : Nat} (h : SbS s t) : s &&& t = s := by
  apply Nat.eq_of_testBit_eq
  intro i
  rw [Nat.testBit_and]
  cases e : s.testBit i
  · rfl
  · rw [h i e]
    rfl
theorem or_zero_l {a b : Nat} (h : a = 0) : a ||| b = b := by rw [h, Nat.zero_or]
theorem or_ne {a b : Nat} (h : a ≠ 0) : a ||| b ≠ 0 := fun z => h (by
  apply Nat.eq_of_testBit_eq
  intro i
  have := congrArg (fun y => y.testBit i) z
  simp only [Nat.testBit_or, Nat.zero_testBit, Bool.or_eq_false_iff] at this
  rw [this.1, Nat.zero_testBit])
theorem Pr_gather {d J : Nat → Nat → Int} {n set : Nat} (hd : Met3 d) (hJ : JU d J n set) : ∀ (m : Nat) (S R : Nat → Prop) (L : Int) (A : Nat → Nat), Pr d m S R L → (∀ u, R u → ¬ S u) → (∀ x, S x ∨ R x → x < n) → (∀ x, A x ≠ 0 → S x ∨ R x) → (∀ x, SbS (A x) set) → (∀ x y, x ≠ y → DJ (A x) (A y)) →
    ∃ A' : Nat → Nat, (∀ x, A' x ≠ 0 → S x) ∧ (∀ x, SbS (A' x) set) ∧ (∀ x y, x ≠ y → DJ (A' x) (A' y)) ∧ (∀ i x, (A x).testBit i = true → ∃ y, (A' y).testBit i = true) ∧ sumn n (fun x => Dz J (A' x) x) ≤ sumn n (fun x => Dz J (A x) x) + L
  | 0, S, R, L, A, h, _, _, hs, hi, hj => ⟨A, fun x hx => (hs x hx).resolve_right (h.1 x), hi, hj, fun i x hx => ⟨x, hx⟩, by rw [h.2]; omega⟩
  | m + 1, S, R, L, A, h, hdj, hn, hs, hi, hj => by
    obtain ⟨v, p, L', hv, hp, _, hL, hrest⟩ := h
    have hpv : p ≠ v := fun z => hdj v hv (z ▸ hp)
    obtain ⟨B, b1, b2, b3, b4, b5⟩ := Pr_gather hd hJ m _ _ L' A hrest (fun u hu z => z.elim (hdj u hu.1) hu.2)
      (fun x hx => by
        rcases hx with (z | z) | z
        · exact hn x (Or.inl z)
        · rw [z]; exact hn v (Or.inr hv)
        · exact hn x (Or.inr z.1))
      (fun x hx => by
        by_cases q : x = v
        · exact Or.inl (Or.inr q)
        · exact (hs x hx).elim (fun z => Or.inl (Or.inl z)) (fun z => Or.inr ⟨z, q⟩)) hi hj
    have hpn := hn p (Or.inl hp)
    have hvn := hn v (Or.inr hv)
    let A' : Nat → Nat := fun x => if x = v then 0 else if x = p then B p ||| B v else B x
    have av : A' v = 0 := if_pos rfl
    have ap : A' p = B p ||| B v := by show (if p = v then 0 else if p = p then B p ||| B v else B p) = _; rw [if_neg hpv, if_pos rfl]
    have ax : ∀ x, x ≠ v → x ≠ p → A' x = B x := fun x h1 h2 => by show (if x = v then 0 else if x = p then B p ||| B v else B x) = _; rw [if_neg h1, if_neg h2]
    have hbit : ∀ x i, (A' x).testBit i = true → x ≠ v ∧ ((B x).testBit i = true ∨ (x = p ∧ (B v).testBit i = true)) := fun x i hx => by
      by_cases q : x = v
      · rw [q, av, Nat.zero_testBit] at hx; cases hx
      · refine ⟨q, ?_⟩
        by_cases r : x = p
        · rw [r, ap, Nat.testBit_or, Bool.or_eq_true] at hx
          rw [r]
          exact hx.imp id (fun z => ⟨rfl, z⟩)
        · rw [ax x q r] at hx
          exact Or.inl hx
    refine ⟨A', ?_, ?_, ?_, ?_, ?_⟩
    · intro x hx
      by_cases q : x = v
      · rw [q, av] at hx; exact (hx rfl).elim
      · by_cases r : x = p
        · rw [r]; exact hp
        · rw [ax x q r] at hx
          exact (b1 x hx).resolve_right q
    · intro x i hx
      obtain ⟨_, z | ⟨_, z⟩⟩ := hbit x i hx
      · exact b2 x i z
      · exact b2 v i z
    · intro x y hxy i hx hy
      obtain ⟨x1, x2⟩ := hbit x i hx
      obtain ⟨y1, y2⟩ := hbit y i hy
      rcases x2 with x2 | ⟨x2, x3⟩
      · rcases y2 with y2 | ⟨y2, y3⟩
        · exact b3 x y hxy i x2 y2
        · exact b3 x v x1 i x2 y3
      · rcases y2 with y2 | ⟨y2, y3⟩
        · exact b3 y v y1 i y2 x3
        · exact hxy (x2.trans y2.symm)
    · intro i x hx
      obtain ⟨y, hy⟩ := b4 i x hx
      by_cases q : y = v
      · exact ⟨p, by rw [ap, Nat.testBit_or, ← q, hy, Bool.or_true]⟩
      · by_cases r : y = p
        · exact ⟨p, by rw [ap, Nat.testBit_or, ← r, hy, Bool.true_or]⟩
        · exact ⟨y, by rw [ax y q r]; exact hy⟩
    · have ef : (fun x => Dz J (A' x) x) = fu (fu (fun x => Dz J (B x) x) p (Dz J (B p ||| B v) p)) v 0 := by
        funext x
        unfold fu
        by_cases q : x = v
        · rw [if_pos q, q, av]; exact if_pos rfl
        · rw [if_neg q]
          by_cases r : x = p
          · rw [if_pos r, r, ap]
          · rw [if_neg r, ax x q r]
      have e1 := sumn_fu (f := fu (fun x => Dz J (B x) x) p (Dz J (B p ||| B v) p)) (v := 0) n hvn
      have e2 := sumn_fu (f := fun x => Dz J (B x) x) (v := Dz J (B p ||| B v) p) n hpn
      have e3 : fu (fun x => Dz J (B x) x) p (Dz J (B p ||| B v) p) v = Dz J (B v) v := if_neg (fun z => hpv z.symm)
      have key : Dz J (B p ||| B v) p ≤ Dz J (B p) p + Dz J (B v) v + d p v := by
        have dp := hd.1 p v
        have dv := hd.2.2.1 p v
        unfold Dz
        by_cases z1 : B v = 0
        · rw [z1, Nat.or_zero]
          simp only [if_true]
          omega
        · have m3 := hJ.2.2 (B v) p v hpn hvn z1 (SbS_and (b2 v))
          by_cases z2 : B p = 0
          · rw [z2, Nat.zero_or, if_neg z1, if_pos rfl]
            omega
          · have m2 := hJ.2.1 (B p) (B v) p hpn z2 z1 (DJ_and (b3 p v hpv)) (SbS_and (fun i hi => by
              rw [Nat.testBit_or, Bool.or_eq_true] at hi
              exact hi.elim (b2 p i) (b2 v i)))
            rw [if_neg (or_ne z2), if_neg z1, if_neg z2]
            omega
      rw [ef, e1, e2, e3]
      omega
/-- both ways to REACH -/
theorem reach_eq {d J : Nat → Nat → Int} {n set : Nat} {F a b : Int} {pl : Nat → Int} (hd : Met3 d) (hF : 0 ≤ F) (hs0 : set ≠ 0) (hsn : set < 2 ^ n) (hU : JU d J n set) (hL : JL d J n set F)
    (a1 : ∀ h, h < n → a ≤ J set h) (a2 : a ≤ F) (a3 : (∃ h, h < n ∧ a = J set h) ∨ a = F)
    (hpl : ∀ W, W < 2 ^ n → SbS set W → ∃ m r, W.testBit r = true ∧ Pr d m (fun x => x = r) (fun x => W.testBit x = true ∧ x ≠ r) (pl W)) (hplF : ∀ W, W < 2 ^ n → SbS set W → pl W ≤ F)
    (b1 : ∀ W, W < 2 ^ n → SbS set W → b ≤ pl W) (b2 : ∃ W, W < 2 ^ n ∧ SbS set W ∧ b = pl W) : a = b := by
  have bitlt : ∀ W r, W < 2 ^ n → W.testBit r = true → r < n := fun W r h1 h2 => by
    apply Classical.byContradiction
    intro z
    rw [Nat.testBit_lt_two_pow (Nat.lt_of_lt_of_le h1 (Nat.pow_le_pow_right (by omega) (by omega)))] at h2
    cases h2
  have sbne : ∀ W, SbS set W → W ≠ 0 := fun W h z => hs0 (by
    apply Nat.eq_of_testBit_eq
    intro i
    rw [Nat.zero_testBit]
    cases e : set.testBit i
    · rfl
    · have := h i e
      rw [z, Nat.zero_testBit] at this
      cases this)
  have up : a ≤ b := by
    obtain ⟨W, w1, w2, rfl⟩ := b2
    obtain ⟨m, r, hr, hP⟩ := hpl W w1 w2
    have hrn := bitlt W r w1 hr
    obtain ⟨A', c1, c2, c3, c4, c5⟩ := Pr_gather hd hU m _ _ _ (fun x => if set.testBit x = true then 2 ^ x else 0) hP (fun u hu z => hu.2 z)
      (fun x hx => hx.elim (fun z => z ▸ hrn) (fun z => bitlt W x w1 z.1))
      (fun x hx => by
        by_cases q : set.testBit x = true
        · by_cases e : x = r
          · exact Or.inl e
          · exact Or.inr ⟨w2 x q, e⟩
        · rw [if_neg q] at hx; exact (hx rfl).elim)
      (fun x i hi => by
        by_cases q : set.testBit x = true
        · rw [if_pos q] at hi
          by_cases e : x = i
          · rw [← e]; exact q
          · rw [Nat.testBit_two_pow_of_ne e] at hi; cases hi
        · rw [if_neg q, Nat.zero_testBit] at hi; cases hi)
      (fun x y hxy i hx hy => by
        have g : ∀ z, ((if set.testBit z = true then 2 ^ z else 0).testBit i = true) → z = i := fun z hz => by
          by_cases q : set.testBit z = true
          · rw [if_pos q] at hz
            apply Classical.byContradiction
            intro e
            rw [Nat.testBit_two_pow_of_ne e] at hz; cases hz
          · rw [if_neg q, Nat.zero_testBit] at hz; cases hz
        exact hxy ((g x hx).trans (g y hy).symm))
    have hA0 : sumn n (fun x => Dz J (if set.testBit x = true then 2 ^ x else 0) x) ≤ 0 := sumn_le0 n (fun i hi => by
      show Dz J (if set.testBit i = true then 2 ^ i else 0) i ≤ 0
      unfold Dz
      by_cases q : set.testBit i = true
      · rw [if_pos q, if_neg (Nat.ne_of_gt (Nat.two_pow_pos i))]
        exact hU.1 i hi q
      · rw [if_neg q, if_pos rfl]
        exact Int.le_refl 0)
    have hAr : A' r = set := by
      apply Nat.eq_of_testBit_eq
      intro i
      cases e : set.testBit i
      · cases f : (A' r).testBit i
        · rfl
        · rw [c2 r i f] at e; cases e
      · obtain ⟨y, hy⟩ := c4 i i (by rw [if_pos e]; exact Nat.testBit_two_pow_self)
        have : y = r := c1 y (fun z => by rw [z, Nat.zero_testBit] at hy; cases hy)
        rw [← this]; exact hy
    have hsum : sumn n (fun x => Dz J (A' x) x) = J set r := by
      have ef : (fun x => Dz J (A' x) x) = fu (fun _ => 0) r (J set r) := by
        funext x
        unfold fu
        by_cases q : x = r
        · rw [if_pos q, q, hAr]; exact if_neg hs0
        · rw [if_neg q]
          exact if_pos (Classical.byContradiction fun z => q (c1 x z))
      have z0 : ∀ k : Nat, sumn k (fun _ => 0) = 0 := fun k => by
        induction k with
        | zero => rfl
        | succ k ih => show sumn k (fun _ => 0) + 0 = 0; rw [ih]; rfl
      rw [ef, sumn_fu n hrn, z0]
      omega
    have := a1 r hrn
    omega
  have dn : b ≤ a := by
    have hbF : b ≤ F := by
      obtain ⟨W, w1, w2, rfl⟩ := b2
      exact hplF W w1 w2
    rcases a3 with ⟨h, hh, rfl⟩ | rfl
    · rcases (J_graph hd hF hL (set + 1) set h (by omega) hh hs0 (Nat.and_self set)).2 with z | z
      · omega
      · obtain ⟨V, E, v1, v2, v3, v4, v5, v6⟩ := z
        obtain ⟨m, r, hr, hP⟩ := hpl V v1 v3
        have := Pr_le hd m _ _ _ E hP (fun e he => by
            have g : ∀ x, V.testBit x = true → x = r ∨ (V.testBit x = true ∧ x ≠ r) := fun x hx => by
              by_cases q : x = r
              · exact Or.inl q
              · exact Or.inr ⟨hx, q⟩
            exact ⟨g _ (v4 e he).1, g _ (v4 e he).2⟩) (fun u hu z => hu.2 z) (fun u hu => Cn_root (V := fun x => V.testBit x = true) hr v5 u hu.1)
        have := b1 V v1 v3
        omega
    · exact hbF
  omega

def dP (P : Pt) (a b : Nat) : Int := farP P (a : Nat) (b : Nat)
theorem ab_nn {a b : Int} : 0 ≤ ab a b := by unfold ab; split <;> omega
theorem ab_sy {a b : Int} : ab a b = ab b a := by unfold ab; (repeat' split) <;> omega
theorem ab_tr {a b c : Int} : ab a c ≤ ab a b + ab b c := by unfold ab; (repeat' split) <;> omega
theorem ab_0 {a : Int} : ab a a = 0 := by unfold ab; split <;> omega
theorem met_d {P : Pt} : Met3 (dP P) := by
  unfold dP farP
  refine ⟨fun a b => ?_, fun a => ?_, fun a b => ?_, fun a b c => ?_⟩
  all_goals dsimp only
  · have := @ab_nn (P 3 ((a : Int).toNat)) (P 3 ((b : Int).toNat))
    have := @ab_nn (P 4 ((a : Int).toNat)) (P 4 ((b : Int).toNat))
    omega
  · rw [ab_0, ab_0]; rfl
  · rw [@ab_sy (P 3 ((a : Int).toNat)), @ab_sy (P 4 ((a : Int).toNat))]
  · have := @ab_tr (P 3 ((a : Int).toNat)) (P 3 ((b : Int).toNat)) (P 3 ((c : Int).toNat))
    have := @ab_tr (P 4 ((a : Int).toNat)) (P 4 ((b : Int).toNat)) (P 4 ((c : Int).toNat))
    omega
/-- L is a least length of lines between the houses of W -/
def pl1 (P : Pt) (W : Nat) (L : Int) : Prop := ∃ m r, W.testBit r = true ∧ Pr (dP P) m (fun x => x = r) (fun x => W.testBit x = true ∧ x ≠ r) L
def RB (P : Pt) (n s : Nat) (b : Int) : Prop := (∀ W, W < 2 ^ n → SbS s W → ∃ L, pl1 P W L ∧ L ≤ 99999 ∧ b ≤ L) ∧ ∃ W, W < 2 ^ n ∧ SbS s W ∧ pl1 P W b ∧ b ≤ 99999
def RA (P : Pt) (n s : Nat) (a : Int) : Prop := ∃ J : Nat → Nat → Int, JU (dP P) J n s ∧ JL (dP P) J n s 99999 ∧ (∀ h, h < n → a ≤ J s h) ∧ a ≤ 99999 ∧ ((∃ h, h < n ∧ a = J s h) ∨ a = 99999)
theorem ra_rb {P : Pt} {n s : Nat} {a b : Int} (hs0 : s ≠ 0) (hsn : s < 2 ^ n) (hA : RA P n s a) (hB : RB P n s b) : a = b := by
  obtain ⟨J, j1, j2, j3, j4, j5⟩ := hA
  obtain ⟨h1, W0, w1, w2, w3, w4⟩ := hB
  have ex : ∀ W, ∃ L, (W < 2 ^ n → SbS s W → pl1 P W L ∧ L ≤ 99999 ∧ b ≤ L) ∧ (W = W0 → L = b) := fun W => by
    by_cases e : W = W0
    · exact ⟨b, fun _ _ => ⟨by rw [e]; exact w3, w4, Int.le_refl b⟩, fun _ => rfl⟩
    · by_cases c : W < 2 ^ n ∧ SbS s W
      · obtain ⟨L, l⟩ := h1 W c.1 c.2
        exact ⟨L, fun _ _ => l, fun z => (e z).elim⟩
      · exact ⟨0, fun z1 z2 => (c ⟨z1, z2⟩).elim, fun z => (e z).elim⟩
  have ch := fun W => Classical.choose_spec (ex W)
  exact reach_eq (pl := fun W => Classical.choose (ex W)) met_d (by omega) hs0 hsn j1 j2 j3 j4 j5
    (fun W u v => ((ch W).1 u v).1) (fun W u v => ((ch W).1 u v).2.1) (fun W u v => ((ch W).1 u v).2.2)
    ⟨W0, w1, w2, ((ch W0).2 rfl).symm⟩
theorem ra_one {P : Pt} {n h : Nat} {a : Int} (hh : h < n) (hA : RA P n (2 ^ h) a) : a = 0 := by
  obtain ⟨J, j1, j2, j3, j4, j5⟩ := hA
  have z := j1.1 h hh Nat.testBit_two_pow_self
  have y := j3 h hh
  have p : 2 ^ h ≠ 0 := Nat.ne_of_gt (Nat.two_pow_pos h)
  rcases j5 with ⟨o, ho, e⟩ | e
  · have g := (J_graph met_d (by omega) j2 (2 ^ h + 1) (2 ^ h) o (by omega) ho p (Nat.and_self _)).1
    omega
  · omega

/-! 73.lex: the tokens of a text (pure) -/
def scn (f : Nat → Bool) (N : Nat) : Nat → Nat → Nat
  | 0, p => p
  | m + 1, p => if p < N ∧ f p = true then scn f N m (p + 1) else p
/-- from p on, past all that f takes -/
def sc (f : Nat → Bool) (N p : Nat) : Nat := scn f N (N - p) p
theorem sc_on {f : Nat → Bool} {N p : Nat} (h : p < N) (hf : f p = true) : sc f N p = sc f N (p + 1) := by
  unfold sc
  rw [show N - p = (N - (p + 1)) + 1 by omega]
  exact if_pos ⟨h, hf⟩
theorem sc_off {f : Nat → Bool} {N p : Nat} (h : ¬ (p < N ∧ f p = true)) : sc f N p = p := by
  unfold sc
  cases N - p with
  | zero => rfl
  | succ m => exact if_neg h
theorem scn_r {f : Nat → Bool} {N : Nat} : ∀ m p, p ≤ scn f N m p ∧ (p ≤ N → scn f N m p ≤ N) ∧ ∀ j, p ≤ j → j < scn f N m p → f j = true
  | 0, p => ⟨Nat.le_refl p, fun h => h, fun j h1 h2 => absurd h2 (by show ¬ j < p; omega)⟩
  | m + 1, p => by
    by_cases c : p < N ∧ f p = true
    · have e : scn f N (m + 1) p = scn f N m (p + 1) := if_pos c
      obtain ⟨h1, h2, h3⟩ := scn_r (f := f) (N := N) m (p + 1)
      rw [e]
      refine ⟨by omega, fun h => h2 (by omega), fun j j1 j2 => ?_⟩
      by_cases q : j = p
      · rw [q]; exact c.2
      · exact h3 j (by omega) j2
    · have e : scn f N (m + 1) p = p := if_neg c
      rw [e]
      exact ⟨Nat.le_refl p, fun h => h, fun j h1 h2 => absurd h2 (by omega)⟩
theorem sc_r {f : Nat → Bool} {N p : Nat} : p ≤ sc f N p ∧ (p ≤ N → sc f N p ≤ N) ∧ ∀ j, p ≤ j → j < sc f N p → f j = true := scn_r (N - p) p
theorem sc_end {f : Nat → Bool} {N : Nat} : ∀ m p, N ≤ p + m → ¬ (scn f N m p < N ∧ f (scn f N m p) = true)
  | 0, p, h => fun z => by
    have : p < N := z.1
    omega
  | m + 1, p, h => by
    by_cases c : p < N ∧ f p = true
    · have e : scn f N (m + 1) p = scn f N m (p + 1) := if_pos c
      rw [e]
      exact sc_end m (p + 1) (by omega)
    · have e : scn f N (m + 1) p = p := if_neg c
      rw [e]
      exact c
theorem sc_stop {f : Nat → Bool} {N p : Nat} : ¬ (sc f N p < N ∧ f (sc f N p) = true) := sc_end (N - p) p (by omega)
def isLt (c : Int) : Bool := decide (97 ≤ c ∧ c ≤ 122)
def isDg (c : Int) : Bool := decide (48 ≤ c ∧ c ≤ 57)
def bls (t : Nat → Int) (N p : Nat) : Nat := sc (fun i => decide (t i = 32)) N p
def le (t : Nat → Int) (N p : Nat) : Nat := sc (fun i => isLt (t i)) N p
def dge (t : Nat → Int) (N p : Nat) : Nat := sc (fun i => isDg (t i)) N p
/-- the stretch from p to e is the string i -/
def isW (t : Nat → Int) (p e i : Nat) : Prop := p + strL.getD i 0 = e ∧ ∀ j, j < strL.getD i 0 → t (p + j) = sbv i j
/-- the reader's own walk through its words -/
def wfS (t : Nat → Int) (f e : Nat) (i : Nat) (s : Nat × Nat × Bool) : Nat × Nat × Bool :=
  if sbv 0 i = 32 then (s.1 + 1, f, true) else if s.2.2 = true ∧ s.2.1 < e ∧ t s.2.1 = sbv 0 i then (s.1, s.2.1 + 1, s.2.2) else (s.1, s.2.1, false)
/-- m steps from i: which word, or none -/
def wfR (t : Nat → Int) (f e : Nat) : Nat → Nat → Nat × Nat × Bool → Nat
  | 0, _, _ => 30
  | m + 1, i, s => if sbv 0 i = 32 ∧ s.2.2 = true ∧ s.2.1 = e then s.1 else wfR t f e m (i + 1) (wfS t f e i s)
def wdT (t : Nat → Int) (f e : Nat) : Nat := wfR t f e 116 0 (0, f, true)
/-- which string is the reader's word w; where it begins among its words -/
def wi (w : Nat) : Nat := if w < 15 then w + 5 else if w < 19 then w - 14 else if w = 19 then 20 else if w = 20 then 22 else if w = 21 then 23 else 21
def wsB : Nat → Nat
  | 0 => 0
  | w + 1 => wsB w + strL.getD (wi w) 0 + 1
set_option maxRecDepth 100000 in
theorem ws_ch : ∀ w, w < 23 → (sbv 0 (wsB w + strL.getD (wi w) 0) = 32 ∧ 1 ≤ strL.getD (wi w) 0 ∧ ∀ j, j < strL.getD (wi w) 0 → sbv 0 (wsB w + j) = sbv (wi w) j ∧ ¬ sbv (wi w) j = 32) := by decide +kernel
theorem ws_23 : wsB 23 = 116 := by decide +kernel
/-- along one word -/
theorem wf_run {t : Nat → Int} {f e w : Nat} (hw : w < 23) : ∀ (j m : Nat), j ≤ strL.getD (wi w) 0 → ∃ s : Nat × Nat × Bool, wfR t f e (m + j) (wsB w) (w, f, true) = wfR t f e m (wsB w + j) s ∧ s.1 = w ∧ (s.2.2 = true ↔ ∀ x, x < j → f + x < e ∧ t (f + x) = sbv (wi w) x) ∧ (s.2.2 = true → s.2.1 = f + j)
  | 0, m, _ => ⟨(w, f, true), rfl, rfl, ⟨fun _ x hx => absurd hx (Nat.not_lt_zero x), fun _ => rfl⟩, fun _ => rfl⟩
  | j + 1, m, hj => by
    obtain ⟨s, h1, h2, h3, h4⟩ := wf_run (t := t) (f := f) (e := e) hw j (m + 1) (by omega)
    have ch := (ws_ch w hw).2.2 j (by omega)
    have n32 : ¬ sbv 0 (wsB w + j) = 32 := by rw [ch.1]; exact ch.2
    refine ⟨wfS t f e (wsB w + j) s, ?_, ?_, ?_, ?_⟩
    · rw [show m + (j + 1) = m + 1 + j by omega, h1]
      show (if _ then _ else _) = _
      rw [if_neg (fun z => n32 z.1)]
      rfl
    · unfold wfS
      rw [if_neg n32]
      split <;> exact h2
    · unfold wfS
      rw [if_neg n32]
      by_cases c : s.2.2 = true ∧ s.2.1 < e ∧ t s.2.1 = sbv 0 (wsB w + j)
      · rw [if_pos c]
        have e1 := h4 c.1
        refine ⟨fun _ x hx => ?_, fun _ => c.1⟩
        by_cases q : x = j
        · subst q
          rw [← e1, ← ch.1]
          exact c.2
        · exact h3.mp c.1 x (by omega)
      · rw [if_neg c]
        refine ⟨fun z => absurd z Bool.false_ne_true, fun z => ?_⟩
        have a := h3.mpr (fun x hx => z x (by omega))
        have e1 := h4 a
        have y := z j (by omega)
        exact (c ⟨a, by rw [e1]; exact y.1, by rw [e1, ch.1]; exact y.2⟩).elim
    · unfold wfS
      rw [if_neg n32]
      by_cases c : s.2.2 = true ∧ s.2.1 < e ∧ t s.2.1 = sbv 0 (wsB w + j)
      · rw [if_pos c]
        intro _
        show s.2.1 + 1 = f + (j + 1)
        have := h4 c.1
        omega
      · rw [if_neg c]
        intro z
        cases z
/-- one word: it is it, or the next one's turn comes -/
theorem wf_word {t : Nat → Int} {f e w : Nat} (hw : w < 23) (m : Nat) : (isW t f e (wi w) → wfR t f e (m + 1 + strL.getD (wi w) 0) (wsB w) (w, f, true) = w) ∧ (¬ isW t f e (wi w) → wfR t f e (m + 1 + strL.getD (wi w) 0) (wsB w) (w, f, true) = wfR t f e m (wsB (w + 1)) (w + 1, f, true)) := by
  obtain ⟨s, h1, h2, h3, h4⟩ := wf_run (t := t) (f := f) (e := e) hw (strL.getD (wi w) 0) (m + 1) (Nat.le_refl _)
  have c32 := (ws_ch w hw).1
  have st : wfR t f e (m + 1) (wsB w + strL.getD (wi w) 0) s = if sbv 0 (wsB w + strL.getD (wi w) 0) = 32 ∧ s.2.2 = true ∧ s.2.1 = e then s.1 else wfR t f e m (wsB w + strL.getD (wi w) 0 + 1) (wfS t f e (wsB w + strL.getD (wi w) 0) s) := rfl
  rw [h1, st]
  have iff : isW t f e (wi w) ↔ (s.2.2 = true ∧ s.2.1 = e) := by
    constructor
    · intro ⟨z1, z2⟩
      have a := h3.mpr (fun x hx => ⟨by omega, z2 x hx⟩)
      exact ⟨a, by rw [h4 a]; exact z1⟩
    · intro ⟨z1, z2⟩
      exact ⟨by rw [← h4 z1]; exact z2, fun j hj => (h3.mp z1 j hj).2⟩
  constructor
  · intro z
    rw [if_pos ⟨c32, iff.mp z⟩]; exact h2
  · intro z
    rw [if_neg (fun y => z (iff.mpr y.2))]
    have es : wfS t f e (wsB w + strL.getD (wi w) 0) s = (w + 1, f, true) := by
      unfold wfS
      rw [if_pos c32, h2]
    rw [es]
    rfl
theorem ws_mono : ∀ w, w < 23 → wsB (w + 1) = wsB w + strL.getD (wi w) 0 + 1 ∧ wsB (w + 1) ≤ 116 := by decide +kernel
theorem wf_from {t : Nat → Int} {f e : Nat} : ∀ (n w : Nat), w + n = 23 → (∃ v, w ≤ v ∧ v < 23 ∧ isW t f e (wi v) ∧ (∀ u, w ≤ u → u < v → ¬ isW t f e (wi u)) ∧ wfR t f e (116 - wsB w) (wsB w) (w, f, true) = v) ∨ ((∀ v, w ≤ v → v < 23 → ¬ isW t f e (wi v)) ∧ wfR t f e (116 - wsB w) (wsB w) (w, f, true) = 30)
  | 0, w, h => by
    have : w = 23 := by omega
    subst this
    refine Or.inr ⟨fun v h1 h2 => absurd h2 (by omega), ?_⟩
    rw [ws_23]
    rfl
  | n + 1, w, h => by
    have hw : w < 23 := by omega
    obtain ⟨m1, m2⟩ := ws_mono w hw
    obtain ⟨a, b⟩ := wf_word (t := t) (f := f) (e := e) hw (116 - wsB (w + 1))
    rw [show 116 - wsB (w + 1) + 1 + strL.getD (wi w) 0 = 116 - wsB w by omega] at a b
    by_cases c : isW t f e (wi w)
    · exact Or.inl ⟨w, Nat.le_refl w, hw, c, fun u h1 h2 => absurd h2 (by omega), a c⟩
    · rw [b c]
      rcases wf_from (t := t) (f := f) (e := e) n (w + 1) (by omega) with ⟨v, v1, v2, v3, v4, v5⟩ | ⟨z1, z2⟩
      · refine Or.inl ⟨v, by omega, v2, v3, fun u h1 h2 => ?_, v5⟩
        by_cases q : u = w
        · rw [q]; exact c
        · exact v4 u (by omega) h2
      · refine Or.inr ⟨fun v h1 h2 => ?_, z2⟩
        by_cases q : v = w
        · rw [q]; exact c
        · exact z1 v (by omega) h2
/-- two words are not both there -/
def wdK (u v : Nat) : Bool := u == v || !(strL.getD (wi u) 0 == strL.getD (wi v) 0) || !((List.range (strL.getD (wi u) 0)).all (fun j => decide (sbv (wi u) j = sbv (wi v) j)))
set_option maxRecDepth 100000 in
theorem wd_all : ∀ u, u < 23 → ∀ v, v < 23 → wdK u v = true := by decide +kernel
theorem isW_one {t : Nat → Int} {f e u v : Nat} (hu : u < 23) (hv : v < 23) (h1 : isW t f e (wi u)) (h2 : isW t f e (wi v)) : u = v := by
  have k := wd_all u hu v hv
  unfold wdK at k
  simp only [Bool.or_eq_true, beq_iff_eq, Bool.not_eq_true', beq_eq_false_iff_ne, ne_eq, List.all_eq_false, List.mem_range, decide_eq_true_eq] at k
  have el : strL.getD (wi u) 0 = strL.getD (wi v) 0 := by
    have a := h1.1
    have b := h2.1
    omega
  rcases k with (k | k) | ⟨j, hj, k⟩
  · exact k
  · exact (k el).elim
  · exact (k ((h1.2 j hj).symm.trans (h2.2 j (by omega)))).elim
theorem wdT_iff {t : Nat → Int} {f e w : Nat} (hw : w < 23) : wdT t f e = w ↔ isW t f e (wi w) := by
  have h := wf_from (t := t) (f := f) (e := e) 23 0 (by omega)
  have h0 : wfR t f e (116 - wsB 0) (wsB 0) (0, f, true) = wdT t f e := rfl
  rw [h0] at h
  rcases h with ⟨v, _, v2, v3, _, v5⟩ | ⟨z1, z2⟩
  · constructor
    · intro e1
      have : v = w := by omega
      rw [← this]; exact v3
    · intro z
      rw [v5]
      exact isW_one v2 hw v3 z
  · constructor
    · intro e1; omega
    · intro z
      exact (z1 w (by omega) hw z).elim
theorem wdT_r {t : Nat → Int} {f e : Nat} : wdT t f e < 23 ∨ wdT t f e = 30 := by
  have h := wf_from (t := t) (f := f) (e := e) 23 0 (by omega)
  have h0 : wfR t f e (116 - wsB 0) (wsB 0) (0, f, true) = wdT t f e := rfl
  rw [h0] at h
  rcases h with ⟨v, _, v2, _, _, v5⟩ | ⟨_, z2⟩
  · exact Or.inl (by omega)
  · exact Or.inr z2

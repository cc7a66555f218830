/-! 9p.build: what a constructor does, step by step: a field set, a row of zeros made -/
/-- what holds in a constructor of method mi -/
def CB (G : Gl) (mi : Nat) (p : Program) (s : State) (m : MethodId) (args : Array Value) (meth : Method) (c : Code) : Prop :=
  p.tables.exec = Jvm.exec ∧ c.code = bc mi ∧ s.vm.findClass (RN (own mi)) = some m.cls ∧ (∀ w ∈ WT, w.before args s = true) ∧ meth.name = "<init>" ∧ KK G s ∧ KX G s
/-- the field k of class c: of type ty, told where it is used -/
def ckD (c k : Nat) : Bool := match vwCl[c]? with
  | some r => decide ((r.2.1 k).1 = RN c) && decide (r.1 = RN c)
  | none => false
theorem ckD_all : ∀ c, c < 9 → ∀ k, k < NF c → ckD c k = true := by decide +kernel
section BLD
variable {G : Gl} {mi : Nat} {p : Program} {e : Env} {R : Room} {s : State} {m : MethodId} {args : Array Value} {below : List Frame} {meth : Method} {c' : Code} {H : Heap} {locs : List Loc} {cells slots : Nat} {Q : State → Prop}
theorem W_put (B : CB G mi p s m args meth c') {c k ix a pc : Nat} {V : Nat → Value} {v : Value} {ty : FieldType} (hh : hasF (own mi) ix c k = true) (hc9 : c < 9) (ho : own mi = c) (hty : ∃ r, vwCl[c]? = some r ∧ parseFieldDescriptor (r.2.1 k).2.2.1 = some ty) (hn : narrow ty v = v) (hft : fits ty v = true)
    (X : t_OB a (G.2.1.1 c) (NF c) (G.2.1.2.1 c) H V) (hdg : decode (bc mi) pc = .ok (.putfield ix, 3)) {ls : Array Slot} {rest : List Value}
    (kk : ∀ (H' : Heap) (j : Nat), t_OB a (G.2.1.1 c) (NF c) (G.2.1.2.1 c) H' (updV V k v) → H'.size = H.size → (∀ q, q ≠ a → H'[q]? = H[q]?) → W p G.1 e R s m args below meth c' H' (locs ++ [⟨a, j⟩]) cells slots Q (F0 m (pc + 3) ls rest)) :
    W p G.1 e R s m args below meth c' H locs cells slots Q (F0 m pc ls (v :: .ref a :: rest)) := by
  obtain ⟨hx, hbc, hown, hts, hin0, kk1, -⟩ := B
  obtain ⟨r, hr, hk, hN, hlink, hin⟩ := okF_of (mi := mi) hh
  obtain ⟨r', hr', hd⟩ := hty
  obtain rfl : r' = r := Option.some.inj (hr'.symm.trans hr)
  obtain ⟨_, _, hnm, t, hty'⟩ := uX_of hr
  obtain ⟨cell, q1, q2, q3, q4⟩ := X
  have hap := va_apart (own := RN (own mi)) hts hin t hty' hnm kk1 hr
  obtain ⟨hS, hfc, kC, hkC, hkind⟩ := kk1.1 c r' hr
  obtain ⟨cf, kf, fi, f, hi, hsl⟩ := hS k hk
  have hlay := hts _ (hin _ (u_in_lay hk))
  have hst := (u_facts hfc hkC (u_lays hts hin hk) hi).1
  have dd := ckD_all c hc9 k (by omega)
  unfold ckD at dd
  rw [hr] at dd
  simp only [Bool.and_eq_true, decide_eq_true_eq] at dd
  have fin : ∀ (H' : Heap), H'[a]? = some (cell.setSlot f.slot v) → H'.size = H.size → (∀ q, q ≠ a → H'[q]? = H[q]?) → W p G.1 e R s m args below meth c' H' (locs ++ [⟨a, f.slot⟩]) cells slots Q (F0 m (pc + 3) ls rest) := fun H' e1 e2 e3 => by
    rw [hsl] at e1
    exact kk H' _ ⟨_, e1, q2, q3, t_set (fun j hj => q4 j hj) (fun a b ha hb => hap a b (by omega) (by omega)) (by omega) v⟩ e2 e3
  by_cases hfin : (r'.2.1 k).2.2.2 = true
  · unfold u_lay at hlay
    rw [if_pos hfin] at hlay
    have hcf : m.cls = cf := by
      obtain ⟨_, _, c2, _, _, _, -, -, hf', -, -, -, hown2, -⟩ := Cond.laysFinal_spec hlay
      have e1 : c2 = cf := by have := hi.symm.trans hf'; simp at this; exact this.1.symm
      rw [dd.1, ← ho] at hown2
      rw [← e1]
      exact Option.some.inj (hown.symm.trans hown2)
    have h6 := u_fits hfc hkC hkind (Or.inr hlay) hi hd hn hft
    exact W.putFinK hx hbc hown (hts _ hlink) hi hst hcf hin0 (by rw [q2]; exact h6) q1 q3 (by rw [hsl]; exact k2_hasslot (q4 k (by omega))) rfl rfl hdg fin
  · unfold u_lay at hlay
    rw [if_neg hfin] at hlay
    have h6 := u_store hfc hkC hkind hlay hi hd hn hft
    exact W.putK hbc (hexec := hx) (f := f) ⟨hown, hts _ hlink, ⟨_, _, _, hi⟩, hst⟩ (by rw [q2]; exact h6) q1 q3 (by rw [hsl]; exact k2_hasslot (q4 k (by omega))) rfl rfl hdg fin
/-! a row of zeros -/
def zel (q : Nat × Nat) (b j : Nat) : Value := if q.1 = 11 then .long 0 else if q.1 = 14 then .null else if q.1 = 15 then .ref (b + (j + 1)) else .int 0
def celG (G : Gl) (c a k r : Nat) : Cell := arrV (G.2.1.2.2 (acd (lay c k) r)) (akk (lay c k) r).2 (zel (akk (lay c k) r) (a + (lay c k).2.2.2))
/-- how many cells the field k of class c has of its own -/
def cnt (c k : Nat) : Nat := if (lay c k).1 < 20 then 1 else 1 + (lay c k).2.1
def isAr (c k : Nat) : Bool := decide (10 ≤ (lay c k).1) && decide ((lay c k).1 < 22)
/-- the fields' cells stand in their order -/
def monB (c k k' : Nat) : Bool := !(isAr c k && isAr c k' && decide (k < k')) || decide ((lay c k).2.2.2 + cnt c k ≤ (lay c k').2.2.2)
theorem monB_all : ∀ c, c < 9 → ∀ k, k < NF c → ∀ k', k' < NF c → monB c k k' = true := by decide +kernel
theorem lay_mono (c : Nat) (hc : c < 9) (k : Nat) (hk : k < NF c) (k' : Nat) (hk' : k' < NF c) (h1 : isAr c k = true) (h2 : isAr c k' = true) (h3 : k < k') : (lay c k).2.2.2 + cnt c k ≤ (lay c k').2.2.2 := by
  have z := monB_all c hc k hk k' hk'
  unfold monB at z
  rw [h1, h2] at z
  simpa [h3] using z
theorem lay_pos : ∀ c, c < 9 → ∀ k, k < NF c → isAr c k = true → 1 ≤ (lay c k).2.2.2 := by decide +kernel
theorem arow_lt {c k r : Nat} (h : arow (lay c k) r) : r < cnt c k ∧ isAr c k = true := by
  obtain ⟨h1, h2, h3, h4⟩ := h
  unfold cnt isAr
  refine ⟨?_, by simp [h1, h2]⟩
  split
  · have := h3 (by assumption); omega
  · have := h4 (by omega); omega
theorem arow_inj {c k r k' r' : Nat} (hc : c < 9) (hk : k < NF c) (hk' : k' < NF c) (h : arow (lay c k) r) (h' : arow (lay c k') r') (e : (lay c k).2.2.2 + r = (lay c k').2.2.2 + r') : k = k' ∧ r = r' := by
  obtain ⟨a1, a2⟩ := arow_lt h
  obtain ⟨b1, b2⟩ := arow_lt h'
  rcases Nat.lt_trichotomy k k' with z | z | z
  · have := lay_mono c hc k hk k' hk' a2 b2 z; omega
  · subst z; exact ⟨rfl, by omega⟩
  · have := lay_mono c hc k' hk' k hk b2 a2 z; omega
/-- n cells of the object at a stand: itself, with its fields V, and its rows so far -/
def BE (G : Gl) (c a n : Nat) (V : Nat → Value) (H0 H : Heap) : Prop :=
  H.size = a + n ∧ (∀ q, q < a → H[q]? = H0[q]?) ∧ t_OB a (G.2.1.1 c) (NF c) (G.2.1.2.1 c) H V ∧ ∀ k r, k < NF c → arow (lay c k) r → (lay c k).2.2.2 + r < n → H[a + ((lay c k).2.2.2 + r)]? = some (celG G c a k r)
theorem arr_ext {c : ClassId} {N : Nat} {f g : Nat → Value} (h : ∀ j, j < N → f j = g j) : arrV c N f = arrV c N g := by
  unfold arrV
  congr 1
  apply Array.ext
  · simp
  · intro i h1 h2
    simp at h1
    simp [h i h1]
end BLD

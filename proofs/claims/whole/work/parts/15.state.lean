/-! 15.state: the pure state (the check's arrays, fields 2 to 38, by place), what of it a town of the class holds, what may change -/
abbrev Pt : Type := Nat → Nat → Int
def pu (P : Pt) (f i : Nat) (v : Int) : Pt := fun f' i' => if f' = f ∧ i' = i then v else P f' i'
/-- n rounds of a loop, from round 0 -/
def iter {α : Type} (st : Nat → α → α) : Nat → α → α
  | 0, a => a
  | n + 1, a => st n (iter st n a)
theorem iter_s {α : Type} (st : Nat → α → α) (n : Nat) (a : α) : iter st (n + 1) a = st n (iter st n a) := rfl
theorem iter_0 {α : Type} (st : Nat → α → α) (a : α) : iter st 0 a = a := rfl
theorem iter_inv {α : Type} {st : Nat → α → α} {I : Nat → α → Prop} {a : α} {n : Nat} (h0 : I 0 a) (hs : ∀ i b, i < n → I i b → I (i + 1) (st i b)) : I n (iter st n a) := by
  induction n with
  | zero => exact h0
  | succ m ih => exact hs m _ (Nat.lt_succ_self m) (ih (fun i b hi => hs i b (Nat.lt_succ_of_lt hi)))
theorem iter_toNat {α : Type} (st : Nat → α → α) {i : Int} (h : 0 ≤ i) (a : α) : iter st (i + 1).toNat a = st i.toNat (iter st i.toNat a) := by
  rw [show (i + 1).toNat = i.toNat + 1 by omega]; rfl
theorem pu_eq {P : Pt} {f i : Nat} {v : Int} : pu P f i v f i = v := if_pos ⟨rfl, rfl⟩
theorem pu_nf {P : Pt} {f i f' i' : Nat} {v : Int} (h : f' ≠ f) : pu P f i v f' i' = P f' i' := if_neg (fun e => h e.1)
theorem pu_ni {P : Pt} {f i f' i' : Nat} {v : Int} (h : i' ≠ i) : pu P f i v f' i' = P f' i' := if_neg (fun e => h e.2)
theorem upp_eq {σ : Mem} {o f r c : Nat} {v : Int} : up σ o f r c v o f r c = v := if_pos ⟨rfl, rfl, rfl, rfl⟩
theorem upp_no {σ : Mem} {o f r c o' f' r' c' : Nat} {v : Int} (h : o' ≠ o) : up σ o f r c v o' f' r' c' = σ o' f' r' c' := if_neg (fun e => h e.1)
theorem upp_nf {σ : Mem} {o f r c o' f' r' c' : Nat} {v : Int} (h : f' ≠ f) : up σ o f r c v o' f' r' c' = σ o' f' r' c' := if_neg (fun e => h e.2.1)
theorem upp_nr {σ : Mem} {o f r c o' f' r' c' : Nat} {v : Int} (h : r' ≠ r) : up σ o f r c v o' f' r' c' = σ o' f' r' c' := if_neg (fun e => h e.2.2.1)
theorem upp_nc {σ : Mem} {o f r c o' f' r' c' : Nat} {v : Int} (h : c' ≠ c) : up σ o f r c v o' f' r' c' = σ o' f' r' c' := if_neg (fun e => h e.2.2.2)
/-- the check holds P -/
def MR (σ : Mem) (P : Pt) : Prop := ∀ f i, 2 ≤ f → f ≤ 38 → σ 21 f 0 i = P f i
/-- nothing changes but what S names -/
def same (S : Nat → Nat → Bool) (σ σ' : Mem) : Prop := ∀ o f, S o f = false → ∀ r c, σ' o f r c = σ o f r c
theorem same.refl {S : Nat → Nat → Bool} {σ : Mem} : same S σ σ := fun _ _ _ _ _ => rfl
theorem same.trans {S : Nat → Nat → Bool} {σ σ' σ'' : Mem} (h1 : same S σ σ') (h2 : same S σ' σ'') : same S σ σ'' := fun o f h r c => (h2 o f h r c).trans (h1 o f h r c)
theorem same.mono {S S' : Nat → Nat → Bool} {σ σ' : Mem} (h1 : same S σ σ') (h : ∀ o f, S o f = true → S' o f = true) : same S' σ σ' := fun o f hf r c => h1 o f (by cases e : S o f with
  | false => rfl
  | true => rw [h o f e] at hf; cases hf) r c
theorem same.put {S : Nat → Nat → Bool} {σ σ' : Mem} {o f r c : Nat} {v : Int} (h1 : same S σ σ') (h : S o f = true) : same S σ (up σ' o f r c v) := fun o' f' hf r' c' => by
  unfold up
  rw [if_neg (fun e => by rw [e.1, e.2.1, h] at hf; cases hf)]
  exact h1 o' f' hf r' c'
theorem MR.put {σ : Mem} {P : Pt} {f i : Nat} {v : Int} (h : MR σ P) : MR (up σ 21 f 0 i v) (pu P f i v) := fun f' i' h1 h2 => by
  unfold up pu
  by_cases e : f' = f ∧ i' = i
  · rw [if_pos ⟨rfl, e.1, rfl, e.2⟩, if_pos e]
  · rw [if_neg (fun q => e ⟨q.2.1, q.2.2.2⟩), if_neg e]; exact h f' i' h1 h2
theorem MR.put2 {σ : Mem} {P : Pt} {o f r i : Nat} {v : Int} (h : MR σ P) (ho : o ≠ 21 ∨ f < 2 ∨ 38 < f) : MR (up σ o f r i v) P := fun f' i' h1 h2 => by
  unfold up
  rw [if_neg (fun q => by omega)]
  exact h f' i' h1 h2
theorem MR.keep {S : Nat → Nat → Bool} {σ σ' : Mem} {P : Pt} (h : MR σ P) (hs : same S σ σ') (hS : ∀ f, 2 ≤ f → f ≤ 38 → S 21 f = false) : MR σ' P := fun f i h1 h2 => (hs 21 f (hS f h1 h2) 0 i).trans (h f i h1 h2)
/-- where a town of the class keeps place i of the check's field f: field, row, column; how many places of it -/
def lf (f i : Nat) : Nat := if f = 2 then (if i < 6 then i + 3 else if i = 6 then 1 else 2) else if f ≤ 8 then 9 else if f ≤ 15 then 11 else if f ≤ 22 then 12 else if f ≤ 26 then 13 else if f = 27 then 15 else if f ≤ 31 then 16 else if f ≤ 33 then 17 else if f ≤ 36 then 18 else if f = 37 then 20 else 19
def lr (f i : Nat) : Nat := if f = 2 then 0 else if f = 8 then i / 6 + 1 else if f = 27 then i / 12 + 1 else if f = 38 then i / 12 + 1 else if f = 37 then 0 else i + 1
def lc (f i : Nat) : Nat := if f = 2 then 0 else if f = 3 then 8 else if f = 4 then 9 else if f = 5 then 6 else if f = 6 then 7 else if f = 7 then 10 else if f = 8 then i % 6 else if f ≤ 15 then f - 9 else if f ≤ 22 then f - 16 else if f ≤ 26 then f - 25 else if f = 27 then i % 12 else if f ≤ 31 then f - 28 else if f ≤ 33 then f - 32 else if f ≤ 36 then f - 34 else if f = 37 then i else i % 12
def ln (f : Nat) : Nat := if f < 2 then 0 else if f = 2 then 8 else if f ≤ 7 then 12 else if f = 8 then 72 else if f ≤ 15 then 40 else if f ≤ 22 then 12 else if f ≤ 24 then 0 else if f ≤ 26 then 20 else if f = 27 then 144 else if f ≤ 33 then 6 else if f ≤ 36 then 5 else if f = 37 then 12 else if f = 38 then 144 else 0
def ivf (F c : Nat) : Nat := if F = 9 then (if c < 6 then 8 else if c = 6 then 5 else if c = 7 then 6 else if c = 8 then 3 else if c = 9 then 4 else 7) else if F = 11 then 9 + c else if F = 12 then 16 + c else if F = 13 then 25 + c else if F = 15 then 27 else if F = 16 then 28 + c else if F = 17 then 32 + c else if F = 18 then 34 + c else if F = 20 then 37 else if F = 19 then 38 else 2
def ivi (F r c : Nat) : Nat := if F = 9 then (if c < 6 then 6 * (r - 1) + c else r - 1) else if F = 15 then 12 * (r - 1) + c else if F = 19 then 12 * (r - 1) + c else if F = 20 then c else if F = 1 then 6 else if F = 2 then 7 else if F < 9 then F - 3 else r - 1
set_option maxRecDepth 100000 in
theorem iv_all : ∀ f : Nat, f < 39 → ∀ i : Nat, i < 144 → (i < ln f → ivf (lf f i) (lc f i) = f ∧ ivi (lf f i) (lr f i) (lc f i) = i) := by decide +kernel
theorem ln_39 {f i : Nat} (h : i < ln f) : f < 39 ∧ i < 144 := by
  unfold ln at h
  (repeat' split at h) <;> omega
theorem l_inj {f i f' i' : Nat} (h : i < ln f) (h' : i' < ln f') (e1 : lf f' i' = lf f i) (e2 : lr f' i' = lr f i) (e3 : lc f' i' = lc f i) : f' = f ∧ i' = i := by
  obtain ⟨a1, a2⟩ := iv_all f (ln_39 h).1 i (ln_39 h).2 h
  obtain ⟨b1, b2⟩ := iv_all f' (ln_39 h').1 i' (ln_39 h').2 h'
  rw [e1, e3, a1] at b1
  rw [e1, e2, e3, a2] at b2
  exact ⟨b1.symm, b2.symm⟩
/-- a town t of the class holds P (what it gave, only if g) -/
def RT (g : Prop) (σ : Mem) (t : Nat) (P : Pt) : Prop := ∀ f i, i < ln f → (f = 38 → g) → σ t (lf f i) (lr f i) (lc f i) = P f i
section RTS
variable {g : Prop} {σ σ' : Mem} {t : Nat} {P : Pt}
theorem RT.houses (R : RT g σ t P) : σ t 3 0 0 = P 2 0 := R 2 0 (by decide) (fun e => absurd e (by decide))
theorem RT.needs (R : RT g σ t P) : σ t 4 0 0 = P 2 1 := R 2 1 (by decide) (fun e => absurd e (by decide))
theorem RT.makers (R : RT g σ t P) : σ t 5 0 0 = P 2 2 := R 2 2 (by decide) (fun e => absurd e (by decide))
theorem RT.cables (R : RT g σ t P) : σ t 6 0 0 = P 2 3 := R 2 3 (by decide) (fun e => absurd e (by decide))
theorem RT.items (R : RT g σ t P) : σ t 7 0 0 = P 2 4 := R 2 4 (by decide) (fun e => absurd e (by decide))
theorem RT.ends (R : RT g σ t P) : σ t 8 0 0 = P 2 5 := R 2 5 (by decide) (fun e => absurd e (by decide))
theorem RT.now (R : RT g σ t P) : σ t 1 0 0 = P 2 6 := R 2 6 (by decide) (fun e => absurd e (by decide))
theorem RT.said (R : RT g σ t P) : σ t 2 0 0 = P 2 7 := R 2 7 (by decide) (fun e => absurd e (by decide))
theorem RT.store (R : RT g σ t P) {h c : Nat} (h1 : h < 12) (h2 : c < 6) : σ t 9 (h + 1) c = P 8 (6 * h + c) := by
  have e := R 8 (6 * h + c) (show 6 * h + c < 72 by omega) (fun e => absurd e (by decide))
  rw [show lf 8 (6 * h + c) = 9 from rfl, show lr 8 (6 * h + c) = h + 1 by show (6 * h + c) / 6 + 1 = h + 1; omega, show lc 8 (6 * h + c) = c by show (6 * h + c) % 6 = c; omega] at e
  exact e
theorem RT.people (R : RT g σ t P) {h : Nat} (h1 : h < 12) : σ t 9 (h + 1) 6 = P 5 h := R 5 h h1 (fun e => absurd e (by decide))
theorem RT.isBack (R : RT g σ t P) {h : Nat} (h1 : h < 12) : σ t 9 (h + 1) 7 = P 6 h := R 6 h h1 (fun e => absurd e (by decide))
theorem RT.x (R : RT g σ t P) {h : Nat} (h1 : h < 12) : σ t 9 (h + 1) 8 = P 3 h := R 3 h h1 (fun e => absurd e (by decide))
theorem RT.y (R : RT g σ t P) {h : Nat} (h1 : h < 12) : σ t 9 (h + 1) 9 = P 4 h := R 4 h h1 (fun e => absurd e (by decide))
theorem RT.odds (R : RT g σ t P) {h : Nat} (h1 : h < 12) : σ t 9 (h + 1) 10 = P 7 h := R 7 h h1 (fun e => absurd e (by decide))
theorem RT.need0 (R : RT g σ t P) {n : Nat} (h1 : n < 40) : σ t 11 (n + 1) 0 = P 9 n := R 9 n h1 (fun e => absurd e (by decide))
theorem RT.need1 (R : RT g σ t P) {n : Nat} (h1 : n < 40) : σ t 11 (n + 1) 1 = P 10 n := R 10 n h1 (fun e => absurd e (by decide))
theorem RT.need2 (R : RT g σ t P) {n : Nat} (h1 : n < 40) : σ t 11 (n + 1) 2 = P 11 n := R 11 n h1 (fun e => absurd e (by decide))
theorem RT.need3 (R : RT g σ t P) {n : Nat} (h1 : n < 40) : σ t 11 (n + 1) 3 = P 12 n := R 12 n h1 (fun e => absurd e (by decide))
theorem RT.need4 (R : RT g σ t P) {n : Nat} (h1 : n < 40) : σ t 11 (n + 1) 4 = P 13 n := R 13 n h1 (fun e => absurd e (by decide))
theorem RT.need5 (R : RT g σ t P) {n : Nat} (h1 : n < 40) : σ t 11 (n + 1) 5 = P 14 n := R 14 n h1 (fun e => absurd e (by decide))
theorem RT.need6 (R : RT g σ t P) {n : Nat} (h1 : n < 40) : σ t 11 (n + 1) 6 = P 15 n := R 15 n h1 (fun e => absurd e (by decide))
theorem RT.maker0 (R : RT g σ t P) {n : Nat} (h1 : n < 12) : σ t 12 (n + 1) 0 = P 16 n := R 16 n h1 (fun e => absurd e (by decide))
theorem RT.maker1 (R : RT g σ t P) {n : Nat} (h1 : n < 12) : σ t 12 (n + 1) 1 = P 17 n := R 17 n h1 (fun e => absurd e (by decide))
theorem RT.maker2 (R : RT g σ t P) {n : Nat} (h1 : n < 12) : σ t 12 (n + 1) 2 = P 18 n := R 18 n h1 (fun e => absurd e (by decide))
theorem RT.maker3 (R : RT g σ t P) {n : Nat} (h1 : n < 12) : σ t 12 (n + 1) 3 = P 19 n := R 19 n h1 (fun e => absurd e (by decide))
theorem RT.maker4 (R : RT g σ t P) {n : Nat} (h1 : n < 12) : σ t 12 (n + 1) 4 = P 20 n := R 20 n h1 (fun e => absurd e (by decide))
theorem RT.maker5 (R : RT g σ t P) {n : Nat} (h1 : n < 12) : σ t 12 (n + 1) 5 = P 21 n := R 21 n h1 (fun e => absurd e (by decide))
theorem RT.maker6 (R : RT g σ t P) {n : Nat} (h1 : n < 12) : σ t 12 (n + 1) 6 = P 22 n := R 22 n h1 (fun e => absurd e (by decide))
theorem RT.cable0 (R : RT g σ t P) {n : Nat} (h1 : n < 20) : σ t 13 (n + 1) 0 = P 25 n := R 25 n h1 (fun e => absurd e (by decide))
theorem RT.cable1 (R : RT g σ t P) {n : Nat} (h1 : n < 20) : σ t 13 (n + 1) 1 = P 26 n := R 26 n h1 (fun e => absurd e (by decide))
theorem RT.item0 (R : RT g σ t P) {n : Nat} (h1 : n < 6) : σ t 16 (n + 1) 0 = P 28 n := R 28 n h1 (fun e => absurd e (by decide))
theorem RT.item1 (R : RT g σ t P) {n : Nat} (h1 : n < 6) : σ t 16 (n + 1) 1 = P 29 n := R 29 n h1 (fun e => absurd e (by decide))
theorem RT.item2 (R : RT g σ t P) {n : Nat} (h1 : n < 6) : σ t 16 (n + 1) 2 = P 30 n := R 30 n h1 (fun e => absurd e (by decide))
theorem RT.item3 (R : RT g σ t P) {n : Nat} (h1 : n < 6) : σ t 16 (n + 1) 3 = P 31 n := R 31 n h1 (fun e => absurd e (by decide))
theorem RT.end0 (R : RT g σ t P) {n : Nat} (h1 : n < 6) : σ t 17 (n + 1) 0 = P 32 n := R 32 n h1 (fun e => absurd e (by decide))
theorem RT.end1 (R : RT g σ t P) {n : Nat} (h1 : n < 6) : σ t 17 (n + 1) 1 = P 33 n := R 33 n h1 (fun e => absurd e (by decide))
theorem RT.turner0 (R : RT g σ t P) {n : Nat} (h1 : n < 5) : σ t 18 (n + 1) 0 = P 34 n := R 34 n h1 (fun e => absurd e (by decide))
theorem RT.turner1 (R : RT g σ t P) {n : Nat} (h1 : n < 5) : σ t 18 (n + 1) 1 = P 35 n := R 35 n h1 (fun e => absurd e (by decide))
theorem RT.turner2 (R : RT g σ t P) {n : Nat} (h1 : n < 5) : σ t 18 (n + 1) 2 = P 36 n := R 36 n h1 (fun e => absurd e (by decide))
theorem RT.tie (R : RT g σ t P) {a b : Nat} (h1 : a < 12) (h2 : b < 12) : σ t 15 (a + 1) b = P 27 (12 * a + b) := by
  have e := R 27 (12 * a + b) (show 12 * a + b < 144 by omega) (fun e => absurd e (by decide))
  rw [show lf 27 (12 * a + b) = 15 from rfl, show lr 27 (12 * a + b) = a + 1 by show (12 * a + b) / 12 + 1 = a + 1; omega, show lc 27 (12 * a + b) = b by show (12 * a + b) % 12 = b; omega] at e
  exact e
theorem RT.gave (R : RT g σ t P) (hg : g) {a b : Nat} (h1 : a < 12) (h2 : b < 12) : σ t 19 (a + 1) b = P 38 (12 * a + b) := by
  have e := R 38 (12 * a + b) (show 12 * a + b < 144 by omega) (fun _ => hg)
  rw [show lf 38 (12 * a + b) = 19 from rfl, show lr 38 (12 * a + b) = a + 1 by show (12 * a + b) / 12 + 1 = a + 1; omega, show lc 38 (12 * a + b) = b by show (12 * a + b) % 12 = b; omega] at e
  exact e
theorem RT.harm (R : RT g σ t P) {h : Nat} (h1 : h < 12) : σ t 20 0 h = P 37 h := R 37 h h1 (fun e => absurd e (by decide))
/-- what is not the town's changes nothing -/
theorem RT.put2 (R : RT g σ t P) {o f r c : Nat} {v : Int} (ho : t ≠ o) : RT g (up σ o f r c v) t P := fun f' i h hg => (upp_no ho).trans (R f' i h hg)
theorem lf_pos {f i : Nat} (h : i < ln f) : 1 ≤ lf f i ∧ lf f i ≤ 20 ∧ lf f i ≠ 10 ∧ lf f i ≠ 14 := by
  have q : ∀ f : Nat, f < 39 → ∀ i : Nat, i < 144 → (i < ln f → 1 ≤ lf f i ∧ lf f i ≤ 20 ∧ lf f i ≠ 10 ∧ lf f i ≠ 14) := by decide +kernel
  exact q f (ln_39 h).1 i (ln_39 h).2 h
/-- nor what it keeps beside: near, wire -/
theorem RT.put3 (R : RT g σ t P) {f r c : Nat} {v : Int} (hf : f = 10 ∨ f = 14) : RT g (up σ t f r c v) t P := fun f' i h hg => (upp_nf (by have := lf_pos h; omega)).trans (R f' i h hg)
theorem RT.keep (R : RT g σ t P) {S : Nat → Nat → Bool} (hs : same S σ σ') (hS : ∀ f, f < 21 → S t f = false) : RT g σ' t P := fun f i h hg => (hs t _ (hS _ (by have := lf_pos h; omega)) _ _).trans (R f i h hg)
theorem RT.weak (R : RT g σ t P) {g' : Prop} (h : g' → g) : RT g' σ t P := fun f i hi hg => R f i hi (fun e => h (hg e))
theorem RT.putg (R : RT g σ t P) {f i : Nat} (h : i < ln f) {v : Int} : RT g (up σ t (lf f i) (lr f i) (lc f i) v) t (pu P f i v) := fun f' i' h' hg => by
  unfold up pu
  by_cases e : f' = f ∧ i' = i
  · rw [e.1, e.2, if_pos ⟨rfl, rfl, rfl, rfl⟩, if_pos ⟨rfl, rfl⟩]
  · rw [if_neg (fun q => e (l_inj h h' q.2.1 q.2.2.1 q.2.2.2)), if_neg e]; exact R f' i' h' hg
theorem RT.u_houses (R : RT g σ t P) {v : Int} : RT g (up σ t 3 0 0 v) t (pu P 2 0 v) := R.putg (f := 2) (i := 0) (by decide)
theorem RT.u_needs (R : RT g σ t P) {v : Int} : RT g (up σ t 4 0 0 v) t (pu P 2 1 v) := R.putg (f := 2) (i := 1) (by decide)
theorem RT.u_makers (R : RT g σ t P) {v : Int} : RT g (up σ t 5 0 0 v) t (pu P 2 2 v) := R.putg (f := 2) (i := 2) (by decide)
theorem RT.u_cables (R : RT g σ t P) {v : Int} : RT g (up σ t 6 0 0 v) t (pu P 2 3 v) := R.putg (f := 2) (i := 3) (by decide)
theorem RT.u_items (R : RT g σ t P) {v : Int} : RT g (up σ t 7 0 0 v) t (pu P 2 4 v) := R.putg (f := 2) (i := 4) (by decide)
theorem RT.u_ends (R : RT g σ t P) {v : Int} : RT g (up σ t 8 0 0 v) t (pu P 2 5 v) := R.putg (f := 2) (i := 5) (by decide)
theorem RT.u_now (R : RT g σ t P) {v : Int} : RT g (up σ t 1 0 0 v) t (pu P 2 6 v) := R.putg (f := 2) (i := 6) (by decide)
theorem RT.u_said (R : RT g σ t P) {v : Int} : RT g (up σ t 2 0 0 v) t (pu P 2 7 v) := R.putg (f := 2) (i := 7) (by decide)
theorem RT.u_people (R : RT g σ t P) {h : Nat} {v : Int} (h1 : h < 12) : RT g (up σ t 9 (h + 1) 6 v) t (pu P 5 h v) := R.putg (f := 5) (i := h) h1
theorem RT.u_isBack (R : RT g σ t P) {h : Nat} {v : Int} (h1 : h < 12) : RT g (up σ t 9 (h + 1) 7 v) t (pu P 6 h v) := R.putg (f := 6) (i := h) h1
theorem RT.u_x (R : RT g σ t P) {h : Nat} {v : Int} (h1 : h < 12) : RT g (up σ t 9 (h + 1) 8 v) t (pu P 3 h v) := R.putg (f := 3) (i := h) h1
theorem RT.u_y (R : RT g σ t P) {h : Nat} {v : Int} (h1 : h < 12) : RT g (up σ t 9 (h + 1) 9 v) t (pu P 4 h v) := R.putg (f := 4) (i := h) h1
theorem RT.u_odds (R : RT g σ t P) {h : Nat} {v : Int} (h1 : h < 12) : RT g (up σ t 9 (h + 1) 10 v) t (pu P 7 h v) := R.putg (f := 7) (i := h) h1
theorem RT.u_need0 (R : RT g σ t P) {n : Nat} {v : Int} (h1 : n < 40) : RT g (up σ t 11 (n + 1) 0 v) t (pu P 9 n v) := R.putg (f := 9) (i := n) h1
theorem RT.u_need1 (R : RT g σ t P) {n : Nat} {v : Int} (h1 : n < 40) : RT g (up σ t 11 (n + 1) 1 v) t (pu P 10 n v) := R.putg (f := 10) (i := n) h1
theorem RT.u_need2 (R : RT g σ t P) {n : Nat} {v : Int} (h1 : n < 40) : RT g (up σ t 11 (n + 1) 2 v) t (pu P 11 n v) := R.putg (f := 11) (i := n) h1
theorem RT.u_need3 (R : RT g σ t P) {n : Nat} {v : Int} (h1 : n < 40) : RT g (up σ t 11 (n + 1) 3 v) t (pu P 12 n v) := R.putg (f := 12) (i := n) h1
theorem RT.u_need4 (R : RT g σ t P) {n : Nat} {v : Int} (h1 : n < 40) : RT g (up σ t 11 (n + 1) 4 v) t (pu P 13 n v) := R.putg (f := 13) (i := n) h1
theorem RT.u_need5 (R : RT g σ t P) {n : Nat} {v : Int} (h1 : n < 40) : RT g (up σ t 11 (n + 1) 5 v) t (pu P 14 n v) := R.putg (f := 14) (i := n) h1
theorem RT.u_need6 (R : RT g σ t P) {n : Nat} {v : Int} (h1 : n < 40) : RT g (up σ t 11 (n + 1) 6 v) t (pu P 15 n v) := R.putg (f := 15) (i := n) h1
theorem RT.u_maker0 (R : RT g σ t P) {n : Nat} {v : Int} (h1 : n < 12) : RT g (up σ t 12 (n + 1) 0 v) t (pu P 16 n v) := R.putg (f := 16) (i := n) h1
theorem RT.u_maker1 (R : RT g σ t P) {n : Nat} {v : Int} (h1 : n < 12) : RT g (up σ t 12 (n + 1) 1 v) t (pu P 17 n v) := R.putg (f := 17) (i := n) h1
theorem RT.u_maker2 (R : RT g σ t P) {n : Nat} {v : Int} (h1 : n < 12) : RT g (up σ t 12 (n + 1) 2 v) t (pu P 18 n v) := R.putg (f := 18) (i := n) h1
theorem RT.u_maker3 (R : RT g σ t P) {n : Nat} {v : Int} (h1 : n < 12) : RT g (up σ t 12 (n + 1) 3 v) t (pu P 19 n v) := R.putg (f := 19) (i := n) h1
theorem RT.u_maker4 (R : RT g σ t P) {n : Nat} {v : Int} (h1 : n < 12) : RT g (up σ t 12 (n + 1) 4 v) t (pu P 20 n v) := R.putg (f := 20) (i := n) h1
theorem RT.u_maker5 (R : RT g σ t P) {n : Nat} {v : Int} (h1 : n < 12) : RT g (up σ t 12 (n + 1) 5 v) t (pu P 21 n v) := R.putg (f := 21) (i := n) h1
theorem RT.u_maker6 (R : RT g σ t P) {n : Nat} {v : Int} (h1 : n < 12) : RT g (up σ t 12 (n + 1) 6 v) t (pu P 22 n v) := R.putg (f := 22) (i := n) h1
theorem RT.u_cable0 (R : RT g σ t P) {n : Nat} {v : Int} (h1 : n < 20) : RT g (up σ t 13 (n + 1) 0 v) t (pu P 25 n v) := R.putg (f := 25) (i := n) h1
theorem RT.u_cable1 (R : RT g σ t P) {n : Nat} {v : Int} (h1 : n < 20) : RT g (up σ t 13 (n + 1) 1 v) t (pu P 26 n v) := R.putg (f := 26) (i := n) h1
theorem RT.u_item0 (R : RT g σ t P) {n : Nat} {v : Int} (h1 : n < 6) : RT g (up σ t 16 (n + 1) 0 v) t (pu P 28 n v) := R.putg (f := 28) (i := n) h1
theorem RT.u_item1 (R : RT g σ t P) {n : Nat} {v : Int} (h1 : n < 6) : RT g (up σ t 16 (n + 1) 1 v) t (pu P 29 n v) := R.putg (f := 29) (i := n) h1
theorem RT.u_item2 (R : RT g σ t P) {n : Nat} {v : Int} (h1 : n < 6) : RT g (up σ t 16 (n + 1) 2 v) t (pu P 30 n v) := R.putg (f := 30) (i := n) h1
theorem RT.u_item3 (R : RT g σ t P) {n : Nat} {v : Int} (h1 : n < 6) : RT g (up σ t 16 (n + 1) 3 v) t (pu P 31 n v) := R.putg (f := 31) (i := n) h1
theorem RT.u_end0 (R : RT g σ t P) {n : Nat} {v : Int} (h1 : n < 6) : RT g (up σ t 17 (n + 1) 0 v) t (pu P 32 n v) := R.putg (f := 32) (i := n) h1
theorem RT.u_end1 (R : RT g σ t P) {n : Nat} {v : Int} (h1 : n < 6) : RT g (up σ t 17 (n + 1) 1 v) t (pu P 33 n v) := R.putg (f := 33) (i := n) h1
theorem RT.u_turner0 (R : RT g σ t P) {n : Nat} {v : Int} (h1 : n < 5) : RT g (up σ t 18 (n + 1) 0 v) t (pu P 34 n v) := R.putg (f := 34) (i := n) h1
theorem RT.u_turner1 (R : RT g σ t P) {n : Nat} {v : Int} (h1 : n < 5) : RT g (up σ t 18 (n + 1) 1 v) t (pu P 35 n v) := R.putg (f := 35) (i := n) h1
theorem RT.u_turner2 (R : RT g σ t P) {n : Nat} {v : Int} (h1 : n < 5) : RT g (up σ t 18 (n + 1) 2 v) t (pu P 36 n v) := R.putg (f := 36) (i := n) h1
theorem RT.u_harm (R : RT g σ t P) {h : Nat} {v : Int} (h1 : h < 12) : RT g (up σ t 20 0 h v) t (pu P 37 h v) := R.putg (f := 37) (i := h) h1
theorem RT.u_store (R : RT g σ t P) {a b : Nat} {v : Int} (h1 : a < 12) (h2 : b < 6) : RT g (up σ t 9 (a + 1) b v) t (pu P 8 (6 * a + b) v) := by
  have e := R.putg (f := 8) (i := 6 * a + b) (show 6 * a + b < 72 by omega) (v := v)
  rw [show lf 8 (6 * a + b) = 9 from rfl, show lr 8 (6 * a + b) = a + 1 by show (6 * a + b) / 6 + 1 = a + 1; omega, show lc 8 (6 * a + b) = b by show (6 * a + b) % 6 = b; omega] at e
  exact e
theorem RT.u_tie (R : RT g σ t P) {a b : Nat} {v : Int} (h1 : a < 12) (h2 : b < 12) : RT g (up σ t 15 (a + 1) b v) t (pu P 27 (12 * a + b) v) := by
  have e := R.putg (f := 27) (i := 12 * a + b) (show 12 * a + b < 144 by omega) (v := v)
  rw [show lf 27 (12 * a + b) = 15 from rfl, show lr 27 (12 * a + b) = a + 1 by show (12 * a + b) / 12 + 1 = a + 1; omega, show lc 27 (12 * a + b) = b by show (12 * a + b) % 12 = b; omega] at e
  exact e
theorem RT.u_gave (R : RT g σ t P) {a b : Nat} {v : Int} (h1 : a < 12) (h2 : b < 12) : RT g (up σ t 19 (a + 1) b v) t (pu P 38 (12 * a + b) v) := by
  have e := R.putg (f := 38) (i := 12 * a + b) (show 12 * a + b < 144 by omega) (v := v)
  rw [show lf 38 (12 * a + b) = 19 from rfl, show lr 38 (12 * a + b) = a + 1 by show (12 * a + b) / 12 + 1 = a + 1; omega, show lc 38 (12 * a + b) = b by show (12 * a + b) % 12 = b; omega] at e
  exact e
theorem RT.storeI (R : RT g σ t P) {h c : Int} (h1 : 0 ≤ h ∧ h < 12) (h2 : 0 ≤ c ∧ c < 6) : σ t 9 (h.toNat + 1) c.toNat = P 8 (6 * h + c).toNat := by
  rw [R.store (by omega) (by omega), show (6 * h + c).toNat = 6 * h.toNat + c.toNat by omega]
theorem RT.tieI (R : RT g σ t P) {a b : Int} (h1 : 0 ≤ a ∧ a < 12) (h2 : 0 ≤ b ∧ b < 12) : σ t 15 (a.toNat + 1) b.toNat = P 27 (12 * a + b).toNat := by
  rw [R.tie (by omega) (by omega), show (12 * a + b).toNat = 12 * a.toNat + b.toNat by omega]
theorem RT.gaveI (R : RT g σ t P) (hg : g) {a b : Int} (h1 : 0 ≤ a ∧ a < 12) (h2 : 0 ≤ b ∧ b < 12) : σ t 19 (a.toNat + 1) b.toNat = P 38 (12 * a + b).toNat := by
  rw [R.gave hg (by omega) (by omega), show (12 * a + b).toNat = 12 * a.toNat + b.toNat by omega]
theorem RT.u_storeI (R : RT g σ t P) {h c v : Int} (h1 : 0 ≤ h ∧ h < 12) (h2 : 0 ≤ c ∧ c < 6) : RT g (up σ t 9 (h.toNat + 1) c.toNat v) t (pu P 8 (6 * h + c).toNat v) := by
  rw [show (6 * h + c).toNat = 6 * h.toNat + c.toNat by omega]; exact R.u_store (by omega) (by omega)
theorem RT.u_tieI (R : RT g σ t P) {a b v : Int} (h1 : 0 ≤ a ∧ a < 12) (h2 : 0 ≤ b ∧ b < 12) : RT g (up σ t 15 (a.toNat + 1) b.toNat v) t (pu P 27 (12 * a + b).toNat v) := by
  rw [show (12 * a + b).toNat = 12 * a.toNat + b.toNat by omega]; exact R.u_tie (by omega) (by omega)
theorem RT.u_gaveI (R : RT g σ t P) {a b v : Int} (h1 : 0 ≤ a ∧ a < 12) (h2 : 0 ≤ b ∧ b < 12) : RT g (up σ t 19 (a.toNat + 1) b.toNat v) t (pu P 38 (12 * a + b).toNat v) := by
  rw [show (12 * a + b).toNat = 12 * a.toNat + b.toNat by omega]; exact R.u_gave (by omega) (by omega)
end RTS
theorem up_rd {σ : Mem} {o f r c o' f' r' c' : Nat} {v : Int} : up σ o f r c v o' f' r' c' = if o' = o ∧ f' = f ∧ r' = r ∧ c' = c then v else σ o' f' r' c' := rfl
/-- what ranges the told things keep -/
def WF (P : Pt) : Prop :=
  ((0 ≤ P 2 0 ∧ P 2 0 ≤ 12) ∧ (0 ≤ P 2 1 ∧ P 2 1 ≤ 40) ∧ (0 ≤ P 2 2 ∧ P 2 2 ≤ 12) ∧ (0 ≤ P 2 3 ∧ P 2 3 ≤ 20) ∧ (0 ≤ P 2 4 ∧ P 2 4 ≤ 6) ∧ (0 ≤ P 2 5 ∧ P 2 5 ≤ 6) ∧ 0 ≤ P 2 6 ∧ (-1 ≤ P 2 7 ∧ P 2 7 ≤ 99999)) ∧
  (∀ h, h < 12 → (0 ≤ P 3 h ∧ P 3 h ≤ 99) ∧ (0 ≤ P 4 h ∧ P 4 h ≤ 99) ∧ (0 ≤ P 5 h ∧ P 5 h ≤ 9) ∧ (0 ≤ P 6 h ∧ P 6 h ≤ 1) ∧ (0 ≤ P 7 h ∧ P 7 h ≤ 1000)) ∧
  (∀ i, i < 72 → 0 ≤ P 8 i ∧ P 8 i ≤ 99999) ∧
  (∀ n : Nat, (n : Int) < P 2 1 → (0 ≤ P 9 n ∧ P 9 n < P 2 0) ∧ (0 ≤ P 10 n ∧ P 10 n ≤ 5) ∧ (1 ≤ P 11 n ∧ P 11 n ≤ 999) ∧ (0 ≤ P 12 n ∧ P 12 n ≤ 999) ∧ (0 ≤ P 13 n ∧ P 13 n ≤ 95) ∧ (0 ≤ P 14 n ∧ P 14 n ≤ 95) ∧ (0 ≤ P 15 n ∧ P 15 n ≤ 1)) ∧
  (∀ n : Nat, (n : Int) < P 2 2 → (0 ≤ P 16 n ∧ P 16 n < P 2 0) ∧ (0 ≤ P 17 n ∧ P 17 n ≤ 5) ∧ (0 ≤ P 18 n ∧ P 18 n ≤ 999) ∧ (0 ≤ P 19 n ∧ P 19 n ≤ 5) ∧ P 17 n ≠ P 19 n ∧ (1 ≤ P 20 n ∧ P 20 n ≤ 999) ∧ (0 ≤ P 21 n ∧ P 21 n ≤ 99) ∧ (0 ≤ P 22 n ∧ P 22 n ≤ 1)) ∧
  (∀ n : Nat, (n : Int) < P 2 3 → (0 ≤ P 23 n ∧ P 23 n < P 2 0) ∧ (0 ≤ P 24 n ∧ P 24 n < P 2 0) ∧ P 23 n ≠ P 24 n ∧ (1 ≤ P 25 n ∧ P 25 n ≤ 9999) ∧ (0 ≤ P 26 n ∧ P 26 n ≤ P 25 n)) ∧
  (∀ n : Nat, P 2 3 ≤ (n : Int) → P 26 n = 0) ∧
  (∀ i, i < 144 → 0 ≤ P 27 i ∧ P 27 i ≤ 9) ∧
  (∀ n : Nat, (n : Int) < P 2 4 → (0 ≤ P 28 n ∧ P 28 n < P 2 0) ∧ (0 ≤ P 29 n ∧ P 29 n ≤ 5) ∧ (1 ≤ P 30 n ∧ P 30 n ≤ 99999) ∧ (0 ≤ P 31 n ∧ P 31 n ≤ 9999)) ∧
  (∀ n : Nat, (n : Int) < P 2 5 → (0 ≤ P 32 n ∧ P 32 n ≤ 99999) ∧ (1 ≤ P 33 n ∧ P 33 n ≤ 999)) ∧
  (∀ n, n < 5 → (0 ≤ P 34 n ∧ P 34 n ≤ 20) ∧ (0 ≤ P 35 n ∧ P 35 n ≤ 20) ∧ (0 ≤ P 36 n ∧ P 36 n ≤ 999))
section WFS
variable {P : Pt}
theorem WF.sc (h : WF P) : ((0 ≤ P 2 0 ∧ P 2 0 ≤ 12) ∧ (0 ≤ P 2 1 ∧ P 2 1 ≤ 40) ∧ (0 ≤ P 2 2 ∧ P 2 2 ≤ 12) ∧ (0 ≤ P 2 3 ∧ P 2 3 ≤ 20) ∧ (0 ≤ P 2 4 ∧ P 2 4 ≤ 6) ∧ (0 ≤ P 2 5 ∧ P 2 5 ≤ 6) ∧ 0 ≤ P 2 6 ∧ (-1 ≤ P 2 7 ∧ P 2 7 ≤ 99999)) := h.1
theorem WF.hs (h : WF P) {n : Nat} (hn : n < 12) : (0 ≤ P 3 n ∧ P 3 n ≤ 99) ∧ (0 ≤ P 4 n ∧ P 4 n ≤ 99) ∧ (0 ≤ P 5 n ∧ P 5 n ≤ 9) ∧ (0 ≤ P 6 n ∧ P 6 n ≤ 1) ∧ (0 ≤ P 7 n ∧ P 7 n ≤ 1000) := h.2.1 n hn
theorem WF.st (h : WF P) {n : Nat} (hn : n < 72) : 0 ≤ P 8 n ∧ P 8 n ≤ 99999 := h.2.2.1 n hn
theorem WF.nd (h : WF P) {n : Nat} (hn : (n : Int) < P 2 1) : (0 ≤ P 9 n ∧ P 9 n < P 2 0) ∧ (0 ≤ P 10 n ∧ P 10 n ≤ 5) ∧ (1 ≤ P 11 n ∧ P 11 n ≤ 999) ∧ (0 ≤ P 12 n ∧ P 12 n ≤ 999) ∧ (0 ≤ P 13 n ∧ P 13 n ≤ 95) ∧ (0 ≤ P 14 n ∧ P 14 n ≤ 95) ∧ (0 ≤ P 15 n ∧ P 15 n ≤ 1) := h.2.2.2.1 n hn
theorem WF.mk (h : WF P) {n : Nat} (hn : (n : Int) < P 2 2) : (0 ≤ P 16 n ∧ P 16 n < P 2 0) ∧ (0 ≤ P 17 n ∧ P 17 n ≤ 5) ∧ (0 ≤ P 18 n ∧ P 18 n ≤ 999) ∧ (0 ≤ P 19 n ∧ P 19 n ≤ 5) ∧ P 17 n ≠ P 19 n ∧ (1 ≤ P 20 n ∧ P 20 n ≤ 999) ∧ (0 ≤ P 21 n ∧ P 21 n ≤ 99) ∧ (0 ≤ P 22 n ∧ P 22 n ≤ 1) := h.2.2.2.2.1 n hn
theorem WF.cb (h : WF P) {n : Nat} (hn : (n : Int) < P 2 3) : (0 ≤ P 23 n ∧ P 23 n < P 2 0) ∧ (0 ≤ P 24 n ∧ P 24 n < P 2 0) ∧ P 23 n ≠ P 24 n ∧ (1 ≤ P 25 n ∧ P 25 n ≤ 9999) ∧ (0 ≤ P 26 n ∧ P 26 n ≤ P 25 n) := h.2.2.2.2.2.1 n hn
theorem WF.c0 (h : WF P) {n : Nat} (hn : P 2 3 ≤ (n : Int)) : P 26 n = 0 := h.2.2.2.2.2.2.1 n hn
theorem WF.ti (h : WF P) {n : Nat} (hn : n < 144) : 0 ≤ P 27 n ∧ P 27 n ≤ 9 := h.2.2.2.2.2.2.2.1 n hn
theorem WF.it (h : WF P) {n : Nat} (hn : (n : Int) < P 2 4) : (0 ≤ P 28 n ∧ P 28 n < P 2 0) ∧ (0 ≤ P 29 n ∧ P 29 n ≤ 5) ∧ (1 ≤ P 30 n ∧ P 30 n ≤ 99999) ∧ (0 ≤ P 31 n ∧ P 31 n ≤ 9999) := h.2.2.2.2.2.2.2.2.1 n hn
theorem WF.en (h : WF P) {n : Nat} (hn : (n : Int) < P 2 5) : (0 ≤ P 32 n ∧ P 32 n ≤ 99999) ∧ (1 ≤ P 33 n ∧ P 33 n ≤ 999) := h.2.2.2.2.2.2.2.2.2.1 n hn
theorem WF.tu (h : WF P) {n : Nat} (hn : n < 5) : (0 ≤ P 34 n ∧ P 34 n ≤ 20) ∧ (0 ≤ P 35 n ∧ P 35 n ≤ 20) ∧ (0 ≤ P 36 n ∧ P 36 n ≤ 999) := h.2.2.2.2.2.2.2.2.2.2 n hn
end WFS
/-- how far, of the pure state -/
def farP (P : Pt) (a b : Int) : Int := ab (P 3 a.toNat) (P 3 b.toNat) + ab (P 4 a.toNat) (P 4 b.toNat)
theorem mx_ab {a b : Int} : mx (a - b) = ab a b := by unfold mx ab; split <;> omega
theorem RT.far_t {g : Prop} {σ : Mem} {t : Nat} {P : Pt} (R : RT g σ t P) {a b : Int} (h1 : 0 ≤ a ∧ a < 12) (h2 : 0 ≤ b ∧ b < 12) : farT σ t a b = farP P a b := by
  unfold farT farP
  rw [R.x (by omega), R.x (by omega), R.y (by omega), R.y (by omega), mx_ab, mx_ab]
theorem RT.xy {g : Prop} {σ : Mem} {t : Nat} {P : Pt} (R : RT g σ t P) (W : WF P) {a : Int} (h1 : 0 ≤ a ∧ a < 12) : xyT σ t a := by
  have w := W.hs (n := a.toNat) (by omega)
  unfold xyT
  rw [R.x (by omega), R.y (by omega)]
  exact ⟨h1, w.1, w.2.1⟩
theorem MR.far_m {σ : Mem} {P : Pt} (M : MR σ P) {a b : Int} : farM σ a b = farP P a b := by
  unfold farM farP
  rw [M 3 _ (by decide) (by decide), M 3 _ (by decide) (by decide), M 4 _ (by decide) (by decide), M 4 _ (by decide) (by decide)]
theorem MR.xy {σ : Mem} {P : Pt} (M : MR σ P) (W : WF P) {a : Int} (h1 : 0 ≤ a ∧ a < 12) : xyM σ a := by
  have w := W.hs (n := a.toNat) (by omega)
  unfold xyM
  rw [M 3 _ (by decide) (by decide), M 4 _ (by decide) (by decide)]
  exact ⟨h1, w.1, w.2.1⟩
theorem farP_r {P : Pt} (W : WF P) {a b : Int} (h1 : 0 ≤ a ∧ a < 12) (h2 : 0 ≤ b ∧ b < 12) : 0 ≤ farP P a b ∧ farP P a b ≤ 198 := by
  have w := W.hs (n := a.toNat) (by omega)
  have v := W.hs (n := b.toNat) (by omega)
  unfold farP ab
  (repeat' split) <;> omega

/-! 9zd.first: the memory at the start: a new street and a new check -/
def w00 : Wd := fun _ => false
theorem born0 {o : Nat} (h : born w00 o) : o = 0 ∨ o = 1 ∨ o = 2 ∨ o = 7 ∨ o = 8 ∨ o = 9 ∨ o = 10 ∨ o = 11 ∨ o = 12 ∨ o = 21 := by
  obtain ⟨h | h | h | h, h2⟩ := h
  · omega
  · omega
  · omega
  · cases h
def ofF (o : Nat) : Nat := if o = 0 then 0 else if o = 1 then 1 else if o = 2 then 163 else if o = 7 then 328 else if o = 12 then 330 else if o = 8 then 337 else if o = 9 then 341 else if o = 10 then 345 else if o = 11 then 358 else 362
def obF (ob : Nat → Nat) (A o : Nat) : Nat := if o < 22 then A + ofF o else ob o
def zonF (A y : Nat) : Nat := if y < A + 1 then 0 else if y < A + 163 then 1 else if y < A + 325 then 2 else if y < A + 328 then 0 else if y < A + 330 then 7 else if y < A + 337 then 12 else if y < A + 341 then 8 else if y < A + 345 then 9 else if y < A + 358 then 10 else if y < A + 362 then 11 else 21
/-- the memory at first -/
def σ00 : Mem := fun x f r j => if x = 7 ∧ f = 1 then (if r = 0 ∧ j = 0 then enc 7 10 0 else 0) else if x = 7 ∧ f = 9 then (if r = 0 ∧ j = 0 then enc 12 0 0 else 0) else if x = 21 ∧ f = 2 ∧ r = 0 ∧ j = 7 then -1 else Z0 (cls x) f r j
theorem ss0 {x : Nat} (h : x ≠ 7 ∧ x ≠ 21) (f r j : Nat) : σ00 x f r j = Z0 (cls x) f r j := by
  unfold σ00
  rw [if_neg (by omega), if_neg (by omega), if_neg (by omega)]
theorem ss7 {f : Nat} (h : f ≠ 1 ∧ f ≠ 9) (r j : Nat) : σ00 7 f r j = Z0 (cls 7) f r j := by
  unfold σ00
  rw [if_neg (by omega), if_neg (by omega), if_neg (by omega)]
theorem ss21 {f r j : Nat} (h : ¬ (f = 2 ∧ r = 0 ∧ j = 7)) : σ00 21 f r j = Z0 (cls 21) f r j := by
  unfold σ00
  rw [if_neg (by omega), if_neg (by omega), if_neg (by omega)]
theorem wf00 : wfσ σ00 := fun x f r j => by
  have e1 : enc 7 10 0 = 648 := by decide
  have e2 : enc 12 0 0 = 13 := by decide
  have z : -1 ≤ σ00 x f r j ∧ σ00 x f r j ≤ 648 := by
    unfold σ00
    have y := Z0_rng (cls x) f r j
    rw [e1, e2]
    repeat' split
    all_goals omega
  exact ⟨fun _ => by unfold I64; omega, fun _ => by unfold I32; omega⟩
theorem dis0 {f r : Nat} (h : ploc 0 f r) : dis 0 f r = 0 ∨ dis 0 f r = 325 ∨ dis 0 f r = 326 ∨ dis 0 f r = 327 := by
  have hf := ploc_f h
  have hf12 : f ≤ 12 := hf
  rcases h with h | h
  · left; unfold dis; rw [if_pos (Or.inl h.1)]
  · right
    obtain ⟨z1, z2⟩ := arow_lt h.2
    have hk : f - 1 < 12 := by omega
    obtain ⟨y1, y2⟩ := arow7 (f - 1) hk z2
    have r0 : r = 0 := by
      have : cnt (cls 0) (f - 1) = 1 := y2
      omega
    subst r0
    have fe : f = 3 ∨ f = 4 ∨ f = 6 := by omega
    rcases fe with rfl | rfl | rfl <;> decide
theorem zon_ok {A o f r : Nat} (ob : Nat → Nat) (hb : born w00 o) (h : ploc o f r) : zonF A (obF ob A o + dis o f r) = o := by
  have d := (dis_lt h).1
  have d0 := @dis0 f r
  rcases born0 hb with rfl | rfl | rfl | rfl | rfl | rfl | rfl | rfl | rfl | rfl
  · have z := d0 h
    have e : obF ob A 0 = A := rfl
    rw [e]
    generalize dis 0 f r = x at z
    unfold zonF
    rcases z with rfl | rfl | rfl | rfl
    · rw [if_pos (by omega)]
    · rw [if_neg (by omega), if_neg (by omega), if_neg (by omega), if_pos (by omega)]
    · rw [if_neg (by omega), if_neg (by omega), if_neg (by omega), if_pos (by omega)]
    · rw [if_neg (by omega), if_neg (by omega), if_neg (by omega), if_pos (by omega)]
  · have e : obF ob A 1 = A + 1 := rfl
    have e2 : nB (cls 1) = 162 := by decide
    rw [e]
    rw [e2] at d
    generalize dis 1 f r = x at d
    unfold zonF
    rw [if_neg (by omega), if_pos (by omega)]
  · have e : obF ob A 2 = A + 163 := rfl
    have e2 : nB (cls 2) = 162 := by decide
    rw [e]
    rw [e2] at d
    generalize dis 2 f r = x at d
    unfold zonF
    rw [if_neg (by omega), if_neg (by omega), if_pos (by omega)]
  · have e : obF ob A 7 = A + 328 := rfl
    have e2 : nB (cls 7) = 2 := by decide
    rw [e]
    rw [e2] at d
    generalize dis 7 f r = x at d
    unfold zonF
    rw [if_neg (by omega), if_neg (by omega), if_neg (by omega), if_neg (by omega), if_pos (by omega)]
  · have e : obF ob A 8 = A + 337 := rfl
    have e2 : nB (cls 8) = 4 := by decide
    rw [e]
    rw [e2] at d
    generalize dis 8 f r = x at d
    unfold zonF
    rw [if_neg (by omega), if_neg (by omega), if_neg (by omega), if_neg (by omega), if_neg (by omega), if_neg (by omega), if_pos (by omega)]
  · have e : obF ob A 9 = A + 341 := rfl
    have e2 : nB (cls 9) = 4 := by decide
    rw [e]
    rw [e2] at d
    generalize dis 9 f r = x at d
    unfold zonF
    rw [if_neg (by omega), if_neg (by omega), if_neg (by omega), if_neg (by omega), if_neg (by omega), if_neg (by omega), if_neg (by omega), if_pos (by omega)]
  · have e : obF ob A 10 = A + 345 := rfl
    have e2 : nB (cls 10) = 13 := by decide
    rw [e]
    rw [e2] at d
    generalize dis 10 f r = x at d
    unfold zonF
    rw [if_neg (by omega), if_neg (by omega), if_neg (by omega), if_neg (by omega), if_neg (by omega), if_neg (by omega), if_neg (by omega), if_neg (by omega), if_pos (by omega)]
  · have e : obF ob A 11 = A + 358 := rfl
    have e2 : nB (cls 11) = 4 := by decide
    rw [e]
    rw [e2] at d
    generalize dis 11 f r = x at d
    unfold zonF
    rw [if_neg (by omega), if_neg (by omega), if_neg (by omega), if_neg (by omega), if_neg (by omega), if_neg (by omega), if_neg (by omega), if_neg (by omega), if_neg (by omega), if_pos (by omega)]
  · have e : obF ob A 12 = A + 330 := rfl
    have e2 : nB (cls 12) = 7 := by decide
    rw [e]
    rw [e2] at d
    generalize dis 12 f r = x at d
    unfold zonF
    rw [if_neg (by omega), if_neg (by omega), if_neg (by omega), if_neg (by omega), if_neg (by omega), if_pos (by omega)]
  · have e : obF ob A 21 = A + 362 := rfl
    have e2 : nB (cls 21) = 66 := by decide
    rw [e]
    rw [e2] at d
    generalize dis 21 f r = x at d
    unfold zonF
    rw [if_neg (by omega), if_neg (by omega), if_neg (by omega), if_neg (by omega), if_neg (by omega), if_neg (by omega), if_neg (by omega), if_neg (by omega), if_neg (by omega), if_neg (by omega)]

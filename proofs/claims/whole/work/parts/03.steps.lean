/-! 03.steps: the rules of TT, an instruction each: stack, locals, numbers, branches -/
theorem bm32 (x : Int) : Int.bmod x Int32.size = w32 x := by
  have e : ((Int32.size : Nat) : Int) = 4294967296 := rfl
  rw [Int.bmod_def, e]
  unfold w32
  split <;> omega
theorem bm64 (x : Int) : Int.bmod x Int64.size = w64 x := by
  have e : ((Int64.size : Nat) : Int) = 18446744073709551616 := rfl
  rw [Int.bmod_def, e]
  unfold w64
  split <;> omega
theorem w64_of {x : Int} (h : I64 x) : w64 x = x := by unfold w64; unfold I64 at h; omega
theorem w32_of {x : Int} (h : I32 x) : w32 x = x := by unfold w32; unfold I32 at h; omega
theorem t32 {x : Int} (h : I32 x) : (Int32.ofInt x).toInt = x := by rw [Int32.toInt_ofInt, bm32, w32_of h]
theorem t64 {x : Int} (h : I64 x) : (Int64.ofInt x).toInt = x := by rw [Int64.toInt_ofInt, bm64, w64_of h]
theorem i32_lt {a b : Int} (ha : I32 a) (hb : I32 b) : Int32.ofInt a < Int32.ofInt b ↔ a < b := by rw [Int32.lt_iff_toInt_lt, t32 ha, t32 hb]
theorem i32_le {a b : Int} (ha : I32 a) (hb : I32 b) : Int32.ofInt a ≤ Int32.ofInt b ↔ a ≤ b := by rw [Int32.le_iff_toInt_le, t32 ha, t32 hb]
theorem i32_eq {a b : Int} (ha : I32 a) (hb : I32 b) : Int32.ofInt a = Int32.ofInt b ↔ a = b := by rw [← Int32.toInt_inj, t32 ha, t32 hb]
theorem i64_lt {a b : Int} (ha : I64 a) (hb : I64 b) : Int64.ofInt a < Int64.ofInt b ↔ a < b := by rw [Int64.lt_iff_toInt_lt, t64 ha, t64 hb]
theorem i64_eq {a b : Int} (ha : I64 a) (hb : I64 b) : Int64.ofInt a = Int64.ofInt b ↔ a = b := by rw [← Int64.toInt_inj, t64 ha, t64 hb]
theorem I32_0 : I32 0 := by unfold I32; omega
theorem o32_0 : Int32.ofInt 0 = 0 := rfl
theorem o64_0 : Int64.ofInt 0 = 0 := rfl
theorem w64_I (x : Int) : I64 (w64 x) := by unfold w64 I64; omega
theorem w32_I (x : Int) : I32 (w32 x) := by unfold w32 I32; omega
theorem w8_I (x : Int) : I32 (w8 x) := by unfold w8 I32; omega
theorem o64_w (x : Int) : Int64.ofInt (w64 x) = Int64.ofInt x := by rw [← Int64.toInt_inj, t64 (w64_I x), Int64.toInt_ofInt, bm64]
theorem o32_w (x : Int) : Int32.ofInt (w32 x) = Int32.ofInt x := by rw [← Int32.toInt_inj, t32 (w32_I x), Int32.toInt_ofInt, bm32]
theorem o32_b (y : Int32) : Int32.ofInt y.toInt = y := by simp
theorem o64_b (y : Int64) : Int64.ofInt y.toInt = y := by simp
theorem I32_b (y : Int32) : I32 y.toInt := by
  have h1 := Int32.le_toInt y
  have h2 := Int32.toInt_lt y
  unfold I32
  omega
theorem I64_b (y : Int64) : I64 y.toInt := by
  have h1 := Int64.le_toInt y
  have h2 := Int64.toInt_lt y
  unfold I64
  omega
theorem I32_64 {x : Int} (h : I32 x) : I64 x := by unfold I32 at h; unfold I64; omega
theorem o_i2l {x : Int} (h : I32 x) : (Int32.ofInt x).toInt64 = Int64.ofInt x := by
  rw [← Int64.toInt_inj, Int32.toInt_toInt64, t32 h, t64 (I32_64 h)]
theorem o_l2i {x : Int} (h : I64 x) : (Int64.ofInt x).toInt32 = Int32.ofInt (w32 x) := by
  rw [← Int32.toInt_inj, Int64.toInt_toInt32, t64 h, t32 (w32_I x)]
  exact bm32 x
theorem o_i2b {x : Int} (h : I32 x) : (Int32.ofInt x).toInt8.toInt32 = Int32.ofInt (w8 x) := by
  rw [← Int32.toInt_inj, Int8.toInt_toInt32, Int32.toInt_toInt8, t32 h, t32 (w8_I x), Int.bmod_def]
  unfold w8
  split <;> omega
theorem o_add (a b : Int) : Int32.ofInt (a + b) = Int32.ofInt a + Int32.ofInt b := by simp [Int32.ofInt_add]
theorem o_sub (a b : Int) : Int32.ofInt (a - b) = Int32.ofInt a - Int32.ofInt b := by simp [Int32.ofInt_sub]
theorem o_mul (a b : Int) : Int32.ofInt (a * b) = Int32.ofInt a * Int32.ofInt b := by simp [Int32.ofInt_mul]
theorem o_neg (a : Int) : Int32.ofInt (-a) = -Int32.ofInt a := by simp [Int32.ofInt_neg]
theorem l_add (a b : Int) : Int64.ofInt (w64 (a + b)) = Int64.ofInt a + Int64.ofInt b := by rw [o64_w]; simp [Int64.ofInt_add]
theorem l_sub (a b : Int) : Int64.ofInt (w64 (a - b)) = Int64.ofInt a - Int64.ofInt b := by rw [o64_w]; simp [Int64.ofInt_sub]
theorem l_mul (a b : Int) : Int64.ofInt (w64 (a * b)) = Int64.ofInt a * Int64.ofInt b := by rw [o64_w]; simp [Int64.ofInt_mul]
theorem o_div {a b : Int} (ha : I32 a) (hb : I32 b) (h0 : 0 ≤ a) (h1 : 0 < b) : Int32.ofInt (a / b) = Int32.ofInt a / Int32.ofInt b := by
  have hq : 0 ≤ a / b := Int.ediv_nonneg h0 (by omega)
  have hq2 : a / b ≤ a := Int.ediv_le_self b h0
  have hI : I32 (a / b) := by unfold I32 at ha ⊢; omega
  rw [← Int32.toInt_inj, Int32.toInt_div, t32 ha, t32 hb, t32 hI, Int.tdiv_eq_ediv_of_nonneg h0, Int.bmod_def]
  unfold I32 at ha
  split <;> omega
theorem o_rem {a b : Int} (ha : I32 a) (hb : I32 b) (h0 : 0 ≤ a) (h1 : 0 < b) : Int32.ofInt (a % b) = Int32.ofInt a % Int32.ofInt b := by
  have hq : 0 ≤ a % b := Int.emod_nonneg a (by omega)
  have hq2 : a % b < b := Int.emod_lt_of_pos a h1
  have hI : I32 (a % b) := by unfold I32 at hb ⊢; omega
  rw [← Int32.toInt_inj, Int32.toInt_mod, t32 ha, t32 hb, t32 hI, Int.tmod_eq_emod_of_nonneg h0]
theorem l_div {a b : Int} (ha : I64 a) (hb : I64 b) : Int64.ofInt (w64 (Int.tdiv a b)) = Int64.ofInt a / Int64.ofInt b := by
  rw [o64_w, ← Int64.toInt_inj, Int64.toInt_div, t64 ha, t64 hb, Int64.toInt_ofInt]
theorem sl_31 : ∀ n, n < 32 → ((Int32.ofNat n &&& 31).toBitVec.smod 32).toNat = n := by decide +kernel
theorem oi_n (n : Nat) : Int32.ofInt (n : Int) = Int32.ofNat n := by
  first | rfl | simp
theorem o_shl {a k : Int} (h0 : 0 ≤ a) (hk : 0 ≤ k) (hk2 : k ≤ 30) (h : I32 (a * 2 ^ k.toNat)) : Int32.ofInt (a * 2 ^ k.toNat) = Int32.ofInt a <<< (Int32.ofInt k &&& 31) := by
  obtain ⟨n, rfl⟩ := Int.eq_ofNat_of_zero_le h0
  obtain ⟨j, rfl⟩ := Int.eq_ofNat_of_zero_le hk
  have hj : j < 32 := by omega
  rw [oi_n, oi_n]
  simp only [Int.toNat_natCast] at h ⊢
  have e : ((n : Int) * 2 ^ j) = ((n * 2 ^ j : Nat) : Int) := by simp
  rw [e] at h ⊢
  have h9 : n * 2 ^ j < 2 ^ 32 := by unfold I32 at h; omega
  rw [oi_n]
  exact (pk_shlN (n := n) _ j (sl_31 j hj) h9).symm
theorem o_shr {a k : Int} (ha : I32 a) (hk : 0 ≤ k) (hk2 : k ≤ 31) : Int32.ofInt (a / 2 ^ k.toNat) = Int32.ofInt a >>> (Int32.ofInt k &&& 31) := by
  obtain ⟨j, rfl⟩ := Int.eq_ofNat_of_zero_le hk
  have hj : j < 32 := by omega
  have e := pk_shr (Int32.ofInt a) (Int32.ofNat j &&& 31) j (sl_31 j hj)
  rw [t32 ha, Int.shiftRight_eq_div_pow] at e
  rw [← oi_n] at e
  have e2 : (((2 ^ j : Nat) : Int)) = (2 : Int) ^ j := by simp
  rw [e2] at e
  simp only [Int.toNat_natCast]
  rw [← e]
  exact o32_b _
def ushr (a k : Int) : Int := ((Int32.ofInt a).toUInt32 >>> ((Int32.ofInt k).toUInt32 &&& Int32.toUInt32 31)).toInt32.toInt
def lcmpI (a b : Int) : Int := if b < a then 1 else if a = b then 0 else -1
theorem o_cmp {a b : Int} (ha : I64 a) (hb : I64 b) : Int32.ofInt (lcmpI a b) = lg_cmp (Int64.ofInt a) (Int64.ofInt b) := by
  unfold lcmpI lg_cmp
  by_cases h1 : b < a
  · rw [if_pos h1, if_pos ((i64_lt hb ha).mpr h1)]; rfl
  · rw [if_neg h1, if_neg (fun h => h1 ((i64_lt hb ha).mp h))]
    by_cases h2 : a = b
    · rw [if_pos h2, if_pos ((i64_eq ha hb).mpr h2)]; rfl
    · rw [if_neg h2, if_neg (fun h => h2 ((i64_eq ha hb).mp h))]; rfl
theorem lcmpI_I (a b : Int) : I32 (lcmpI a b) := by unfold lcmpI I32; split <;> (try split) <;> omega
/-! locals -/
def toL (ob : Nat → Nat) : Nat → List (Option AV) → List (Nat × Value)
  | _, [] => []
  | n, some v :: t => (n, val ob v) :: toL ob (n + 1) t
  | n, none :: t => toL ob (n + 1) t
theorem toL_mem (ob : Nat → Nat) : ∀ (ls : List (Option AV)) (n : Nat) (q : Nat × Value), q ∈ toL ob n ls → ∃ j v, q = (n + j, val ob v) ∧ lg ls j = some v
  | [], n, q, h => by simp [toL] at h
  | some v :: t, n, q, h => by
    rcases List.mem_cons.mp h with rfl | h
    · exact ⟨0, v, rfl, rfl⟩
    · obtain ⟨j, u, e1, e2⟩ := toL_mem ob t (n + 1) q h
      exact ⟨j + 1, u, by rw [e1]; congr 1; omega, e2⟩
  | none :: t, n, q, h => by
    obtain ⟨j, u, e1, e2⟩ := toL_mem ob t (n + 1) q h
    exact ⟨j + 1, u, by rw [e1]; congr 1; omega, e2⟩
theorem toL_of (ob : Nat → Nat) : ∀ (ls : List (Option AV)) (n j : Nat) (v : AV), lg ls j = some v → (n + j, val ob v) ∈ toL ob n ls
  | [], n, j, v, h => by simp [lg] at h
  | some u :: t, n, 0, v, h => by
    have : u = v := by simpa [lg] using h
    subst this
    exact List.mem_cons_self
  | some u :: t, n, j + 1, v, h => by
    have := toL_of ob t (n + 1) j v h
    rw [show n + (j + 1) = n + 1 + j by omega]
    exact List.mem_cons_of_mem _ this
  | none :: t, n, 0, v, h => by simp [lg] at h
  | none :: t, n, j + 1, v, h => by
    have := toL_of ob t (n + 1) j v h
    rw [show n + (j + 1) = n + 1 + j by omega]
    exact this
theorem LH.has {ob : Nat → Nat} {ls : List (Option AV)} {lsr : Array Slot} {n : Nat} (h : LH ob ls lsr n) : lv_has lsr n (toL ob 0 ls) := by
  refine ⟨h.1, h.2.2.1, fun q hq => ?_⟩
  obtain ⟨j, v, rfl, e⟩ := toL_mem ob ls 0 q hq
  rw [Nat.zero_add]
  exact h.2.2.2 j v e
theorem cat_val (ob : Nat → Nat) (v : AV) : (val ob v).category = if isLg (some v) = true then 2 else 1 := by
  rcases v with x | x | x | x <;> rfl
theorem ls1_len : ∀ (ls : List (Option AV)) (i : Nat) (v : AV), (ls1 ls i v).length = ls.length
  | [], i, v => by simp [ls1]
  | _ :: t, 0, v => by simp [ls1]
  | x :: t, i + 1, v => by simp [ls1, ls1_len t i v]
theorem ls2_len : ∀ (ls : List (Option AV)) (i : Nat) (v : AV), i + 1 < ls.length → (ls2 ls i v).length = ls.length
  | [], i, v, h => by simp at h
  | [x], 0, v, h => by simp at h
  | _ :: _ :: t, 0, v, h => by simp [ls2]
  | [x], i + 1, v, h => by simp at h
  | x :: y :: t, i + 1, v, h => by
    have := ls2_len (y :: t) i v (by simpa using h)
    simp [ls2, this]
theorem lg_ls1 : ∀ (ls : List (Option AV)) (i j : Nat) (v u : AV), lg (ls1 ls i v) j = some u → (j = i ∧ u = v) ∨ (j ≠ i ∧ lg ls j = some u ∧ ¬ (j + 1 = i ∧ isLg (some u) = true))
  | [], i, j, v, u, h => by simp [ls1, lg] at h
  | x :: t, 0, 0, v, u, h => by
    left
    simp [ls1, lg] at h
    exact ⟨rfl, h.symm⟩
  | x :: t, 0, j + 1, v, u, h => by
    right
    simp [ls1, lg] at h
    exact ⟨by omega, by simpa [lg] using h, by omega⟩
  | x :: t, i + 1, 0, v, u, h => by
    right
    simp only [ls1, lg] at h
    by_cases hc : i = 0 ∧ isLg x = true
    · rw [if_pos hc] at h; cases h
    · rw [if_neg hc] at h
      refine ⟨by omega, h, fun q => hc ⟨by omega, ?_⟩⟩
      rw [h]; exact q.2
  | x :: t, i + 1, j + 1, v, u, h => by
    simp only [ls1, lg] at h
    rcases lg_ls1 t i j v u h with ⟨a, b⟩ | ⟨a, b, c⟩
    · exact Or.inl ⟨by omega, b⟩
    · exact Or.inr ⟨by omega, b, fun q => c ⟨by omega, q.2⟩⟩
theorem lg_ls2 : ∀ (ls : List (Option AV)) (i j : Nat) (v u : AV), i + 1 < ls.length → lg (ls2 ls i v) j = some u → (j = i ∧ u = v) ∨ (j ≠ i ∧ j ≠ i + 1 ∧ lg ls j = some u ∧ ¬ (j + 1 = i ∧ isLg (some u) = true))
  | [], i, j, v, u, hl, h => by simp at hl
  | [x], i, j, v, u, hl, h => by simp at hl
  | x :: y :: t, 0, 0, v, u, hl, h => by
    left
    simp [ls2, lg] at h
    exact ⟨rfl, h.symm⟩
  | x :: y :: t, 0, 1, v, u, hl, h => by simp [ls2, lg] at h
  | x :: y :: t, 0, j + 2, v, u, hl, h => by
    right
    simp [ls2, lg] at h
    exact ⟨by omega, by omega, by simpa [lg] using h, by omega⟩
  | x :: y :: t, i + 1, 0, v, u, hl, h => by
    right
    simp only [ls2, lg] at h
    by_cases hc : i = 0 ∧ isLg x = true
    · rw [if_pos hc] at h; cases h
    · rw [if_neg hc] at h
      refine ⟨by omega, by omega, h, fun q => hc ⟨by omega, ?_⟩⟩
      rw [h]; exact q.2
  | x :: y :: t, i + 1, j + 1, v, u, hl, h => by
    simp only [ls2, lg] at h
    rcases lg_ls2 (y :: t) i j v u (by simpa using hl) h with ⟨a, b⟩ | ⟨a, a2, b, c⟩
    · exact Or.inl ⟨by omega, b⟩
    · exact Or.inr ⟨by omega, by omega, b, fun q => c ⟨by omega, q.2⟩⟩
theorem LH.st1 {ob : Nat → Nat} {ls : List (Option AV)} {lsr lsr' : Array Slot} {n i : Nat} {v : AV} (h : LH ob ls lsr n) (h' : lv_has lsr' n ((i, val ob v) :: (toL ob 0 ls).filter (fun q => !(q.1 == i) && !(q.1 + 1 == i && q.2.category == 2)))) : LH ob (ls1 ls i v) lsr' n := by
  refine ⟨h'.1, (ls1_len _ _ _).trans h.2.1, h'.2.1, fun j u hj => ?_⟩
  rcases lg_ls1 ls i j v u hj with ⟨rfl, rfl⟩ | ⟨a, b, c⟩
  · exact h'.2.2 _ List.mem_cons_self
  · refine h'.2.2 (j, val ob u) (List.mem_cons_of_mem _ (List.mem_filter.mpr ⟨?_, ?_⟩))
    · have := toL_of ob ls 0 j u b
      rwa [Nat.zero_add] at this
    · simp only [Bool.and_eq_true, Bool.not_eq_true', beq_eq_false_iff_ne, ne_eq, Bool.and_eq_false_iff, cat_val]
      refine ⟨a, ?_⟩
      by_cases e : j + 1 = i
      · right
        rw [if_neg (fun z => c ⟨e, z⟩)]; decide
      · exact Or.inl e
theorem LH.st2 {ob : Nat → Nat} {ls : List (Option AV)} {lsr lsr' : Array Slot} {n i : Nat} {v : AV} (h : LH ob ls lsr n) (hi : i + 1 < n) (h' : lv_has lsr' n ((i, val ob v) :: (toL ob 0 ls).filter (fun q => !(q.1 == i) && (!(q.1 == i + 1) && !(q.1 + 1 == i && q.2.category == 2))))) : LH ob (ls2 ls i v) lsr' n := by
  have hl : i + 1 < ls.length := by rw [h.2.1]; exact hi
  refine ⟨h'.1, (ls2_len _ _ _ hl).trans h.2.1, h'.2.1, fun j u hj => ?_⟩
  rcases lg_ls2 ls i j v u hl hj with ⟨rfl, rfl⟩ | ⟨a, a2, b, c⟩
  · exact h'.2.2 _ List.mem_cons_self
  · refine h'.2.2 (j, val ob u) (List.mem_cons_of_mem _ (List.mem_filter.mpr ⟨?_, ?_⟩))
    · have := toL_of ob ls 0 j u b
      rwa [Nat.zero_add] at this
    · simp only [Bool.and_eq_true, Bool.not_eq_true', beq_eq_false_iff_ne, ne_eq, Bool.and_eq_false_iff, cat_val]
      refine ⟨a, a2, ?_⟩
      by_cases e : j + 1 = i
      · right
        rw [if_neg (fun z => c ⟨e, z⟩)]; decide
      · exact Or.inl e

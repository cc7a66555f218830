/-! 9zb.birth: an object comes to be -/
/-- x is no reference to the object o -/
def nref (o : Nat) (x : Int) : Prop := x = 0 ∨ (x.toNat - 1) % 64 ≠ o
theorem dec_nref {o : Nat} {x : Int} (h : nref o x) {ob ob' : Nat → Nat} (ho : ∀ y, y ≠ o → ob' y = ob y) : val ob' (dec x) = val ob (dec x) := by
  unfold dec
  by_cases z : x = 0
  · rw [if_pos z]; rfl
  · rw [if_neg z]
    have y : (x.toNat - 1) % 64 ≠ o := h.resolve_left z
    show Value.ref (adr ob' _ _ _) = Value.ref (adr ob _ _ _)
    unfold adr
    rw [ho _ y]
theorem k3_all : ∀ c, c < 9 → ∀ k, k < NF c → (lay c k).1 = 3 → c = 2 ∧ (k = 0 ∨ k = 8) := by decide +kernel
theorem k4_all : ∀ c, c < 9 → ∀ k, k < NF c → (lay c k).1 = 4 → (lay c k).2.1 = 1 ∨ (lay c k).2.1 = 2 ∨ (7 ≤ (lay c k).2.1 ∧ (lay c k).2.1 ≤ 11) := by decide +kernel
theorem k14_all : ∀ c, c < 9 → ∀ k, k < NR c → (lay c k).1 = 14 → c = 7 ∧ ((k = 2 ∧ (lay c k).2.1 = 4) ∨ (k = 3 ∧ (lay c k).2.1 = 8)) := by decide +kernel
theorem cls2 {x : Nat} (h : cls x = 2) : x = 7 := by
  unfold cls at h
  repeat' split at h
  all_goals omega
theorem cls7 {x : Nat} (h : cls x = 7) : x = 0 := by
  unfold cls at h
  repeat' split at h
  all_goals omega
/-- nothing in memory speaks of the object o -/
def nrM (o : Nat) (σ : Mem) : Prop := nref o (σ 7 1 0 0) ∧ nref o (σ 7 9 0 0) ∧ (∀ j, j < 4 → nref o (σ 0 3 0 j)) ∧ ∀ j, j < 8 → nref o (σ 0 4 0 j)
/-- the memory with a new object o -/
def bo0 (o : Nat) (σ : Mem) : Mem := fun x f r j => if x = o then Z0 (cls o) f r j else σ x f r j
def wdN (w : Wd) (o : Nat) : Wd := fun x => w x || x == o
theorem born_wN {w : Wd} {o : Nat} (ho : o < 22) (x : Nat) : born (wdN w o) x ↔ born w x ∨ x = o := by
  unfold born wdN
  simp only [Bool.or_eq_true, beq_iff_eq]
  constructor
  · rintro ⟨h | h | h | h | h, h2⟩
    · exact Or.inl ⟨Or.inl h, h2⟩
    · exact Or.inl ⟨Or.inr (Or.inl h), h2⟩
    · exact Or.inl ⟨Or.inr (Or.inr (Or.inl h)), h2⟩
    · exact Or.inl ⟨Or.inr (Or.inr (Or.inr h)), h2⟩
    · exact Or.inr h
  · rintro (⟨h | h | h | h, h2⟩ | h)
    · exact ⟨Or.inl h, h2⟩
    · exact ⟨Or.inr (Or.inl h), h2⟩
    · exact ⟨Or.inr (Or.inr (Or.inl h)), h2⟩
    · exact ⟨Or.inr (Or.inr (Or.inr (Or.inl h))), h2⟩
    · exact ⟨Or.inr (Or.inr (Or.inr (Or.inr h))), by omega⟩
def obN (ob : Nat → Nat) (o a : Nat) : Nat → Nat := fun x => if x = o then a else ob x
theorem vl_pl {w : Wd} {o f r : Nat} (h : vloc w o f r) : ploc o f r := h.2
theorem arow_of_pl {o f r : Nat} (h : ploc o f r) (hf : f ≠ 0) : arow (lay (cls o) (f - 1)) r := by
  rcases h with h | h
  · exact absurd h.1 hf
  · exact h.2
section BIR
variable {G : Gl} {w : Wd} {ob : Nat → Nat} {σ : Mem} {H H2 : Heap}
/-- every place of ours is a cell that stands -/
theorem Rep.lt (rep : Rep G w ob σ H) {o f r : Nat} (h : vloc w o f r) : adr ob o f r < H.size := by
  have hp := vl_pl h
  by_cases hf : f = 0
  · obtain ⟨cell, q, -⟩ := rep.1 o h.1
    have := (Array.getElem?_eq_some_iff.mp q).1
    unfold adr
    rw [if_pos (Or.inl hf)]
    exact this
  · have q := rep.2.1 o f r h.1 (Nat.pos_of_ne_zero hf) (arow_of_pl hp hf)
    exact (Array.getElem?_eq_some_iff.mp q).1
theorem Rep.birth (rep : Rep G w ob σ H) {o a : Nat} (hno : ¬ born w o) (ho : (3 ≤ o ∧ o < 7) ∨ (13 ≤ o ∧ o < 21)) (ha : H.size ≤ a) (hbase : G.2.2.1 ≤ a) (hkeep : ∀ q, q < H.size → H2[q]? = H[q]?) (hB : BLK G H2 (cls o) a (VI (cls o) a)) (hr : nrM o σ) :
    Rep G (wdN w o) (obN ob o a) (bo0 o σ) H2 := by
  have ho22 : o < 22 := by omega
  have hc : cls o = 4 ∨ cls o = 3 := by
    have z : o = 3 ∨ o = 4 ∨ o = 5 ∨ o = 6 ∨ o = 13 ∨ o = 14 ∨ o = 15 ∨ o = 16 ∨ o = 17 ∨ o = 18 ∨ o = 19 ∨ o = 20 := by omega
    rcases z with rfl | rfl | rfl | rfl | rfl | rfl | rfl | rfl | rfl | rfl | rfl | rfl <;> decide
  have eo : obN ob o a o = a := if_pos rfl
  have en : ∀ y, y ≠ o → obN ob o a y = ob y := fun y hy => if_neg hy
  have so : bo0 o σ o = Z0 (cls o) := by funext f r j; exact if_pos rfl
  have sn : ∀ y, y ≠ o → bo0 o σ y = σ y := fun y hy => by funext f r j; exact if_neg hy
  have hl4 : ∀ k, k < NF (cls o) → (lay (cls o) k).1 ≠ 4 := by rcases hc with z | z <;> rw [z] <;> decide
  have hNF : ∀ k, k < NR (cls o) → k < NF (cls o) := by rcases hc with z | z <;> rw [z] <;> exact fun k hk => hk
  have an : ∀ y f r, y ≠ o → adr (obN ob o a) y f r = adr ob y f r := fun y f r hy => by unfold adr; rw [en y hy]
  have vo : ∀ {y f r}, vloc (wdN w o) y f r → y ≠ o → vloc w y f r := fun h hy => ⟨((born_wN ho22 _).mp h.1).resolve_right hy, h.2⟩
  have fv : ∀ y, born w y → y ≠ o → ∀ k, k < NF (cls y) → fval ob σ y k = fval (obN ob o a) (bo0 o σ) y k := by
    intro y hy hyo k hk
    unfold fval
    have e1 : gfv (lay (cls y) k) y k (bo0 o σ) = gfv (lay (cls y) k) y k σ := by unfold gfv; rw [sn y hyo]
    rw [e1]
    unfold gfv
    split
    · rfl
    split
    · rfl
    split
    · rfl
    split
    · rename_i h3
      obtain ⟨z1, z2⟩ := k3_all _ (cls_lt y) k hk h3
      have y7 := cls2 z1
      subst y7
      rcases z2 with rfl | rfl
      · exact (dec_nref hr.1 en).symm
      · exact (dec_nref hr.2.1 en).symm
    split
    · rename_i h4
      have z := k4_all _ (cls_lt y) k hk h4
      show Value.ref (adr ob _ 0 0) = Value.ref (adr (obN ob o a) _ 0 0)
      rw [an _ 0 0 (by omega)]
    · show Value.ref (adr ob y _ 0) = Value.ref (adr (obN ob o a) y _ 0)
      rw [an _ _ 0 hyo]
  refine ⟨fun y hy => ?_, fun y f r hy hf hro => ?_, fun y f r y' f' r' h1 h2 e => ?_, fun y f r h => ?_⟩
  · by_cases hyo : y = o
    · subst hyo
      rw [eo]
      refine hB.1.to (fun k hk => ?_)
      have z := fval_new (ob := obN ob y a) (σ := bo0 y σ) (o := y) hk (hl4 k hk) (by rw [so])
      rw [z, eo]
    · have hb := ((born_wN ho22 y).mp hy).resolve_right hyo
      rw [en y hyo]
      have lt := rep.lt (o := y) (f := 0) (r := 0) ⟨hb, Or.inl ⟨rfl, rfl⟩⟩
      have e0 : adr ob y 0 0 = ob y := by unfold adr; simp
      rw [e0] at lt
      exact ((rep.1 y hb).kept (hkeep _ lt)).to (fv y hb hyo)
  · by_cases hyo : y = o
    · subst hyo
      have z := elv_new (G := G) (ob := obN ob y a) (σ := bo0 y σ) hf hro (fun j => by rw [so])
      rw [← z, eo]
      have hk := hNF _ (arow_NR (cls_lt y) hro)
      have q := hB.2 (f - 1) r hk hro
      have ea : adr (obN ob y a) y f r = a + ((lay (cls y) (f - 1)).2.2.2 + r) := by
        have h78 := NR_le _ (cls_lt y)
        have := arow_NR (cls_lt y) hro
        unfold adr
        rw [if_neg (by omega), eo]
        omega
      rw [ea]
      exact q
    · have hb := ((born_wN ho22 y).mp hy).resolve_right hyo
      rw [an y f r hyo]
      have hv : vloc w y f r := ⟨hb, Or.inr ⟨hf, hro⟩⟩
      rw [hkeep _ (rep.lt hv), rep.2.1 y f r hb hf hro]
      congr 1
      refine arr_ext (fun j hj => ?_)
      unfold elv
      rw [sn y hyo]
      split
      · rfl
      split
      · rename_i h14
        have k14 : (lay (cls y) (f - 1)).1 = 14 := by
          unfold akk at h14
          split at h14
          · exact h14
          · split at h14
            · cases h14
            · have h15 : (lay (cls y) (f - 1)).1 - 10 = 14 := h14
              have := hro.2.1
              omega
        obtain ⟨z1, z2⟩ := k14_all _ (cls_lt y) (f - 1) (arow_NR (cls_lt y) hro) k14
        have y0 := cls7 z1
        subst y0
        have hr0 : r = 0 := hro.2.2.1 (by omega)
        subst hr0
        have ea : (akk (lay (cls 0) (f - 1)) 0).2 = (lay (cls 0) (f - 1)).2.1 := by unfold akk; rw [if_pos (by omega)]
        rw [ea] at hj
        rcases z2 with ⟨z3, z4⟩ | ⟨z3, z4⟩
        · have : f = 3 := by omega
          subst this
          exact (dec_nref (hr.2.2.1 j (by omega)) en).symm
        · have : f = 4 := by omega
          subst this
          exact (dec_nref (hr.2.2.2 j (by omega)) en).symm
      split
      · show Value.ref (adr ob y f _) = Value.ref (adr (obN ob o a) y f _)
        rw [an y f _ hyo]
      · rfl
  · by_cases hy1 : y = o <;> by_cases hy2 : y' = o
    · subst hy1; subst hy2
      rw [adr_dis, adr_dis] at e
      have := dis_inj (vl_pl h1) (vl_pl h2) (by omega)
      exact ⟨rfl, this.1, this.2⟩
    · exfalso
      have l2 := rep.lt (vo h2 hy2)
      rw [an y' f' r' hy2, adr_dis, hy1, eo] at e
      omega
    · exfalso
      have l1 := rep.lt (vo h1 hy1)
      rw [an y f r hy1, adr_dis (obN ob o a), hy2, eo] at e
      omega
    · rw [an y f r hy1, an y' f' r' hy2] at e
      exact rep.2.2.1 y f r y' f' r' (vo h1 hy1) (vo h2 hy2) e
  · by_cases hy : y = o
    · rw [adr_dis, hy, eo]; omega
    · rw [an y f r hy]; exact rep.2.2.2 y f r (vo h hy)
end BIR

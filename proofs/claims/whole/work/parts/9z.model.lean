/-! 9z.model: the street whole, told by its cells; the check's constructor -/
def VD (a k : Nat) : Value := .ref (a + [1, 163, 325, 326, 0, 327, 0, 328, 337, 341, 345, 358].getD k 0)
def VDs (a k : Nat) : Value := if k = 4 ∨ k = 6 then .int 0 else VD a k
def IQd (G : Gl) (a : Nat) (H H' : Heap) : Prop := H'.size = a + 362 ∧ (∀ q, q < a → H'[q]? = H[q]?) ∧ BLK G H' 7 a (VDs a) ∧ DB G 4 (a + 1) H' ∧ DB G 4 (a + 163) H' ∧ DR G (a + 328) H' ∧ DB G 1 (a + 337) H' ∧ DB G 6 (a + 341) H' ∧ DB G 5 (a + 345) H' ∧ DB G 0 (a + 358) H'
theorem arow7 : ∀ k, k < 12 → isAr 7 k = true → (k = 2 ∨ k = 3 ∨ k = 5) ∧ cnt 7 k = 1 := by decide
section CIT
variable {G : Gl}
theorem ci_75 {k : Nat} : Met G.1 (yn 75) (wsm 75) (rmk (k + 3) 361 3837) (IPre G 7) (IPg (IQd G)) 361 3837 (fun q => G.2.2.1 ≤ q) := by
  refine ci_75_ (fun args st t a ea X => ⟨rfl, a, ea, X.1, X.2.1, ⟨X.2.2.1.to (fun k hk => ?_), fun k r hk hr => ?_⟩, ?_⟩)
  · have h12 : k < 12 := hk
    have z : k = 0 ∨ k = 1 ∨ k = 2 ∨ k = 3 ∨ k = 4 ∨ k = 5 ∨ k = 6 ∨ k = 7 ∨ k = 8 ∨ k = 9 ∨ k = 10 ∨ k = 11 := by omega
    rcases z with rfl | rfl | rfl | rfl | rfl | rfl | rfl | rfl | rfl | rfl | rfl | rfl <;> rfl
  · obtain ⟨z1, z2⟩ := arow_lt hr
    obtain ⟨y1, y2⟩ := arow7 k hk z2
    obtain rfl : r = 0 := by omega
    obtain ⟨⟨⟨⟨⟨⟨⟨⟨⟨⟨-, -⟩, -⟩, p3⟩, p4⟩, p5⟩, -⟩, -⟩, -⟩, -⟩, -⟩ := X.2.2.2.1
    rcases y1 with rfl | rfl | rfl
    · exact p3
    · exact p4
    · exact p5
  · obtain ⟨⟨⟨⟨⟨⟨⟨⟨⟨⟨-, q1⟩, q2⟩, -⟩, -⟩, -⟩, q6⟩, q7⟩, q8⟩, q9⟩, q10⟩ := X.2.2.2.1
    exact ⟨q1, q2, q6, q7, q8, q9, q10⟩
/-- the cells of a check that is new -/
def celM (G : Gl) (a k r : Nat) : Cell := if k = 1 then arrV (G.2.1.2.2 0) 8 (updV (fun _ => .int 0) 7 (.int (-1))) else celG G 8 a k r
def IQm (G : Gl) (a : Nat) (H H' : Heap) : Prop := H'.size = a + 66 ∧ (∀ q, q < a → H'[q]? = H[q]?) ∧ t_OB a (G.2.1.1 8) (NF 8) (G.2.1.2.1 8) H' (VI 8 a) ∧ ∀ k r, k < NF 8 → arow (lay 8 k) r → H'[a + ((lay 8 k).2.2.2 + r)]? = some (celM G a k r)
theorem d127 : decode (bc 127) 534 = .ok (.aload_n 0, 1) ∧ decode (bc 127) 535 = .ok (.getfield 7, 3) ∧ decode (bc 127) 538 = .ok (.bipush 7, 2) ∧ decode (bc 127) 540 = .ok (.iconst (-1), 1) ∧ decode (bc 127) 541 = .ok (.iastore, 1) ∧ decode (bc 127) 542 = .ok (.return_, 1) := by decide +kernel
set_option maxRecDepth 100000 in
theorem ckN_8 : gsC 8 gs127 = 65 ∧ gsS 8 gs127 = 61697 := by decide +kernel
theorem ci_127 {k : Nat} : Met G.1 (yn 127) (wsm 127) (rmk (k + 1) 65 61697) (IPre G 8) (IPg (IQm G)) 65 61697 (fun q => G.2.2.1 ≤ q) := by
  refine init_in (mi := 127) (c := 8) (k := k) (mc := 65) (ms := 61697) (by decide) rfl ⟨by decide, by decide⟩ (by decide +kernel) ⟨by decide +kernel, by decide +kernel⟩ ckI_127.2.2 (fun p e s m args below meth c' a ls B hrt hlk ea ha hl hsz X => ?_)
  have B' := B
  obtain ⟨hx, hbc, hown, hts, hin0, kk1, kx⟩ := B
  obtain ⟨d1, d2, d3, d4, d5, d6⟩ := d127
  refine B_all B' (c := 8) (by decide) rfl hl ha gs127 4 1 (dV 8) s.heap [] 0 0 ckI_127.1 X (Nat.le_refl 1) (fun q hq => by cases hq) (by show 0 + gsC 8 gs127 ≤ 65; rw [ckN_8.1]; decide) (by show 0 + gsS 8 gs127 ≤ 61697; rw [ckN_8.2]; decide) (fun H' locs' X' hlo => ?_)
  rw [ckN_8.1, ckN_8.2, ckI_127.2.1]
  rw [ckN_8.1] at X'
  obtain ⟨x1, x2, x3, x4⟩ := X'
  have hV : ∀ k, k < NF 8 → gsV 8 a 1 (dV 8) gs127 k = VI 8 a k := fun k hk => (okFv_of (a := a) ckV_8 hk).1
  refine lv_aload_n hx hbc d1 rfl hl ?_
  have hx3 := x3.to hV
  obtain ⟨r, hr, hk, hN, hlink, hin⟩ := okF_of (mi := 127) (show hasF (own 127) 7 8 1 = true by decide +kernel)
  have hx3' := hx3
  obtain ⟨cell, q1, q2, q3, q4⟩ := hx3
  obtain ⟨hS, hfc, kC, hkC, hkind⟩ := kk1.1 8 r hr
  obtain ⟨cf, kf, fi, f, hi, hsl⟩ := hS 1 hk
  refine W.getf hx hbc hown (hts _ hlink) hi (u_facts hfc hkC (u_lays hts hin hk) hi).1 q1 (by rw [q3]; exact fun z => by cases z) (v := .ref (a + 1)) (by rw [hsl]; exact q4 1 (by decide)) rfl rfl d2 ?_
  refine lv_bipush hx hbc d3 (i8_of (by decide) (by decide)) ?_
  refine lv_iconst hx hbc d4 rfl ?_
  have ar1 : arow (lay 8 1) 0 := ⟨by decide, by decide, fun _ => rfl, fun h => absurd h (by decide)⟩
  have hc0 : H'[a + 1]? = some (arrV (G.2.1.2.2 0) 8 (fun _ => .int 0)) := x4 1 0 (by decide) ar1 (by decide)
  refine W.iast hx hbc hc0 (ty_at kk1 0 rfl _ _) (fun z => by cases z) (by rw [arrV_size]; decide) rfl rfl d5 (fun H2 e1 e2 e3 => ?_)
  rw [arrV_store] at e1
  have e3' : ∀ q : Nat, q ≠ a + 1 → H2[q]? = H'[q]? := e3
  have e4 : ∀ q : Nat, q < a + 1 → H2[q]? = H'[q]? := fun q hq => e3' q (Nat.ne_of_lt hq)
  refine W.vret hx hbc (hrt.trans rfl) (fun t ht hW => ⟨rfl, a, ea, ?_⟩) (fun q hq => ?_) d6 hlk
  · rcases List.mem_append.mp hq with h | h
    · exact hlo q h
    · rw [List.mem_singleton.mp h]; show G.2.2.1 ≤ a + 1; omega
  · rw [ht]
    refine ⟨by rw [e2]; exact x1, fun q hq => by rw [e4 q (by omega)]; exact x2 q hq, hx3'.kept (e4 a (by omega)), fun k' r' hk' hr' => ?_⟩
    unfold celM
    have z := arow_lt hr'
    have y := nB_all 8 (by decide) k' hk' z.2
    have hnb : nB 8 = 66 := rfl
    by_cases h1 : k' = 1
    · subst h1
      rw [if_pos rfl]
      have c1 : cnt 8 1 = 1 := by decide
      obtain rfl : r' = 0 := by omega
      exact e1
    · rw [if_neg h1]
      have ne : ¬ a + ((lay 8 k').2.2.2 + r') = a + 1 := fun e => h1 (arow_inj (by decide) hk' (by decide) hr' ar1 (by show (lay 8 k').2.2.2 + r' = 1 + 0; omega)).1
      rw [e3' _ ne]
      exact x4 k' r' hk' hr' (by omega)
end CIT

/-! 9w.reader: a new reader: an empty row, its first rule -/
theorem d18 : (decode (bc 18) 4 = .ok (.aload_n 0, 1) ∧ decode (bc 18) 5 = .ok (.iconst 0, 1) ∧ decode (bc 18) 6 = .ok (.newarray .int, 2) ∧ decode (bc 18) 8 = .ok (.putfield 11, 3) ∧ decode (bc 18) 11 = .ok (.aload_n 0, 1)) ∧
  (decode (bc 18) 12 = .ok (.new 1, 3) ∧ decode (bc 18) 15 = .ok (.dup, 1) ∧ decode (bc 18) 16 = .ok (.invokespecial 17, 3)) ∧ decode (bc 18) 19 = .ok (.putfield 18, 3) ∧ decode (bc 18) 22 = .ok (.return_, 1) := by decide +kernel
def VR (a k : Nat) : Value := if k = 0 then .ref (a + 1) else if k = 8 then .ref (a + 2) else VI 2 a k
theorem dV2 (a : Nat) : ∀ k, k < NF 2 → updV (updV (dV 2) 0 (.ref (a + 1))) 8 (.ref (a + 2)) k = VR a k := by
  intro k hk
  have h9 : k < 9 := hk
  have z : k = 0 ∨ k = 8 ∨ (k ≠ 0 ∧ k ≠ 8 ∧ (k = 1 ∨ k = 2 ∨ k = 3 ∨ k = 4 ∨ k = 5 ∨ k = 6 ∨ k = 7)) := by omega
  rcases z with rfl | rfl | ⟨h0, h8, z⟩
  · rfl
  · rfl
  · unfold updV VR
    rw [if_neg h0, if_neg h8, if_neg h0, if_neg h8]
    rcases z with rfl | rfl | rfl | rfl | rfl | rfl | rfl <;> rfl
def IQr (G : Gl) (a : Nat) (H H' : Heap) : Prop := H'.size = a + 9 ∧ (∀ q, q < a → H'[q]? = H[q]?) ∧ BLK G H' 2 a (VR a) ∧ H'[a + 1]? = some (celG G 2 a 9 0) ∧ BLK G H' 3 (a + 2) (VI 3 (a + 2))
section RDR
variable {G : Gl}
theorem mk_2_3 : mkW 2 1 17 3 33 239 240 100 242 = true := by decide +kernel
theorem nst_2 : (RN 2, 17, yn 33) ∈ nstL := by decide +kernel
theorem ckQ18 : hasF 2 11 2 0 = true ∧ hasF 2 18 2 8 = true ∧ fldB 2 0 (.array .int) = true ∧ fldB 2 8 (.object "DarkStreet$Rule") = true := by decide +kernel
theorem noar2 {k r : Nat} (hk : k < NF 2) (h : arow (lay 2 k) r) : False := by
  have z := (arow_lt h).2
  have h9 : k < 9 := hk
  have : ∀ k, k < 9 → isAr 2 k = false := by decide
  rw [this k h9] at z
  cases z
theorem ci_18 {k : Nat} : Met G.1 (yn 18) (wsm 18) (rmk (k + 2) 8 489) (IPre G 2) (IPg (IQr G)) 8 489 (fun q => G.2.2.1 ≤ q) := by
  refine init_in (mi := 18) (c := 2) (k := k + 1) (mc := 8) (ms := 489) (by decide) rfl ⟨by decide, by decide⟩ (by decide +kernel) ⟨by decide +kernel, by decide +kernel⟩ (ix := 5) (ixw := 238) (by decide +kernel) (fun p e s m args below meth c' a ls B hrt hlk ea ha hl hsz X => ?_)
  have B' := B
  obtain ⟨hx, hbc, hown, hts, hin0, kk1, kx⟩ := B
  obtain ⟨x1, x2, x3, x4⟩ := X
  obtain ⟨⟨d1, d2, d3, d4, d5⟩, d6, d7, d8⟩ := d18
  refine lv_aload_n hx hbc d1 rfl hl ?_
  refine lv_iconst hx hbc d2 rfl ?_
  obtain ⟨fc, aw⟩ := kind_ty kk1 (kd := 10) ⟨by decide, by decide⟩
  refine va_newaK hx hbc (hts _ aw) rfl d3 rfl (by decide) (show (Int32.ofInt 0).toNatClampNeg = 0 by decide) (by decide) (by show 0 + 1 ≤ 8; omega) (by show 0 + 0 ≤ 489; omega) x1 (fun H1 cA g1 g2 g3 _ g5 => ?_)
  have ecA : cA = G.2.1.2.2 0 := Option.some.inj (g5.symm.trans fc)
  have cel : celG G 2 a 9 0 = arrV cA 0 (fun _ => defaultValue (newarray.typeOf ArrayType.int)) := by rw [ecA]; exact arr_ext (fun j hj => by cases hj)
  have tb : t_OB a (G.2.1.1 2) (NF 2) (G.2.1.2.1 2) H1 (dV 2) := x3.kept (g3 a (by omega))
  refine W_put B' ckQ18.1 (by decide) rfl (fldB_of ckQ18.2.2.1) rfl rfl tb d4 (fun H2 j y1 y2 y3 => ?_)
  refine lv_aload_n hx hbc d5 rfl hl ?_
  refine W_make hx hbc hown hts kk1 kx mk_2_3 (ci_33 (G := G) (k := k)) nst_2 ⟨by show k + 1 + 1 ≤ k + 2; omega, by show 64 * (k + 1) + 64 ≤ 64 * (k + 2); omega⟩ (by omega) (fun q hq => ?_) hsz (show (1 + 0 : Nat) ≤ 7 by decide) d6 (by show 0 + 1 + 1 + 6 ≤ 8; omega) (by show 0 + 0 + 9 + 480 ≤ 489; omega) (fun H3 H4 locs' z1 z2 z3 hlo => ?_)
  · rcases List.mem_append.mp hq with h | h
    · cases h
    · rw [List.mem_singleton.mp h]; exact ha
  obtain ⟨i1, i2, i3⟩ := z3
  have s2 : H2.size = a + 2 := by omega
  rw [s2] at i1 i2 i3 z1 z2 ⊢
  have tb4 : t_OB a (G.2.1.1 2) (NF 2) (G.2.1.2.1 2) H4 (updV (dV 2) 0 (.ref (a + 1))) := by
    have e1 : H4[a]? = H2[a]? := (i2 a (by omega)).trans (z2 a (by omega))
    exact y1.kept e1
  refine W_put B' ckQ18.2.1 (by decide) rfl (fldB_of ckQ18.2.2.2) rfl rfl tb4 d7 (fun H5 j5 w1 w2 w3 => ?_)
  have i1' : H4.size = a + 2 + 7 := i1
  refine W.vret hx hbc (hrt.trans rfl) (fun t ht hW => ⟨rfl, a, ea, ?_⟩) (fun q hq => ?_) d8 hlk
  · rcases List.mem_append.mp hq with h | h
    · exact hlo q h
    · rw [List.mem_singleton.mp h]; exact ha
  · rw [ht]
    refine ⟨by omega, fun q hq => ?_, ⟨w1.to (fun k hk => dV2 a k hk), fun k r hk hr => (noar2 hk hr).elim⟩, ?_, i3.kept (by decide) (fun q h1 h2 => w3 q (by omega))⟩
    · rw [w3 q (by omega), i2 q (by omega), z2 q (by omega), y3 q (by omega), g3 q (by omega)]
    · rw [w3 _ (by omega), i2 _ (by omega), z2 _ (by omega), y3 _ (by omega), g1, cel]
      rfl
end RDR

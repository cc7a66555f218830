/-! 9zc.new: 'new' at a place of a method: a contract's step -/
theorem SS.kx {G : Gl} {ob : Nat → Nat} {s : State} {H : Heap} (h : SS G ob s H) : KX G s := h.2.2.2.2.2.2.2.2.2
theorem Z0_rng (c f r j : Nat) : -1 ≤ Z0 c f r j ∧ Z0 c f r j ≤ 15 := by
  unfold Z0 iv
  repeat' split
  all_goals omega
theorem wfs_bo0 {σ : Mem} (h : wfσ σ) (o : Nat) : wfσ (bo0 o σ) := fun x f r j => by
  unfold bo0
  split
  · have z := Z0_rng (cls o) f r j
    exact ⟨fun _ => by unfold I64; omega, fun _ => by unfold I32; omega⟩
  · exact h x f r j
theorem wfσ.bo0 {σ : Mem} (h : wfσ σ) (o : Nat) : wfσ (bo0 o σ) := wfs_bo0 h o
section NEW
variable {G : Gl} {w0 w w2 : Wd} {k : Nat} {rc rc2 : Nat × Nat} {mi pc : Nat} {ls : List (Option AV)} {st : List AV} {σ : Mem} {Q : Option AV → Mem → Prop}
theorem S_birth {ix ix2 c y i1 i2 i3 i4 mc ms o : Nat} (hw : mkW (own mi) ix ix2 c y i1 i2 i3 i4 = true)
    (hM : Met G.1 (yn y) (wsm y) (rmk k mc ms) (IPre G c) (IPg (IQ1 G c)) mc ms (fun q => G.2.2.1 ≤ q)) (hl : (RN (own mi), ix2, yn y) ∈ nstL) (hc : cls o = c) (ho : (3 ≤ o ∧ o < 7) ∨ (13 ≤ o ∧ o < 21)) (hno : ¬ born w o)
    (hd : decode (bc mi) pc = .ok (.new ix, 3) ∧ decode (bc mi) (pc + 3) = .ok (.dup, 1) ∧ decode (bc mi) (pc + 4) = .ok (.invokespecial ix2, 3)) (hs : csum st ≤ 7) (hrc : rc.1 = 1 + mc + rc2.1 ∧ rc.2 = NF c + ms + rc2.2) (hww0 : ∀ x, born w0 x → born w x) (hr : nrM o σ)
    (kk : TT G w0 (wdN w o) w2 (k + 1) rc2 mi (pc + 7) ls (vr o 0 0 :: st) (bo0 o σ) Q) : TT G w0 w w2 (k + 1) rc mi pc ls st σ Q := by
  intro p e s m args below meth c' H locs cells slots mcc mss lsr ob0 ob hE h1 h2
  have hE2 := hE
  obtain ⟨cx, kk1, ss, rep, wσ, wst, wls, lh, fr, ag⟩ := hE
  obtain ⟨f1, f2, f3, f4⟩ := fr
  refine W_make cx.1 cx.2.1 cx.2.2.2.2.1 cx.2.2.2.2.2.1 kk1 (SS.kx ss) hw hM hl ⟨Nat.le_refl _, by show 64 * k + 64 ≤ 64 * (k + 1); omega⟩ (Nat.le_trans f2 f1) f4 (lh.1.trans cx.2.2.2.1.symm) (by rw [csum_eq]; exact hs) hd (by show cells + 1 + mc ≤ mcc; omega) (by show slots + NF c + ms ≤ mss; omega) (fun H1 H2 locs' z1 z2 z3 hlo => ?_)
  obtain ⟨j1, j2, j3⟩ := z3
  have hkeep : ∀ q, q < H.size → H2[q]? = H[q]? := fun q hq => (j2 q hq).trans (z2 q hq)
  subst hc
  have rep' := rep.birth hno ho (Nat.le_refl _) (Nat.le_trans f2 f1) hkeep j3 hr
  have hbo : ∀ x, born w x → born (wdN w o) x := fun x h => (born_wN (by omega) x).mpr (Or.inl h)
  have agn : ∀ x, born w x ∨ 999 ≤ x → obN ob o H.size x = ob x := fun x h => if_neg (fun e => by
    rcases h with h | h
    · exact hno (e ▸ h)
    · omega)
  have hE3 := hE2.after (st'' := st) (st' := vr o 0 0 :: st) hbo hww0 agn rep' (wσ.bo0 o) (locs1 := locs') ⟨by rw [j1]; omega, f2, fun q hq => by rw [hkeep q (by omega)]; exact f3 q hq, hlo⟩ (wf_cons (show vld (wdN w o) o 0 0 from Or.inr ⟨(born_wN (by omega) o).mpr (Or.inr rfl), Or.inl ⟨rfl, rfl⟩⟩) (fun v hv => wfv.mono hbo (wst v hv)))
  have z := kk p e s m args below meth c' H2 locs' (cells + 1 + mc) (slots + NF (cls o) + ms) mcc mss lsr ob0 (obN ob o H.size) hE3 (by omega) (by omega)
  have em : (vr o 0 0 :: st).map (val (obN ob o H.size)) = Value.ref H.size :: st.map (val ob) := by
    rw [List.map_cons, map_ag agn wst]
    show Value.ref (adr (obN ob o H.size) o 0 0) :: _ = _
    rw [adr_dis]
    show Value.ref (obN ob o H.size o + 0) :: _ = _
    rw [show obN ob o H.size o = H.size from if_pos rfl]
    rfl
  rw [em] at z
  exact z
end NEW

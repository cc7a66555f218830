/-! 9v.leafs: the contracts of the constructors that make rows alone; a reader with its first rule -/
theorem met_post {l : Launch} {y : MethodName} {ws : List Cond} {rm : Room} {Pc : Array Value → State → Prop} {Qc Qd : Array Value → State → Outcome → State → Prop} {mc ms : Nat} {free : Addr → Prop} (h : Met l y ws rm Pc Qc mc ms free) (hq : ∀ a st o t, Qc a st o t → Qd a st o t) : Met l y ws rm Pc Qd mc ms free :=
  MetFree.mono h (fun _ _ z => z) (fun _ _ _ _ _ z => z) (fun a st o t _ z => ⟨hq a st o t z.1, z.2⟩)
/-- how many cells an object with its rows has -/
def nB (c : Nat) : Nat := [4, 4, 2, 7, 162, 13, 4, 328, 66].getD c 0
theorem nB_all : ∀ c, c < 9 → ∀ k, k < NF c → isAr c k = true → (lay c k).2.2.2 + cnt c k ≤ nB c := by decide +kernel
def IQ1 (G : Gl) (c : Nat) (a : Nat) (H H' : Heap) : Prop := H'.size = a + nB c ∧ (∀ q, q < a → H'[q]? = H[q]?) ∧ BLK G H' c a (VI c a)
theorem BLK.kept {G : Gl} {H H' : Heap} {c a : Nat} {V : Nat → Value} (h : BLK G H c a V) (hc : c < 9) (hk : ∀ q, a ≤ q → q < a + nB c → H'[q]? = H[q]?) : BLK G H' c a V := by
  have hp : 1 ≤ nB c := by
    have : c = 0 ∨ c = 1 ∨ c = 2 ∨ c = 3 ∨ c = 4 ∨ c = 5 ∨ c = 6 ∨ c = 7 ∨ c = 8 := by omega
    rcases this with rfl | rfl | rfl | rfl | rfl | rfl | rfl | rfl | rfl <;> decide
  refine ⟨h.1.kept (hk a (Nat.le_refl a) (by omega)), fun k r hk' hr => ?_⟩
  have z := arow_lt hr
  have y := nB_all c hc k hk' z.2
  rw [hk _ (by omega) (by omega)]
  exact h.2 k r hk' hr
section LFS
variable {G : Gl}
theorem leaf_of {mi c k : Nat} {gs : List Gp} {mc ms : Nat} (hc9 : c < 9) (ho : own mi = c) (hm : mi < 250 ∧ mi ≠ 248) (hnm : (yn mi).name = "<init>") (hnl : 1 ≤ nL mi ∧ nL mi ≤ 20) (hr : rt mi = none) {ix ixw : Nat}
    (hg : okGs mi c 4 1 gs = true ∧ decide (decode (bc mi) (gsE c 4 gs) = .ok (.return_, 1)) = true ∧ ini mi ix ixw = true) (hv : okFv c gs = true) (hn : 1 + gsC c gs = nB c) (e1 : gsC c gs = mc) (e2 : gsS c gs = ms) :
    Met G.1 (yn mi) (wsm mi) (rmk (k + 1) mc ms) (IPre G c) (IPg (IQ1 G c)) mc ms (fun q => G.2.2.1 ≤ q) := by
  have h := init_ok (G := G) (k := k) hc9 ho hm hnm hnl hr hg.2.2 hg.1 hg.2.1
  have z := met_post h (init_blk (G := G) (k := k) (n := nB c) (mc := mc) (ms := ms) hv hn h)
  rw [e1, e2] at z
  exact z
theorem ci_0 {k : Nat} : Met G.1 (yn 0) (wsm 0) (rmk (k + 1) 3 36) (IPre G 0) (IPg (IQ1 G 0)) 3 36 (fun q => G.2.2.1 ≤ q) := leaf_of (by decide) rfl ⟨by decide, by decide⟩ (by decide +kernel) ⟨by decide +kernel, by decide +kernel⟩ (by decide +kernel) ckI_0 ckV_all.1 (by decide) (by decide) (by decide)
theorem ci_5 {k : Nat} : Met G.1 (yn 5) (wsm 5) (rmk (k + 1) 3 95) (IPre G 1) (IPg (IQ1 G 1)) 3 95 (fun q => G.2.2.1 ≤ q) := leaf_of (by decide) rfl ⟨by decide, by decide⟩ (by decide +kernel) ⟨by decide +kernel, by decide +kernel⟩ (by decide +kernel) ckI_5 ckV_all.2.1 (by decide) (by decide) (by decide)
theorem ci_33 {k : Nat} : Met G.1 (yn 33) (wsm 33) (rmk (k + 1) 6 480) (IPre G 3) (IPg (IQ1 G 3)) 6 480 (fun q => G.2.2.1 ≤ q) := leaf_of (by decide) rfl ⟨by decide, by decide⟩ (by decide +kernel) ⟨by decide +kernel, by decide +kernel⟩ (by decide +kernel) ckI_33 ckV_all.2.2.1 (by decide) (by decide) (by decide)
theorem ci_42 {k : Nat} : Met G.1 (yn 42) (wsm 42) (rmk (k + 1) 161 1324) (IPre G 4) (IPg (IQ1 G 4)) 161 1324 (fun q => G.2.2.1 ≤ q) := leaf_of (by decide) rfl ⟨by decide, by decide⟩ (by decide +kernel) ⟨by decide +kernel, by decide +kernel⟩ (by decide +kernel) ckI_42 ckV_all.2.2.2.1 (by decide) (by decide) (by decide)
theorem ci_63 {k : Nat} : Met G.1 (yn 63) (wsm 63) (rmk (k + 1) 12 70) (IPre G 5) (IPg (IQ1 G 5)) 12 70 (fun q => G.2.2.1 ≤ q) := leaf_of (by decide) rfl ⟨by decide, by decide⟩ (by decide +kernel) ⟨by decide +kernel, by decide +kernel⟩ (by decide +kernel) ckI_63 ckV_all.2.2.2.2.1 (by decide) (by decide) (by decide)
theorem ci_67 {k : Nat} : Met G.1 (yn 67) (wsm 67) (rmk (k + 1) 3 24) (IPre G 6) (IPg (IQ1 G 6)) 3 24 (fun q => G.2.2.1 ≤ q) := leaf_of (by decide) rfl ⟨by decide, by decide⟩ (by decide +kernel) ⟨by decide +kernel, by decide +kernel⟩ (by decide +kernel) ckI_67 ckV_all.2.2.2.2.2 (by decide) (by decide) (by decide)
end LFS

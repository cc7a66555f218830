/-! 72x.blk: the stretches before a call of a string (by wip/gen/genx3.py) -/
section BLZ
variable {G : Gl} {w w2 : Wd} {k ks : Nat} {sm : Sm} {C : CCt} {U : List Nat} {Q : Option AV → Mem → Prop} {T : Kont} {n : Nat}
set_option maxRecDepth 100000 in
theorem b30_11 {a2 : Int} {l0 l1 l2 l3 l4 l5 l7 : Option AV} {st : List AV} {σ : Mem} : vcn G w w2 k ks sm C Q T 30 (vb G w w2 k ks sm C U Q T 30 n) 2 11 [l0, l1, l2, l3, l4, l5, some (vi a2), l7] (st) σ = (vb G w w2 k ks sm C U Q T 30 n 15 [l0, l1, l2, l3, l4, l5, some (vi a2), l7] ((vr 1000 0 0) :: (vi a2) :: st) σ) := rfl
set_option maxRecDepth 100000 in
theorem b30_21 {a2 : Int} {l0 l1 l2 l3 l4 l5 l7 : Option AV} {st : List AV} {σ : Mem} : vcn G w w2 k ks sm C Q T 30 (vb G w w2 k ks sm C U Q T 30 n) 2 21 [l0, l1, l2, l3, l4, l5, some (vi a2), l7] (st) σ = (vb G w w2 k ks sm C U Q T 30 n 25 [l0, l1, l2, l3, l4, l5, some (vi a2), l7] ((vi a2) :: (vr 1000 0 0) :: st) σ) := rfl
set_option maxRecDepth 100000 in
theorem b157_41 {a2 : Int} {q6 : Option (Nat × Nat × Nat)} {l3 l4 : Option AV} {st : List AV} {σ : Mem} : vcn G w w2 k ks sm C Q T 157 (vb G w w2 k ks sm C U Q T 157 n) 5 41 [some (vr 21 0 0), some (.inr (.inr q6)), some (vi a2), l3, l4] (st) σ = (0 = 0 ∧ 0 = 0 ∧ cls 21 = 8 ∧ 21 < 22 ∧ I32 (a2 - (σ 21 40 0 0)) ∧ vb G w w2 k ks sm C U Q T 157 n 48 [some (vr 21 0 0), some (.inr (.inr q6)), some (vi a2), l3, l4] ((.inr (.inr q6)) :: (vi (a2 - (σ 21 40 0 0))) :: st) σ) := rfl
set_option maxRecDepth 100000 in
theorem b157_63 {a2 : Int} {q4 : Option (Nat × Nat × Nat)} {l0 l2 l3 : Option AV} {st : List AV} {σ : Mem} : vcn G w w2 k ks sm C Q T 157 (vb G w w2 k ks sm C U Q T 157 n) 2 63 [l0, some (.inr (.inr q4)), l2, l3, some (vi a2)] (st) σ = (vb G w w2 k ks sm C U Q T 157 n 66 [l0, some (.inr (.inr q4)), l2, l3, some (vi a2)] ((.inr (.inr q4)) :: (vi a2) :: st) σ) := rfl
set_option maxRecDepth 100000 in
theorem b157_76 {a4 : Int} {q6 : Option (Nat × Nat × Nat)} {l2 l3 : Option AV} {st : List AV} {σ : Mem} : vcn G w w2 k ks sm C Q T 157 (vb G w w2 k ks sm C U Q T 157 n) 9 76 [some (vr 21 0 0), some (.inr (.inr q6)), l2, l3, some (vi a4)] (st) σ = (0 = 0 ∧ 0 = 0 ∧ cls 21 = 8 ∧ 21 < 22 ∧ (10 ≤ 13 ∧ 13 < 22) ∧ 0 = 0 ∧ 0 = 0 ∧ cls 21 = 8 ∧ 21 < 22 ∧ I32 ((σ 21 40 0 0) + a4) ∧ (aok 21 49 0 12 ((σ 21 40 0 0) + a4) ∨ aok 21 49 0 13 ((σ 21 40 0 0) + a4)) ∧ vb G w w2 k ks sm C U Q T 157 n 91 [some (vr 21 0 0), some (.inr (.inr q6)), l2, l3, some (vi a4)] ((vi a4) :: (.inr (.inr q6)) :: (vi (σ 21 49 0 (Int.toNat ((σ 21 40 0 0) + a4)))) :: st) σ) := rfl
set_option maxRecDepth 100000 in
theorem b158_19 {q2 : Option (Nat × Nat × Nat)} {l0 l2 : Option AV} {st : List AV} {σ : Mem} : vcn G w w2 k ks sm C Q T 158 (vb G w w2 k ks sm C U Q T 158 n) 1 19 [l0, some (.inr (.inr q2)), l2] (st) σ = (vb G w w2 k ks sm C U Q T 158 n 20 [l0, some (.inr (.inr q2)), l2] ((.inr (.inr q2)) :: st) σ) := rfl
end BLZ

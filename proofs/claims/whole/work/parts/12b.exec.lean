/-! 12b.exec: a step's outcome as data; ev, which simp evaluates, gives TT -/
abbrev Sx : Type := Nat × List (Option AV) × List AV × Mem
abbrev Rx : Type := Prop × List (Prop × Sx) × Option (Nat × List AV × Mem × Nat × List (Option AV) × List AV)
def rs (c : Prop) (s : Sx) : Rx := (c, [(True, s)], none)
def rF : Rx := (False, [], none)
abbrev CCt : Type := Nat → List AV → Mem → (Option AV → Mem → Prop) → Prop
def allK (K : Sx → Prop) : List (Prop × Sx) → Prop
  | [] => True
  | q :: r => (q.1 → K q.2) ∧ allK K r
def callK (CCf : CCt) (K : Sx → Prop) : Option (Nat × List AV × Mem × Nat × List (Option AV) × List AV) → Prop
  | none => True
  | some q => CCf q.1 q.2.1 q.2.2.1 (fun rv σ' => K (q.2.2.2.1, q.2.2.2.2.1, ps rv q.2.2.2.2.2, σ'))
def fin (CCf : CCt) (K : Sx → Prop) (r : Rx) : Prop := r.1 ∧ allK K r.2.1 ∧ callK CCf K r.2.2
def eI (κ : AV → Rx) : Option AV → Rx
  | some (.inl a) => κ (vi a)
  | _ => rF
def eL (κ : AV → Rx) : Option AV → Rx
  | some (.inr (.inl a)) => κ (vl a)
  | _ => rF
def eA (κ : AV → Rx) : Option AV → Rx
  | some (.inr (.inr q)) => κ (.inr (.inr q))
  | _ => rF
def eInc (κ : Int → Rx) : Option AV → Rx
  | some (.inl a) => κ a
  | _ => rF
def e1i (κ : Int → List AV → Rx) : List AV → Rx
  | .inl a :: r => κ a r
  | _ => rF
def e2i (κ : Int → Int → List AV → Rx) : List AV → Rx
  | .inl b :: .inl a :: r => κ a b r
  | _ => rF
def e1l (κ : Int → List AV → Rx) : List AV → Rx
  | .inr (.inl a) :: r => κ a r
  | _ => rF
def e2l (κ : Int → Int → List AV → Rx) : List AV → Rx
  | .inr (.inl b) :: .inr (.inl a) :: r => κ a b r
  | _ => rF
def e1q (κ : Option (Nat × Nat × Nat) → List AV → Rx) : List AV → Rx
  | .inr (.inr q) :: r => κ q r
  | _ => rF
def e1r (κ : Nat → Nat → Nat → List AV → Rx) : List AV → Rx
  | .inr (.inr (some (o, f, r))) :: t => κ o f r t
  | _ => rF
def eRecv (κ : Nat → Nat → Nat → List AV → Rx) : List AV → Rx
  | .inr (.inr (some (o, f, r))) :: t => κ o f r t
  | _ => rF
def eir (κ : Int → Nat → Nat → Nat → List AV → Rx) : List AV → Rx
  | .inl i :: .inr (.inr (some (o, f, r))) :: t => κ i o f r t
  | _ => rF
def eiir (κ : Int → Int → Nat → Nat → Nat → List AV → Rx) : List AV → Rx
  | .inl x :: .inl i :: .inr (.inr (some (o, f, r))) :: t => κ x i o f r t
  | _ => rF
def elir (κ : Int → Int → Nat → Nat → Nat → List AV → Rx) : List AV → Rx
  | .inr (.inl x) :: .inl i :: .inr (.inr (some (o, f, r))) :: t => κ x i o f r t
  | _ => rF
def edup (κ : AV → List AV → Rx) : List AV → Rx
  | .inl a :: t => κ (.inl a) t
  | .inr (.inr a) :: t => κ (.inr (.inr a)) t
  | _ => rF
def edup2 (κ : List AV → Rx) : List AV → Rx
  | .inr (.inl x) :: t => κ (vl x :: vl x :: t)
  | .inl v :: .inl u :: t => κ (.inl v :: .inl u :: .inl v :: .inl u :: t)
  | .inl v :: .inr (.inr u) :: t => κ (.inl v :: .inr (.inr u) :: .inl v :: .inr (.inr u) :: t)
  | .inr (.inr v) :: .inl u :: t => κ (.inr (.inr v) :: .inl u :: .inr (.inr v) :: .inl u :: t)
  | .inr (.inr v) :: .inr (.inr u) :: t => κ (.inr (.inr v) :: .inr (.inr u) :: .inr (.inr v) :: .inr (.inr u) :: t)
  | _ => rF
def epop2 (κ : List AV → Rx) : List AV → Rx
  | .inr (.inl _) :: t => κ t
  | _ => rF
def tbL (a : Int) (ls : List (Option AV)) (t : List AV) (σ : Mem) (pc : Nat) : Int → List Int → List (Prop × Sx)
  | _, [] => []
  | lo, o :: r => (a = lo, (((pc : Int) + o).toNat, ls, t, σ)) :: tbL a ls t σ pc (lo + 1) r
def lkL (a : Int) (ls : List (Option AV)) (t : List AV) (σ : Mem) (pc : Nat) (d : Int) : List (Int × Int) → List (Prop × Sx)
  | [] => [(True, (((pc : Int) + d).toNat, ls, t, σ))]
  | q :: r => (a = q.1, (((pc : Int) + q.2).toNat, ls, t, σ)) :: (lkL a ls t σ pc d r).map (fun p => (¬ a = q.1 ∧ p.1, p.2))
def gfR (w : Wd) (q : Nat × Nat × Nat × Nat) (c : Prop) (o k : Nat) (σ : Mem) (pc : Nat) (ls : List (Option AV)) (t : List AV) : Rx :=
  if q.1 = 0 then rs c (pc, ls, vi (σ o (k + 1) 0 0) :: t, σ) else if q.1 = 2 then rs c (pc, ls, vi (σ o (k + 1) 0 0) :: t, σ) else if q.1 = 1 then rs c (pc, ls, vl (σ o (k + 1) 0 0) :: t, σ) else if q.1 = 3 then rs (c ∧ wfv w (dec (σ o (k + 1) 0 0))) (pc, ls, dec (σ o (k + 1) 0 0) :: t, σ) else if q.1 = 4 then rs (c ∧ (q.2.1 < 3 ∨ (7 ≤ q.2.1 ∧ q.2.1 ≤ 12))) (pc, ls, vr q.2.1 0 0 :: t, σ) else rs (c ∧ 10 ≤ q.1 ∧ q.1 < 22) (pc, ls, vr o (k + 1) 0 :: t, σ)
def pfR (q : Nat × Nat × Nat × Nat) (κ : Prop → Int → Nat → List AV → Rx) : List AV → Rx
  | .inl a :: .inr (.inr (some (o, f, r))) :: t => κ (f = 0 ∧ r = 0 ∧ (q.1 = 0 ∨ (q.1 = 2 ∧ (a = 0 ∨ a = 1)))) a o t
  | .inr (.inl a) :: .inr (.inr (some (o, f, r))) :: t => κ (f = 0 ∧ r = 0 ∧ q.1 = 1) a o t
  | .inr (.inr none) :: .inr (.inr (some (o, f, r))) :: t => κ (f = 0 ∧ r = 0 ∧ q.1 = 3) 0 o t
  | .inr (.inr (some (o2, f2, r2))) :: .inr (.inr (some (o, f, r))) :: t => κ (f = 0 ∧ r = 0 ∧ q.1 = 3 ∧ o2 < 64 ∧ f2 < 200 ∧ r2 < 1000) (enc o2 f2 r2) o t
  | _ => rF
def callR (sm : Sm) (ks k : Nat) (c : Prop) (y : Nat) (as : List AV) (σ : Mem) (pc : Nat) (ls : List (Option AV)) (t : List AV) : Rx :=
  match sm y with
  | some f => rs (c ∧ ks < k ∧ (f as σ).1) (pc, ls, ps (f as σ).2 t, σ)
  | none => (c ∧ 0 < k, [], some (y, as, σ, pc, ls, t))
def exec (G : Gl) (w w2 : Wd) (k ks : Nat) (sm : Sm) (T0 : Prop) (Q : Option AV → Mem → Prop) (pc : Nat) (i : Instr) (len : Nat) (x : Int) (y z : Nat) (ls : List (Option AV)) (st : List AV) (σ : Mem) : Rx :=
  match i with
  | .iconst _ => rs True (pc + len, ls, vi x :: st, σ)
  | .bipush _ => rs True (pc + len, ls, vi x :: st, σ)
  | .sipush _ => rs True (pc + len, ls, vi x :: st, σ)
  | .lconst _ => rs True (pc + len, ls, vl x :: st, σ)
  | .ldc2_w _ => rs True (pc + len, ls, vl x :: st, σ)
  | .aconst_null => rs True (pc + len, ls, vn :: st, σ)
  | .ldc _ => if z = 1 then rs True (pc + len, ls, vr (1000 + y) 0 0 :: st, σ) else rs True (pc + len, ls, vi x :: st, σ)
  | .ldc_w _ => if z = 1 then rs True (pc + len, ls, vr (1000 + y) 0 0 :: st, σ) else rs True (pc + len, ls, vi x :: st, σ)
  | .iload _ => eI (fun v => rs True (pc + len, ls, v :: st, σ)) (lg ls y)
  | .iload_n _ => eI (fun v => rs True (pc + len, ls, v :: st, σ)) (lg ls y)
  | .lload _ => eL (fun v => rs True (pc + len, ls, v :: st, σ)) (lg ls y)
  | .lload_n _ => eL (fun v => rs True (pc + len, ls, v :: st, σ)) (lg ls y)
  | .aload _ => eA (fun v => rs True (pc + len, ls, v :: st, σ)) (lg ls y)
  | .aload_n _ => eA (fun v => rs True (pc + len, ls, v :: st, σ)) (lg ls y)
  | .istore _ => e1i (fun a t => rs (y < ls.length) (pc + len, (ls1 ls y (vi a)), t, σ)) st
  | .istore_n _ => e1i (fun a t => rs (y < ls.length) (pc + len, (ls1 ls y (vi a)), t, σ)) st
  | .lstore _ => e1l (fun a t => rs (y + 1 < ls.length) (pc + len, (ls2 ls y (vl a)), t, σ)) st
  | .lstore_n _ => e1l (fun a t => rs (y + 1 < ls.length) (pc + len, (ls2 ls y (vl a)), t, σ)) st
  | .astore _ => e1q (fun a t => rs (y < ls.length) (pc + len, (ls1 ls y (.inr (.inr a))), t, σ)) st
  | .astore_n _ => e1q (fun a t => rs (y < ls.length) (pc + len, (ls1 ls y (.inr (.inr a))), t, σ)) st
  | .iinc _ _ => eInc (fun a => rs (I32 (a + x)) (pc + len, (ls1 ls y (vi (a + x))), st, σ)) (lg ls y)
  | .iadd => e2i (fun a b t => rs (I32 (a + b)) (pc + len, ls, vi (a + b) :: t, σ)) st
  | .isub => e2i (fun a b t => rs (I32 (a - b)) (pc + len, ls, vi (a - b) :: t, σ)) st
  | .imul => e2i (fun a b t => rs (I32 (a * b)) (pc + len, ls, vi (a * b) :: t, σ)) st
  | .idiv => e2i (fun a b t => rs (0 ≤ a ∧ 0 < b) (pc + len, ls, vi (a / b) :: t, σ)) st
  | .irem => e2i (fun a b t => rs (0 ≤ a ∧ 0 < b) (pc + len, ls, vi (a % b) :: t, σ)) st
  | .ishl => e2i (fun a b t => rs (0 ≤ a ∧ 0 ≤ b ∧ b ≤ 30 ∧ I32 (a * 2 ^ b.toNat)) (pc + len, ls, vi (a * 2 ^ b.toNat) :: t, σ)) st
  | .ishr => e2i (fun a b t => rs (0 ≤ b ∧ b ≤ 31) (pc + len, ls, vi (a / 2 ^ b.toNat) :: t, σ)) st
  | .iushr => e2i (fun a b t => rs True (pc + len, ls, vi (ushr a b) :: t, σ)) st
  | .iand => e2i (fun a b t => rs True (pc + len, ls, vi (band a b) :: t, σ)) st
  | .ior => e2i (fun a b t => rs True (pc + len, ls, vi (bor a b) :: t, σ)) st
  | .ixor => e2i (fun a b t => rs True (pc + len, ls, vi (bxor a b) :: t, σ)) st
  | .ladd => e2l (fun a b t => rs True (pc + len, ls, vl (w64 (a + b)) :: t, σ)) st
  | .lsub => e2l (fun a b t => rs True (pc + len, ls, vl (w64 (a - b)) :: t, σ)) st
  | .lmul => e2l (fun a b t => rs True (pc + len, ls, vl (w64 (a * b)) :: t, σ)) st
  | .land => e2l (fun a b t => rs True (pc + len, ls, vl (land64 a b) :: t, σ)) st
  | .lor => e2l (fun a b t => rs True (pc + len, ls, vl (lor64 a b) :: t, σ)) st
  | .lcmp => e2l (fun a b t => rs True (pc + len, ls, vi (lcmpI a b) :: t, σ)) st
  | .ldiv => e2l (fun a b t => rs (b ≠ 0) (pc + len, ls, vl (w64 (Int.tdiv a b)) :: t, σ)) st
  | .ineg => e1i (fun a t => rs (I32 (-a)) (pc + len, ls, vi (-a) :: t, σ)) st
  | .i2l => e1i (fun a t => rs True (pc + len, ls, vl a :: t, σ)) st
  | .l2i => e1l (fun a t => rs True (pc + len, ls, vi (w32 a) :: t, σ)) st
  | .i2b => e1i (fun a t => rs True (pc + len, ls, vi (w8 a) :: t, σ)) st
  | .dup => edup (fun v t => rs True (pc + len, ls, v :: v :: t, σ)) st
  | .pop => edup (fun _ t => rs True (pc + len, ls, t, σ)) st
  | .dup2 => edup2 (fun t => rs True (pc + len, ls, t, σ)) st
  | .pop2 => epop2 (fun t => rs True (pc + len, ls, t, σ)) st
  | .goto _ => rs True (y, ls, st, σ)
  | .if_icmp c _ => e2i (fun a b t => (True, [(cmpI c a b, (y, ls, t, σ)), (¬ cmpI c a b, (pc + len, ls, t, σ))], none)) st
  | .ifCond c _ => e1i (fun a t => (True, [(cmpI c a 0, (y, ls, t, σ)), (¬ cmpI c a 0, (pc + len, ls, t, σ))], none)) st
  | .ifnull _ => e1q (fun q t => (True, [(q = none, (y, ls, t, σ)), (¬ q = none, (pc + len, ls, t, σ))], none)) st
  | .ifnonnull _ => e1q (fun q t => (True, [(¬ q = none, (y, ls, t, σ)), (q = none, (pc + len, ls, t, σ))], none)) st
  | .tableswitch d lo hi offs => e1i (fun a t => (True, ((a < lo ∨ hi < a), (((pc : Int) + d).toNat, ls, t, σ)) :: tbL a ls t σ pc lo offs.toList, none)) st
  | .lookupswitch d prs => e1i (fun a t => (True, lkL a ls t σ pc d prs.toList, none)) st
  | .ireturn => e1i (fun a t => (t = [] ∧ w = w2 ∧ (y = 1 → a = 0 ∨ a = 1) ∧ Q (some (vi a)) σ, [], none)) st
  | .lreturn => e1l (fun a t => (t = [] ∧ w = w2 ∧ Q (some (vl a)) σ, [], none)) st
  | .areturn => e1q (fun q t => (t = [] ∧ w = w2 ∧ Q (some (.inr (.inr q))) σ, [], none)) st
  | .return_ => (st = [] ∧ w = w2 ∧ Q none σ, [], none)
  | .iaload => eir (fun i o f r t => if f = 999 then rs (o = 999 ∧ r = 0 ∧ 0 ≤ i ∧ i < G.2.2.2.1.1) (pc + len, ls, vi (G.2.2.2.1.2 i.toNat) :: t, σ) else rs (aok o f r 10 i) (pc + len, ls, vi (σ o f r i.toNat) :: t, σ)) st
  | .laload => eir (fun i o f r t => rs (aok o f r 11 i) (pc + len, ls, vl (σ o f r i.toNat) :: t, σ)) st
  | .baload => eir (fun i o f r t => rs (aok o f r 12 i ∨ aok o f r 13 i) (pc + len, ls, vi (σ o f r i.toNat) :: t, σ)) st
  | .iastore => eiir (fun a i o f r t => rs (aok o f r 10 i) (pc + len, ls, t, up σ o f r i.toNat a)) st
  | .lastore => elir (fun a i o f r t => rs (aok o f r 11 i) (pc + len, ls, t, up σ o f r i.toNat a)) st
  | .bastore => eiir (fun a i o f r t => rs ((aok o f r 12 i ∧ (a = 0 ∨ a = 1)) ∨ (aok o f r 13 i ∧ -128 ≤ a ∧ a ≤ 127)) (pc + len, ls, t, up σ o f r i.toNat a)) st
  | .aaload => eir (fun i o f r t => if 20 ≤ (lay (cls o) (f - 1)).1 then rs (o < 22 ∧ f ≠ 0 ∧ r = 0 ∧ 0 ≤ i ∧ i < (lay (cls o) (f - 1)).2.1) (pc + len, ls, vr o f (i.toNat + 1) :: t, σ) else rs (o < 22 ∧ f ≠ 0 ∧ r = 0 ∧ 0 ≤ i ∧ i < (lay (cls o) (f - 1)).2.1 ∧ (lay (cls o) (f - 1)).1 = 14 ∧ ((lay (cls o) (f - 1)).2.2.1 = 6 ∨ (lay (cls o) (f - 1)).2.2.1 = 7) ∧ wfv w (dec (σ o f 0 i.toNat))) (pc + len, ls, dec (σ o f 0 i.toNat) :: t, σ)) st
  | .arraylength => e1r (fun o f r t => if f = 999 then rs (o = 999 ∧ r = 0) (pc + len, ls, vi (G.2.2.2.1.1 : Nat) :: t, σ) else rs (o < 22 ∧ f ≠ 0 ∧ ((lay (cls o) (f - 1)).1 < 14 ∨ 20 ≤ (lay (cls o) (f - 1)).1) ∧ (akk (lay (cls o) (f - 1)) r).2 < 2000000000) (pc + len, ls, vi ((akk (lay (cls o) (f - 1)) r).2 : Nat) :: t, σ)) st
  | .getfield _ => e1r (fun o f r t => gfR w (lay y z) (f = 0 ∧ r = 0 ∧ cls o = y ∧ o < 22) o z σ (pc + len) ls t) st
  | .putfield _ => pfR (lay y z) (fun c a o t => rs (c ∧ cls o = y ∧ o < 22) (pc + len, ls, t, up σ o (z + 1) 0 0 a)) st
  | .invokevirtual _ => if y < 250 then eRecv (fun o f r t => callR sm ks k (z < st.length ∧ f = 0 ∧ r = 0 ∧ o < 22 ∧ (cls o : Int) = x ∧ csum t ≤ 8) y (vr o 0 0 :: (popA z [] st).1) σ (pc + len) ls t) (popA z [] st).2 else (T0, [], none)
  | .invokestatic _ => if y < 250 then callR sm ks k (z ≤ st.length ∧ csum (popA z [] st).2 ≤ 8) y (popA z [] st).1 σ (pc + len) ls (popA z [] st).2
    else if y = 1000 then e1i (fun a t => rs (0 < k ∧ csum t ≤ 8 ∧ I32 (-a)) (pc + len, ls, vi (max a (-a)) :: t, σ)) st else
    if y = 1001 then e2i (fun a b t => rs (0 < k ∧ csum t ≤ 8) (pc + len, ls, vi (max a b) :: t, σ)) st else
    if y = 1002 then e2i (fun a b t => rs (0 < k ∧ csum t ≤ 8) (pc + len, ls, vi (min a b) :: t, σ)) st else
    if y = 1003 then e2l (fun a b t => rs (0 < k ∧ csum t ≤ 8) (pc + len, ls, vl (max a b) :: t, σ)) st else
    if y = 1004 then e2l (fun a b t => rs (0 < k ∧ csum t ≤ 8) (pc + len, ls, vl (min a b) :: t, σ)) st else (T0, [], none)
  | _ => (T0, [], none)
theorem x_iconst {G : Gl} {w w2 : Wd} {k ks : Nat} {sm : Sm} {T0 : Prop} {Q : Option AV → Mem → Prop} {pc len : Nat} {x : Int} {y z : Nat} {ls : List (Option AV)} {st : List AV} {σ : Mem} {u0 : Int} : exec G w w2 k ks sm T0 Q pc (.iconst u0) len x y z ls st σ = rs True (pc + len, ls, vi x :: st, σ) := rfl
theorem x_bipush {G : Gl} {w w2 : Wd} {k ks : Nat} {sm : Sm} {T0 : Prop} {Q : Option AV → Mem → Prop} {pc len : Nat} {x : Int} {y z : Nat} {ls : List (Option AV)} {st : List AV} {σ : Mem} {u0 : Int} : exec G w w2 k ks sm T0 Q pc (.bipush u0) len x y z ls st σ = rs True (pc + len, ls, vi x :: st, σ) := rfl
theorem x_sipush {G : Gl} {w w2 : Wd} {k ks : Nat} {sm : Sm} {T0 : Prop} {Q : Option AV → Mem → Prop} {pc len : Nat} {x : Int} {y z : Nat} {ls : List (Option AV)} {st : List AV} {σ : Mem} {u0 : Int} : exec G w w2 k ks sm T0 Q pc (.sipush u0) len x y z ls st σ = rs True (pc + len, ls, vi x :: st, σ) := rfl
theorem x_lconst {G : Gl} {w w2 : Wd} {k ks : Nat} {sm : Sm} {T0 : Prop} {Q : Option AV → Mem → Prop} {pc len : Nat} {x : Int} {y z : Nat} {ls : List (Option AV)} {st : List AV} {σ : Mem} {u0 : Fin 2} : exec G w w2 k ks sm T0 Q pc (.lconst u0) len x y z ls st σ = rs True (pc + len, ls, vl x :: st, σ) := rfl
theorem x_ldc2_w {G : Gl} {w w2 : Wd} {k ks : Nat} {sm : Sm} {T0 : Prop} {Q : Option AV → Mem → Prop} {pc len : Nat} {x : Int} {y z : Nat} {ls : List (Option AV)} {st : List AV} {σ : Mem} {u0 : Nat} : exec G w w2 k ks sm T0 Q pc (.ldc2_w u0) len x y z ls st σ = rs True (pc + len, ls, vl x :: st, σ) := rfl
theorem x_aconst_null {G : Gl} {w w2 : Wd} {k ks : Nat} {sm : Sm} {T0 : Prop} {Q : Option AV → Mem → Prop} {pc len : Nat} {x : Int} {y z : Nat} {ls : List (Option AV)} {st : List AV} {σ : Mem}  : exec G w w2 k ks sm T0 Q pc (.aconst_null) len x y z ls st σ = rs True (pc + len, ls, vn :: st, σ) := rfl
theorem x_ldc {G : Gl} {w w2 : Wd} {k ks : Nat} {sm : Sm} {T0 : Prop} {Q : Option AV → Mem → Prop} {pc len : Nat} {x : Int} {y z : Nat} {ls : List (Option AV)} {st : List AV} {σ : Mem} {u0 : Nat} : exec G w w2 k ks sm T0 Q pc (.ldc u0) len x y z ls st σ = if z = 1 then rs True (pc + len, ls, vr (1000 + y) 0 0 :: st, σ) else rs True (pc + len, ls, vi x :: st, σ) := rfl
theorem x_ldc_w {G : Gl} {w w2 : Wd} {k ks : Nat} {sm : Sm} {T0 : Prop} {Q : Option AV → Mem → Prop} {pc len : Nat} {x : Int} {y z : Nat} {ls : List (Option AV)} {st : List AV} {σ : Mem} {u0 : Nat} : exec G w w2 k ks sm T0 Q pc (.ldc_w u0) len x y z ls st σ = if z = 1 then rs True (pc + len, ls, vr (1000 + y) 0 0 :: st, σ) else rs True (pc + len, ls, vi x :: st, σ) := rfl
theorem x_iload {G : Gl} {w w2 : Wd} {k ks : Nat} {sm : Sm} {T0 : Prop} {Q : Option AV → Mem → Prop} {pc len : Nat} {x : Int} {y z : Nat} {ls : List (Option AV)} {st : List AV} {σ : Mem} {u0 : Nat} : exec G w w2 k ks sm T0 Q pc (.iload u0) len x y z ls st σ = eI (fun v => rs True (pc + len, ls, v :: st, σ)) (lg ls y) := rfl
theorem x_iload_n {G : Gl} {w w2 : Wd} {k ks : Nat} {sm : Sm} {T0 : Prop} {Q : Option AV → Mem → Prop} {pc len : Nat} {x : Int} {y z : Nat} {ls : List (Option AV)} {st : List AV} {σ : Mem} {u0 : Fin 4} : exec G w w2 k ks sm T0 Q pc (.iload_n u0) len x y z ls st σ = eI (fun v => rs True (pc + len, ls, v :: st, σ)) (lg ls y) := rfl
theorem x_lload {G : Gl} {w w2 : Wd} {k ks : Nat} {sm : Sm} {T0 : Prop} {Q : Option AV → Mem → Prop} {pc len : Nat} {x : Int} {y z : Nat} {ls : List (Option AV)} {st : List AV} {σ : Mem} {u0 : Nat} : exec G w w2 k ks sm T0 Q pc (.lload u0) len x y z ls st σ = eL (fun v => rs True (pc + len, ls, v :: st, σ)) (lg ls y) := rfl
theorem x_lload_n {G : Gl} {w w2 : Wd} {k ks : Nat} {sm : Sm} {T0 : Prop} {Q : Option AV → Mem → Prop} {pc len : Nat} {x : Int} {y z : Nat} {ls : List (Option AV)} {st : List AV} {σ : Mem} {u0 : Fin 4} : exec G w w2 k ks sm T0 Q pc (.lload_n u0) len x y z ls st σ = eL (fun v => rs True (pc + len, ls, v :: st, σ)) (lg ls y) := rfl
theorem x_aload {G : Gl} {w w2 : Wd} {k ks : Nat} {sm : Sm} {T0 : Prop} {Q : Option AV → Mem → Prop} {pc len : Nat} {x : Int} {y z : Nat} {ls : List (Option AV)} {st : List AV} {σ : Mem} {u0 : Nat} : exec G w w2 k ks sm T0 Q pc (.aload u0) len x y z ls st σ = eA (fun v => rs True (pc + len, ls, v :: st, σ)) (lg ls y) := rfl
theorem x_aload_n {G : Gl} {w w2 : Wd} {k ks : Nat} {sm : Sm} {T0 : Prop} {Q : Option AV → Mem → Prop} {pc len : Nat} {x : Int} {y z : Nat} {ls : List (Option AV)} {st : List AV} {σ : Mem} {u0 : Fin 4} : exec G w w2 k ks sm T0 Q pc (.aload_n u0) len x y z ls st σ = eA (fun v => rs True (pc + len, ls, v :: st, σ)) (lg ls y) := rfl
theorem x_istore {G : Gl} {w w2 : Wd} {k ks : Nat} {sm : Sm} {T0 : Prop} {Q : Option AV → Mem → Prop} {pc len : Nat} {x : Int} {y z : Nat} {ls : List (Option AV)} {st : List AV} {σ : Mem} {u0 : Nat} : exec G w w2 k ks sm T0 Q pc (.istore u0) len x y z ls st σ = e1i (fun a t => rs (y < ls.length) (pc + len, (ls1 ls y (vi a)), t, σ)) st := rfl
theorem x_istore_n {G : Gl} {w w2 : Wd} {k ks : Nat} {sm : Sm} {T0 : Prop} {Q : Option AV → Mem → Prop} {pc len : Nat} {x : Int} {y z : Nat} {ls : List (Option AV)} {st : List AV} {σ : Mem} {u0 : Fin 4} : exec G w w2 k ks sm T0 Q pc (.istore_n u0) len x y z ls st σ = e1i (fun a t => rs (y < ls.length) (pc + len, (ls1 ls y (vi a)), t, σ)) st := rfl
theorem x_lstore {G : Gl} {w w2 : Wd} {k ks : Nat} {sm : Sm} {T0 : Prop} {Q : Option AV → Mem → Prop} {pc len : Nat} {x : Int} {y z : Nat} {ls : List (Option AV)} {st : List AV} {σ : Mem} {u0 : Nat} : exec G w w2 k ks sm T0 Q pc (.lstore u0) len x y z ls st σ = e1l (fun a t => rs (y + 1 < ls.length) (pc + len, (ls2 ls y (vl a)), t, σ)) st := rfl
theorem x_lstore_n {G : Gl} {w w2 : Wd} {k ks : Nat} {sm : Sm} {T0 : Prop} {Q : Option AV → Mem → Prop} {pc len : Nat} {x : Int} {y z : Nat} {ls : List (Option AV)} {st : List AV} {σ : Mem} {u0 : Fin 4} : exec G w w2 k ks sm T0 Q pc (.lstore_n u0) len x y z ls st σ = e1l (fun a t => rs (y + 1 < ls.length) (pc + len, (ls2 ls y (vl a)), t, σ)) st := rfl
theorem x_astore {G : Gl} {w w2 : Wd} {k ks : Nat} {sm : Sm} {T0 : Prop} {Q : Option AV → Mem → Prop} {pc len : Nat} {x : Int} {y z : Nat} {ls : List (Option AV)} {st : List AV} {σ : Mem} {u0 : Nat} : exec G w w2 k ks sm T0 Q pc (.astore u0) len x y z ls st σ = e1q (fun a t => rs (y < ls.length) (pc + len, (ls1 ls y (.inr (.inr a))), t, σ)) st := rfl
theorem x_astore_n {G : Gl} {w w2 : Wd} {k ks : Nat} {sm : Sm} {T0 : Prop} {Q : Option AV → Mem → Prop} {pc len : Nat} {x : Int} {y z : Nat} {ls : List (Option AV)} {st : List AV} {σ : Mem} {u0 : Fin 4} : exec G w w2 k ks sm T0 Q pc (.astore_n u0) len x y z ls st σ = e1q (fun a t => rs (y < ls.length) (pc + len, (ls1 ls y (.inr (.inr a))), t, σ)) st := rfl
theorem x_iinc {G : Gl} {w w2 : Wd} {k ks : Nat} {sm : Sm} {T0 : Prop} {Q : Option AV → Mem → Prop} {pc len : Nat} {x : Int} {y z : Nat} {ls : List (Option AV)} {st : List AV} {σ : Mem} {u0 : Nat} {u1 : Int} : exec G w w2 k ks sm T0 Q pc (.iinc u0 u1) len x y z ls st σ = eInc (fun a => rs (I32 (a + x)) (pc + len, (ls1 ls y (vi (a + x))), st, σ)) (lg ls y) := rfl
theorem x_iadd {G : Gl} {w w2 : Wd} {k ks : Nat} {sm : Sm} {T0 : Prop} {Q : Option AV → Mem → Prop} {pc len : Nat} {x : Int} {y z : Nat} {ls : List (Option AV)} {st : List AV} {σ : Mem}  : exec G w w2 k ks sm T0 Q pc (.iadd) len x y z ls st σ = e2i (fun a b t => rs (I32 (a + b)) (pc + len, ls, vi (a + b) :: t, σ)) st := rfl
theorem x_isub {G : Gl} {w w2 : Wd} {k ks : Nat} {sm : Sm} {T0 : Prop} {Q : Option AV → Mem → Prop} {pc len : Nat} {x : Int} {y z : Nat} {ls : List (Option AV)} {st : List AV} {σ : Mem}  : exec G w w2 k ks sm T0 Q pc (.isub) len x y z ls st σ = e2i (fun a b t => rs (I32 (a - b)) (pc + len, ls, vi (a - b) :: t, σ)) st := rfl
theorem x_imul {G : Gl} {w w2 : Wd} {k ks : Nat} {sm : Sm} {T0 : Prop} {Q : Option AV → Mem → Prop} {pc len : Nat} {x : Int} {y z : Nat} {ls : List (Option AV)} {st : List AV} {σ : Mem}  : exec G w w2 k ks sm T0 Q pc (.imul) len x y z ls st σ = e2i (fun a b t => rs (I32 (a * b)) (pc + len, ls, vi (a * b) :: t, σ)) st := rfl
theorem x_idiv {G : Gl} {w w2 : Wd} {k ks : Nat} {sm : Sm} {T0 : Prop} {Q : Option AV → Mem → Prop} {pc len : Nat} {x : Int} {y z : Nat} {ls : List (Option AV)} {st : List AV} {σ : Mem}  : exec G w w2 k ks sm T0 Q pc (.idiv) len x y z ls st σ = e2i (fun a b t => rs (0 ≤ a ∧ 0 < b) (pc + len, ls, vi (a / b) :: t, σ)) st := rfl
theorem x_irem {G : Gl} {w w2 : Wd} {k ks : Nat} {sm : Sm} {T0 : Prop} {Q : Option AV → Mem → Prop} {pc len : Nat} {x : Int} {y z : Nat} {ls : List (Option AV)} {st : List AV} {σ : Mem}  : exec G w w2 k ks sm T0 Q pc (.irem) len x y z ls st σ = e2i (fun a b t => rs (0 ≤ a ∧ 0 < b) (pc + len, ls, vi (a % b) :: t, σ)) st := rfl
theorem x_ishl {G : Gl} {w w2 : Wd} {k ks : Nat} {sm : Sm} {T0 : Prop} {Q : Option AV → Mem → Prop} {pc len : Nat} {x : Int} {y z : Nat} {ls : List (Option AV)} {st : List AV} {σ : Mem}  : exec G w w2 k ks sm T0 Q pc (.ishl) len x y z ls st σ = e2i (fun a b t => rs (0 ≤ a ∧ 0 ≤ b ∧ b ≤ 30 ∧ I32 (a * 2 ^ b.toNat)) (pc + len, ls, vi (a * 2 ^ b.toNat) :: t, σ)) st := rfl
theorem x_ishr {G : Gl} {w w2 : Wd} {k ks : Nat} {sm : Sm} {T0 : Prop} {Q : Option AV → Mem → Prop} {pc len : Nat} {x : Int} {y z : Nat} {ls : List (Option AV)} {st : List AV} {σ : Mem}  : exec G w w2 k ks sm T0 Q pc (.ishr) len x y z ls st σ = e2i (fun a b t => rs (0 ≤ b ∧ b ≤ 31) (pc + len, ls, vi (a / 2 ^ b.toNat) :: t, σ)) st := rfl
theorem x_iushr {G : Gl} {w w2 : Wd} {k ks : Nat} {sm : Sm} {T0 : Prop} {Q : Option AV → Mem → Prop} {pc len : Nat} {x : Int} {y z : Nat} {ls : List (Option AV)} {st : List AV} {σ : Mem}  : exec G w w2 k ks sm T0 Q pc (.iushr) len x y z ls st σ = e2i (fun a b t => rs True (pc + len, ls, vi (ushr a b) :: t, σ)) st := rfl
theorem x_iand {G : Gl} {w w2 : Wd} {k ks : Nat} {sm : Sm} {T0 : Prop} {Q : Option AV → Mem → Prop} {pc len : Nat} {x : Int} {y z : Nat} {ls : List (Option AV)} {st : List AV} {σ : Mem}  : exec G w w2 k ks sm T0 Q pc (.iand) len x y z ls st σ = e2i (fun a b t => rs True (pc + len, ls, vi (band a b) :: t, σ)) st := rfl
theorem x_ior {G : Gl} {w w2 : Wd} {k ks : Nat} {sm : Sm} {T0 : Prop} {Q : Option AV → Mem → Prop} {pc len : Nat} {x : Int} {y z : Nat} {ls : List (Option AV)} {st : List AV} {σ : Mem}  : exec G w w2 k ks sm T0 Q pc (.ior) len x y z ls st σ = e2i (fun a b t => rs True (pc + len, ls, vi (bor a b) :: t, σ)) st := rfl
theorem x_ixor {G : Gl} {w w2 : Wd} {k ks : Nat} {sm : Sm} {T0 : Prop} {Q : Option AV → Mem → Prop} {pc len : Nat} {x : Int} {y z : Nat} {ls : List (Option AV)} {st : List AV} {σ : Mem}  : exec G w w2 k ks sm T0 Q pc (.ixor) len x y z ls st σ = e2i (fun a b t => rs True (pc + len, ls, vi (bxor a b) :: t, σ)) st := rfl
theorem x_ladd {G : Gl} {w w2 : Wd} {k ks : Nat} {sm : Sm} {T0 : Prop} {Q : Option AV → Mem → Prop} {pc len : Nat} {x : Int} {y z : Nat} {ls : List (Option AV)} {st : List AV} {σ : Mem}  : exec G w w2 k ks sm T0 Q pc (.ladd) len x y z ls st σ = e2l (fun a b t => rs True (pc + len, ls, vl (w64 (a + b)) :: t, σ)) st := rfl
theorem x_lsub {G : Gl} {w w2 : Wd} {k ks : Nat} {sm : Sm} {T0 : Prop} {Q : Option AV → Mem → Prop} {pc len : Nat} {x : Int} {y z : Nat} {ls : List (Option AV)} {st : List AV} {σ : Mem}  : exec G w w2 k ks sm T0 Q pc (.lsub) len x y z ls st σ = e2l (fun a b t => rs True (pc + len, ls, vl (w64 (a - b)) :: t, σ)) st := rfl
theorem x_lmul {G : Gl} {w w2 : Wd} {k ks : Nat} {sm : Sm} {T0 : Prop} {Q : Option AV → Mem → Prop} {pc len : Nat} {x : Int} {y z : Nat} {ls : List (Option AV)} {st : List AV} {σ : Mem}  : exec G w w2 k ks sm T0 Q pc (.lmul) len x y z ls st σ = e2l (fun a b t => rs True (pc + len, ls, vl (w64 (a * b)) :: t, σ)) st := rfl
theorem x_land {G : Gl} {w w2 : Wd} {k ks : Nat} {sm : Sm} {T0 : Prop} {Q : Option AV → Mem → Prop} {pc len : Nat} {x : Int} {y z : Nat} {ls : List (Option AV)} {st : List AV} {σ : Mem}  : exec G w w2 k ks sm T0 Q pc (.land) len x y z ls st σ = e2l (fun a b t => rs True (pc + len, ls, vl (land64 a b) :: t, σ)) st := rfl
theorem x_lor {G : Gl} {w w2 : Wd} {k ks : Nat} {sm : Sm} {T0 : Prop} {Q : Option AV → Mem → Prop} {pc len : Nat} {x : Int} {y z : Nat} {ls : List (Option AV)} {st : List AV} {σ : Mem}  : exec G w w2 k ks sm T0 Q pc (.lor) len x y z ls st σ = e2l (fun a b t => rs True (pc + len, ls, vl (lor64 a b) :: t, σ)) st := rfl
theorem x_lcmp {G : Gl} {w w2 : Wd} {k ks : Nat} {sm : Sm} {T0 : Prop} {Q : Option AV → Mem → Prop} {pc len : Nat} {x : Int} {y z : Nat} {ls : List (Option AV)} {st : List AV} {σ : Mem}  : exec G w w2 k ks sm T0 Q pc (.lcmp) len x y z ls st σ = e2l (fun a b t => rs True (pc + len, ls, vi (lcmpI a b) :: t, σ)) st := rfl
theorem x_ldiv {G : Gl} {w w2 : Wd} {k ks : Nat} {sm : Sm} {T0 : Prop} {Q : Option AV → Mem → Prop} {pc len : Nat} {x : Int} {y z : Nat} {ls : List (Option AV)} {st : List AV} {σ : Mem}  : exec G w w2 k ks sm T0 Q pc (.ldiv) len x y z ls st σ = e2l (fun a b t => rs (b ≠ 0) (pc + len, ls, vl (w64 (Int.tdiv a b)) :: t, σ)) st := rfl
theorem x_ineg {G : Gl} {w w2 : Wd} {k ks : Nat} {sm : Sm} {T0 : Prop} {Q : Option AV → Mem → Prop} {pc len : Nat} {x : Int} {y z : Nat} {ls : List (Option AV)} {st : List AV} {σ : Mem}  : exec G w w2 k ks sm T0 Q pc (.ineg) len x y z ls st σ = e1i (fun a t => rs (I32 (-a)) (pc + len, ls, vi (-a) :: t, σ)) st := rfl
theorem x_i2l {G : Gl} {w w2 : Wd} {k ks : Nat} {sm : Sm} {T0 : Prop} {Q : Option AV → Mem → Prop} {pc len : Nat} {x : Int} {y z : Nat} {ls : List (Option AV)} {st : List AV} {σ : Mem}  : exec G w w2 k ks sm T0 Q pc (.i2l) len x y z ls st σ = e1i (fun a t => rs True (pc + len, ls, vl a :: t, σ)) st := rfl
theorem x_l2i {G : Gl} {w w2 : Wd} {k ks : Nat} {sm : Sm} {T0 : Prop} {Q : Option AV → Mem → Prop} {pc len : Nat} {x : Int} {y z : Nat} {ls : List (Option AV)} {st : List AV} {σ : Mem}  : exec G w w2 k ks sm T0 Q pc (.l2i) len x y z ls st σ = e1l (fun a t => rs True (pc + len, ls, vi (w32 a) :: t, σ)) st := rfl
theorem x_i2b {G : Gl} {w w2 : Wd} {k ks : Nat} {sm : Sm} {T0 : Prop} {Q : Option AV → Mem → Prop} {pc len : Nat} {x : Int} {y z : Nat} {ls : List (Option AV)} {st : List AV} {σ : Mem}  : exec G w w2 k ks sm T0 Q pc (.i2b) len x y z ls st σ = e1i (fun a t => rs True (pc + len, ls, vi (w8 a) :: t, σ)) st := rfl
theorem x_dup {G : Gl} {w w2 : Wd} {k ks : Nat} {sm : Sm} {T0 : Prop} {Q : Option AV → Mem → Prop} {pc len : Nat} {x : Int} {y z : Nat} {ls : List (Option AV)} {st : List AV} {σ : Mem}  : exec G w w2 k ks sm T0 Q pc (.dup) len x y z ls st σ = edup (fun v t => rs True (pc + len, ls, v :: v :: t, σ)) st := rfl
theorem x_pop {G : Gl} {w w2 : Wd} {k ks : Nat} {sm : Sm} {T0 : Prop} {Q : Option AV → Mem → Prop} {pc len : Nat} {x : Int} {y z : Nat} {ls : List (Option AV)} {st : List AV} {σ : Mem}  : exec G w w2 k ks sm T0 Q pc (.pop) len x y z ls st σ = edup (fun _ t => rs True (pc + len, ls, t, σ)) st := rfl
theorem x_dup2 {G : Gl} {w w2 : Wd} {k ks : Nat} {sm : Sm} {T0 : Prop} {Q : Option AV → Mem → Prop} {pc len : Nat} {x : Int} {y z : Nat} {ls : List (Option AV)} {st : List AV} {σ : Mem}  : exec G w w2 k ks sm T0 Q pc (.dup2) len x y z ls st σ = edup2 (fun t => rs True (pc + len, ls, t, σ)) st := rfl
theorem x_pop2 {G : Gl} {w w2 : Wd} {k ks : Nat} {sm : Sm} {T0 : Prop} {Q : Option AV → Mem → Prop} {pc len : Nat} {x : Int} {y z : Nat} {ls : List (Option AV)} {st : List AV} {σ : Mem}  : exec G w w2 k ks sm T0 Q pc (.pop2) len x y z ls st σ = epop2 (fun t => rs True (pc + len, ls, t, σ)) st := rfl
theorem x_goto {G : Gl} {w w2 : Wd} {k ks : Nat} {sm : Sm} {T0 : Prop} {Q : Option AV → Mem → Prop} {pc len : Nat} {x : Int} {y z : Nat} {ls : List (Option AV)} {st : List AV} {σ : Mem} {u0 : Int} : exec G w w2 k ks sm T0 Q pc (.goto u0) len x y z ls st σ = rs True (y, ls, st, σ) := rfl
theorem x_if_icmp {G : Gl} {w w2 : Wd} {k ks : Nat} {sm : Sm} {T0 : Prop} {Q : Option AV → Mem → Prop} {pc len : Nat} {x : Int} {y z : Nat} {ls : List (Option AV)} {st : List AV} {σ : Mem} {c : ClassFile.Cond} {u1 : Int} : exec G w w2 k ks sm T0 Q pc (.if_icmp c u1) len x y z ls st σ = e2i (fun a b t => (True, [(cmpI c a b, (y, ls, t, σ)), (¬ cmpI c a b, (pc + len, ls, t, σ))], none)) st := rfl
theorem x_ifCond {G : Gl} {w w2 : Wd} {k ks : Nat} {sm : Sm} {T0 : Prop} {Q : Option AV → Mem → Prop} {pc len : Nat} {x : Int} {y z : Nat} {ls : List (Option AV)} {st : List AV} {σ : Mem} {c : ClassFile.Cond} {u1 : Int} : exec G w w2 k ks sm T0 Q pc (.ifCond c u1) len x y z ls st σ = e1i (fun a t => (True, [(cmpI c a 0, (y, ls, t, σ)), (¬ cmpI c a 0, (pc + len, ls, t, σ))], none)) st := rfl
theorem x_ifnull {G : Gl} {w w2 : Wd} {k ks : Nat} {sm : Sm} {T0 : Prop} {Q : Option AV → Mem → Prop} {pc len : Nat} {x : Int} {y z : Nat} {ls : List (Option AV)} {st : List AV} {σ : Mem} {u0 : Int} : exec G w w2 k ks sm T0 Q pc (.ifnull u0) len x y z ls st σ = e1q (fun q t => (True, [(q = none, (y, ls, t, σ)), (¬ q = none, (pc + len, ls, t, σ))], none)) st := rfl
theorem x_ifnonnull {G : Gl} {w w2 : Wd} {k ks : Nat} {sm : Sm} {T0 : Prop} {Q : Option AV → Mem → Prop} {pc len : Nat} {x : Int} {y z : Nat} {ls : List (Option AV)} {st : List AV} {σ : Mem} {u0 : Int} : exec G w w2 k ks sm T0 Q pc (.ifnonnull u0) len x y z ls st σ = e1q (fun q t => (True, [(¬ q = none, (y, ls, t, σ)), (q = none, (pc + len, ls, t, σ))], none)) st := rfl
theorem x_tableswitch {G : Gl} {w w2 : Wd} {k ks : Nat} {sm : Sm} {T0 : Prop} {Q : Option AV → Mem → Prop} {pc len : Nat} {x : Int} {y z : Nat} {ls : List (Option AV)} {st : List AV} {σ : Mem} {d : Int} {lo : Int} {hi : Int} {offs : Array Int} : exec G w w2 k ks sm T0 Q pc (.tableswitch d lo hi offs) len x y z ls st σ = e1i (fun a t => (True, ((a < lo ∨ hi < a), (((pc : Int) + d).toNat, ls, t, σ)) :: tbL a ls t σ pc lo offs.toList, none)) st := rfl
theorem x_lookupswitch {G : Gl} {w w2 : Wd} {k ks : Nat} {sm : Sm} {T0 : Prop} {Q : Option AV → Mem → Prop} {pc len : Nat} {x : Int} {y z : Nat} {ls : List (Option AV)} {st : List AV} {σ : Mem} {d : Int} {prs : Array (Int × Int)} : exec G w w2 k ks sm T0 Q pc (.lookupswitch d prs) len x y z ls st σ = e1i (fun a t => (True, lkL a ls t σ pc d prs.toList, none)) st := rfl
theorem x_ireturn {G : Gl} {w w2 : Wd} {k ks : Nat} {sm : Sm} {T0 : Prop} {Q : Option AV → Mem → Prop} {pc len : Nat} {x : Int} {y z : Nat} {ls : List (Option AV)} {st : List AV} {σ : Mem}  : exec G w w2 k ks sm T0 Q pc (.ireturn) len x y z ls st σ = e1i (fun a t => (t = [] ∧ w = w2 ∧ (y = 1 → a = 0 ∨ a = 1) ∧ Q (some (vi a)) σ, [], none)) st := rfl
theorem x_lreturn {G : Gl} {w w2 : Wd} {k ks : Nat} {sm : Sm} {T0 : Prop} {Q : Option AV → Mem → Prop} {pc len : Nat} {x : Int} {y z : Nat} {ls : List (Option AV)} {st : List AV} {σ : Mem}  : exec G w w2 k ks sm T0 Q pc (.lreturn) len x y z ls st σ = e1l (fun a t => (t = [] ∧ w = w2 ∧ Q (some (vl a)) σ, [], none)) st := rfl
theorem x_areturn {G : Gl} {w w2 : Wd} {k ks : Nat} {sm : Sm} {T0 : Prop} {Q : Option AV → Mem → Prop} {pc len : Nat} {x : Int} {y z : Nat} {ls : List (Option AV)} {st : List AV} {σ : Mem}  : exec G w w2 k ks sm T0 Q pc (.areturn) len x y z ls st σ = e1q (fun q t => (t = [] ∧ w = w2 ∧ Q (some (.inr (.inr q))) σ, [], none)) st := rfl
theorem x_return_ {G : Gl} {w w2 : Wd} {k ks : Nat} {sm : Sm} {T0 : Prop} {Q : Option AV → Mem → Prop} {pc len : Nat} {x : Int} {y z : Nat} {ls : List (Option AV)} {st : List AV} {σ : Mem}  : exec G w w2 k ks sm T0 Q pc (.return_) len x y z ls st σ = (st = [] ∧ w = w2 ∧ Q none σ, [], none) := rfl
theorem x_iaload {G : Gl} {w w2 : Wd} {k ks : Nat} {sm : Sm} {T0 : Prop} {Q : Option AV → Mem → Prop} {pc len : Nat} {x : Int} {y z : Nat} {ls : List (Option AV)} {st : List AV} {σ : Mem}  : exec G w w2 k ks sm T0 Q pc (.iaload) len x y z ls st σ = eir (fun i o f r t => if f = 999 then rs (o = 999 ∧ r = 0 ∧ 0 ≤ i ∧ i < G.2.2.2.1.1) (pc + len, ls, vi (G.2.2.2.1.2 i.toNat) :: t, σ) else rs (aok o f r 10 i) (pc + len, ls, vi (σ o f r i.toNat) :: t, σ)) st := rfl
theorem x_laload {G : Gl} {w w2 : Wd} {k ks : Nat} {sm : Sm} {T0 : Prop} {Q : Option AV → Mem → Prop} {pc len : Nat} {x : Int} {y z : Nat} {ls : List (Option AV)} {st : List AV} {σ : Mem}  : exec G w w2 k ks sm T0 Q pc (.laload) len x y z ls st σ = eir (fun i o f r t => rs (aok o f r 11 i) (pc + len, ls, vl (σ o f r i.toNat) :: t, σ)) st := rfl
theorem x_baload {G : Gl} {w w2 : Wd} {k ks : Nat} {sm : Sm} {T0 : Prop} {Q : Option AV → Mem → Prop} {pc len : Nat} {x : Int} {y z : Nat} {ls : List (Option AV)} {st : List AV} {σ : Mem}  : exec G w w2 k ks sm T0 Q pc (.baload) len x y z ls st σ = eir (fun i o f r t => rs (aok o f r 12 i ∨ aok o f r 13 i) (pc + len, ls, vi (σ o f r i.toNat) :: t, σ)) st := rfl
theorem x_iastore {G : Gl} {w w2 : Wd} {k ks : Nat} {sm : Sm} {T0 : Prop} {Q : Option AV → Mem → Prop} {pc len : Nat} {x : Int} {y z : Nat} {ls : List (Option AV)} {st : List AV} {σ : Mem}  : exec G w w2 k ks sm T0 Q pc (.iastore) len x y z ls st σ = eiir (fun a i o f r t => rs (aok o f r 10 i) (pc + len, ls, t, up σ o f r i.toNat a)) st := rfl
theorem x_lastore {G : Gl} {w w2 : Wd} {k ks : Nat} {sm : Sm} {T0 : Prop} {Q : Option AV → Mem → Prop} {pc len : Nat} {x : Int} {y z : Nat} {ls : List (Option AV)} {st : List AV} {σ : Mem}  : exec G w w2 k ks sm T0 Q pc (.lastore) len x y z ls st σ = elir (fun a i o f r t => rs (aok o f r 11 i) (pc + len, ls, t, up σ o f r i.toNat a)) st := rfl
theorem x_bastore {G : Gl} {w w2 : Wd} {k ks : Nat} {sm : Sm} {T0 : Prop} {Q : Option AV → Mem → Prop} {pc len : Nat} {x : Int} {y z : Nat} {ls : List (Option AV)} {st : List AV} {σ : Mem}  : exec G w w2 k ks sm T0 Q pc (.bastore) len x y z ls st σ = eiir (fun a i o f r t => rs ((aok o f r 12 i ∧ (a = 0 ∨ a = 1)) ∨ (aok o f r 13 i ∧ -128 ≤ a ∧ a ≤ 127)) (pc + len, ls, t, up σ o f r i.toNat a)) st := rfl
theorem x_aaload {G : Gl} {w w2 : Wd} {k ks : Nat} {sm : Sm} {T0 : Prop} {Q : Option AV → Mem → Prop} {pc len : Nat} {x : Int} {y z : Nat} {ls : List (Option AV)} {st : List AV} {σ : Mem}  : exec G w w2 k ks sm T0 Q pc (.aaload) len x y z ls st σ = eir (fun i o f r t => if 20 ≤ (lay (cls o) (f - 1)).1 then rs (o < 22 ∧ f ≠ 0 ∧ r = 0 ∧ 0 ≤ i ∧ i < (lay (cls o) (f - 1)).2.1) (pc + len, ls, vr o f (i.toNat + 1) :: t, σ) else rs (o < 22 ∧ f ≠ 0 ∧ r = 0 ∧ 0 ≤ i ∧ i < (lay (cls o) (f - 1)).2.1 ∧ (lay (cls o) (f - 1)).1 = 14 ∧ ((lay (cls o) (f - 1)).2.2.1 = 6 ∨ (lay (cls o) (f - 1)).2.2.1 = 7) ∧ wfv w (dec (σ o f 0 i.toNat))) (pc + len, ls, dec (σ o f 0 i.toNat) :: t, σ)) st := rfl
theorem x_arraylength {G : Gl} {w w2 : Wd} {k ks : Nat} {sm : Sm} {T0 : Prop} {Q : Option AV → Mem → Prop} {pc len : Nat} {x : Int} {y z : Nat} {ls : List (Option AV)} {st : List AV} {σ : Mem}  : exec G w w2 k ks sm T0 Q pc (.arraylength) len x y z ls st σ = e1r (fun o f r t => if f = 999 then rs (o = 999 ∧ r = 0) (pc + len, ls, vi (G.2.2.2.1.1 : Nat) :: t, σ) else rs (o < 22 ∧ f ≠ 0 ∧ ((lay (cls o) (f - 1)).1 < 14 ∨ 20 ≤ (lay (cls o) (f - 1)).1) ∧ (akk (lay (cls o) (f - 1)) r).2 < 2000000000) (pc + len, ls, vi ((akk (lay (cls o) (f - 1)) r).2 : Nat) :: t, σ)) st := rfl
theorem x_getfield {G : Gl} {w w2 : Wd} {k ks : Nat} {sm : Sm} {T0 : Prop} {Q : Option AV → Mem → Prop} {pc len : Nat} {x : Int} {y z : Nat} {ls : List (Option AV)} {st : List AV} {σ : Mem} {u0 : Nat} : exec G w w2 k ks sm T0 Q pc (.getfield u0) len x y z ls st σ = e1r (fun o f r t => gfR w (lay y z) (f = 0 ∧ r = 0 ∧ cls o = y ∧ o < 22) o z σ (pc + len) ls t) st := rfl
theorem x_putfield {G : Gl} {w w2 : Wd} {k ks : Nat} {sm : Sm} {T0 : Prop} {Q : Option AV → Mem → Prop} {pc len : Nat} {x : Int} {y z : Nat} {ls : List (Option AV)} {st : List AV} {σ : Mem} {u0 : Nat} : exec G w w2 k ks sm T0 Q pc (.putfield u0) len x y z ls st σ = pfR (lay y z) (fun c a o t => rs (c ∧ cls o = y ∧ o < 22) (pc + len, ls, t, up σ o (z + 1) 0 0 a)) st := rfl
theorem x_invokevirtual {G : Gl} {w w2 : Wd} {k ks : Nat} {sm : Sm} {T0 : Prop} {Q : Option AV → Mem → Prop} {pc len : Nat} {x : Int} {y z : Nat} {ls : List (Option AV)} {st : List AV} {σ : Mem} {u0 : Nat} : exec G w w2 k ks sm T0 Q pc (.invokevirtual u0) len x y z ls st σ = if y < 250 then eRecv (fun o f r t => callR sm ks k (z < st.length ∧ f = 0 ∧ r = 0 ∧ o < 22 ∧ (cls o : Int) = x ∧ csum t ≤ 8) y (vr o 0 0 :: (popA z [] st).1) σ (pc + len) ls t) (popA z [] st).2 else (T0, [], none) := rfl
theorem x_invokestatic {G : Gl} {w w2 : Wd} {k ks : Nat} {sm : Sm} {T0 : Prop} {Q : Option AV → Mem → Prop} {pc len : Nat} {x : Int} {y z : Nat} {ls : List (Option AV)} {st : List AV} {σ : Mem} {u0 : Nat} : exec G w w2 k ks sm T0 Q pc (.invokestatic u0) len x y z ls st σ = if y < 250 then callR sm ks k (z ≤ st.length ∧ csum (popA z [] st).2 ≤ 8) y (popA z [] st).1 σ (pc + len) ls (popA z [] st).2
    else if y = 1000 then e1i (fun a t => rs (0 < k ∧ csum t ≤ 8 ∧ I32 (-a)) (pc + len, ls, vi (max a (-a)) :: t, σ)) st else
    if y = 1001 then e2i (fun a b t => rs (0 < k ∧ csum t ≤ 8) (pc + len, ls, vi (max a b) :: t, σ)) st else
    if y = 1002 then e2i (fun a b t => rs (0 < k ∧ csum t ≤ 8) (pc + len, ls, vi (min a b) :: t, σ)) st else
    if y = 1003 then e2l (fun a b t => rs (0 < k ∧ csum t ≤ 8) (pc + len, ls, vl (max a b) :: t, σ)) st else
    if y = 1004 then e2l (fun a b t => rs (0 < k ∧ csum t ≤ 8) (pc + len, ls, vl (min a b) :: t, σ)) st else (T0, [], none) := rfl
section EXS
variable {CCf : CCt} {K : Sx → Prop}
theorem fI {κ : AV → Rx} {κ' : AV → Prop} {v : Option AV} (h : fin CCf K (eI κ v)) (hm : ∀ v, fin CCf K (κ v) → κ' v) : oI κ' v := by
  match v, h with
  | some (.inl a), h => exact hm _ h
  | some (.inr a), h => exact h.1.elim
  | none, h => exact h.1.elim
theorem fL {κ : AV → Rx} {κ' : AV → Prop} {v : Option AV} (h : fin CCf K (eL κ v)) (hm : ∀ v, fin CCf K (κ v) → κ' v) : oL κ' v := by
  match v, h with
  | some (.inr (.inl a)), h => exact hm _ h
  | some (.inl a), h => exact h.1.elim
  | some (.inr (.inr a)), h => exact h.1.elim
  | none, h => exact h.1.elim
theorem fA {κ : AV → Rx} {κ' : AV → Prop} {v : Option AV} (h : fin CCf K (eA κ v)) (hm : ∀ v, fin CCf K (κ v) → κ' v) : oA κ' v := by
  match v, h with
  | some (.inr (.inr a)), h => exact hm _ h
  | some (.inl a), h => exact h.1.elim
  | some (.inr (.inl a)), h => exact h.1.elim
  | none, h => exact h.1.elim
theorem f1i {κ : Int → List AV → Rx} {κ' : Int → List AV → Prop} {st : List AV} (h : fin CCf K (e1i κ st)) (hm : ∀ a t, fin CCf K (κ a t) → κ' a t) : s1i κ' st := by
  unfold e1i at h
  split at h
  · exact hm _ _ h
  · exact h.1.elim
theorem f2i {κ : Int → Int → List AV → Rx} {κ' : Int → Int → List AV → Prop} {st : List AV} (h : fin CCf K (e2i κ st)) (hm : ∀ a b t, fin CCf K (κ a b t) → κ' a b t) : s2i κ' st := by
  unfold e2i at h
  split at h
  · exact hm _ _ _ h
  · exact h.1.elim
theorem f1l {κ : Int → List AV → Rx} {κ' : Int → List AV → Prop} {st : List AV} (h : fin CCf K (e1l κ st)) (hm : ∀ a t, fin CCf K (κ a t) → κ' a t) : s1l κ' st := by
  unfold e1l at h
  split at h
  · exact hm _ _ h
  · exact h.1.elim
theorem f2l {κ : Int → Int → List AV → Rx} {κ' : Int → Int → List AV → Prop} {st : List AV} (h : fin CCf K (e2l κ st)) (hm : ∀ a b t, fin CCf K (κ a b t) → κ' a b t) : s2l κ' st := by
  unfold e2l at h
  split at h
  · exact hm _ _ _ h
  · exact h.1.elim
theorem f1q {κ : Option (Nat × Nat × Nat) → List AV → Rx} {κ' : Option (Nat × Nat × Nat) → List AV → Prop} {st : List AV} (h : fin CCf K (e1q κ st)) (hm : ∀ a t, fin CCf K (κ a t) → κ' a t) : s1q κ' st := by
  unfold e1q at h
  split at h
  · exact hm _ _ h
  · exact h.1.elim
theorem f1r {κ : Nat → Nat → Nat → List AV → Rx} {κ' : Nat → Nat → Nat → List AV → Prop} {st : List AV} (h : fin CCf K (e1r κ st)) (hm : ∀ o f r t, fin CCf K (κ o f r t) → κ' o f r t) : s1r κ' st := by
  unfold e1r at h
  split at h
  · exact hm _ _ _ _ h
  · exact h.1.elim
theorem fir {κ : Int → Nat → Nat → Nat → List AV → Rx} {κ' : Int → Nat → Nat → Nat → List AV → Prop} {st : List AV} (h : fin CCf K (eir κ st)) (hm : ∀ i o f r t, fin CCf K (κ i o f r t) → κ' i o f r t) : sir κ' st := by
  unfold eir at h
  split at h
  · exact hm _ _ _ _ _ h
  · exact h.1.elim
theorem fiir {κ : Int → Int → Nat → Nat → Nat → List AV → Rx} {κ' : Int → Int → Nat → Nat → Nat → List AV → Prop} {st : List AV} (h : fin CCf K (eiir κ st)) (hm : ∀ x i o f r t, fin CCf K (κ x i o f r t) → κ' x i o f r t) : siir κ' st := by
  unfold eiir at h
  split at h
  · exact hm _ _ _ _ _ _ h
  · exact h.1.elim
theorem flir {κ : Int → Int → Nat → Nat → Nat → List AV → Rx} {κ' : Int → Int → Nat → Nat → Nat → List AV → Prop} {st : List AV} (h : fin CCf K (elir κ st)) (hm : ∀ x i o f r t, fin CCf K (κ x i o f r t) → κ' x i o f r t) : slir κ' st := by
  unfold elir at h
  split at h
  · exact hm _ _ _ _ _ _ h
  · exact h.1.elim
theorem eRecv_inv {κ : Nat → Nat → Nat → List AV → Rx} {st : List AV} (h : fin CCf K (eRecv κ st)) : ∃ o f r t, st = vr o f r :: t ∧ fin CCf K (κ o f r t) := by
  unfold eRecv at h
  split at h
  · exact ⟨_, _, _, _, rfl, h⟩
  · exact h.1.elim
theorem fdup {κ : AV → List AV → Rx} {κ' : AV → List AV → Prop} {st : List AV} (h : fin CCf K (edup κ st)) (hm : ∀ v t, fin CCf K (κ v t) → κ' v t) : sdup κ' st := by
  unfold edup at h
  split at h
  · exact ⟨rfl, hm _ _ h⟩
  · exact ⟨rfl, hm _ _ h⟩
  · exact h.1.elim
theorem fdup2 {κ : List AV → Rx} {κ' : List AV → Prop} {st : List AV} (h : fin CCf K (edup2 κ st)) (hm : ∀ t, fin CCf K (κ t) → κ' t) : sdup2 κ' st := by
  unfold edup2 at h
  split at h
  · exact hm _ h
  · exact ⟨rfl, rfl, hm _ h⟩
  · exact ⟨rfl, rfl, hm _ h⟩
  · exact ⟨rfl, rfl, hm _ h⟩
  · exact ⟨rfl, rfl, hm _ h⟩
  · exact h.1.elim
theorem fpop2 {κ : List AV → Rx} {κ' : List AV → Prop} {st : List AV} (h : fin CCf K (epop2 κ st)) (hm : ∀ t, fin CCf K (κ t) → κ' t) : spop2 κ' st := by
  unfold epop2 at h
  split at h
  · exact hm _ h
  · exact h.1.elim
theorem tbL_all {a : Int} {ls : List (Option AV)} {t : List AV} {σ : Mem} {pc : Nat} : ∀ (l : List Int) (lo : Int), allK K (tbL a ls t σ pc lo l) → tbAll (fun o => K (((pc : Int) + o).toNat, ls, t, σ)) a lo l
  | [], _, _ => trivial
  | _ :: r, lo, h => ⟨h.1, tbL_all r (lo + 1) h.2⟩
theorem allK_map {c : Prop} (hc : c) : ∀ l : List (Prop × Sx), allK K (l.map (fun p => (c ∧ p.1, p.2))) → allK K l
  | [], _ => trivial
  | _ :: r, h => ⟨fun z => h.1 ⟨hc, z⟩, allK_map hc r h.2⟩
theorem lkL_all {a d : Int} {ls : List (Option AV)} {t : List AV} {σ : Mem} {pc : Nat} : ∀ (l : List (Int × Int)), allK K (lkL a ls t σ pc d l) → lkAll (fun o => K (((pc : Int) + o).toNat, ls, t, σ)) a d l
  | [], h => h.1 trivial
  | _ :: r, h => ⟨h.1, fun z => lkL_all r (allK_map z _ h.2)⟩
theorem gfR_all {w : Wd} {q : Nat × Nat × Nat × Nat} {f r o y k pc : Nat} {σ : Mem} {ls : List (Option AV)} {t : List AV} (h : fin CCf K (gfR w q (f = 0 ∧ r = 0 ∧ cls o = y ∧ o < 22) o k σ pc ls t)) : f = 0 ∧ r = 0 ∧ cls o = y ∧ o < 22 ∧ gf w q o k σ (fun v => K (pc, ls, v :: t, σ)) := by
  unfold gfR at h
  unfold gf
  by_cases h0 : q.1 = 0
  · simp only [h0, if_true] at h ⊢
    exact ⟨h.1.1, h.1.2.1, h.1.2.2.1, h.1.2.2.2, h.2.1.1 trivial⟩
  · rw [if_neg h0] at h ⊢
    by_cases h2 : q.1 = 2
    · rw [if_pos h2] at h ⊢
      exact ⟨h.1.1, h.1.2.1, h.1.2.2.1, h.1.2.2.2, h.2.1.1 trivial⟩
    · rw [if_neg h2] at h ⊢
      by_cases h1 : q.1 = 1
      · rw [if_pos h1] at h ⊢
        exact ⟨h.1.1, h.1.2.1, h.1.2.2.1, h.1.2.2.2, h.2.1.1 trivial⟩
      · rw [if_neg h1] at h ⊢
        by_cases h3 : q.1 = 3
        · rw [if_pos h3] at h ⊢
          exact ⟨h.1.1.1, h.1.1.2.1, h.1.1.2.2.1, h.1.1.2.2.2, h.1.2, h.2.1.1 trivial⟩
        · rw [if_neg h3] at h ⊢
          by_cases h4 : q.1 = 4
          · rw [if_pos h4] at h ⊢
            exact ⟨h.1.1.1, h.1.1.2.1, h.1.1.2.2.1, h.1.1.2.2.2, h.1.2, h.2.1.1 trivial⟩
          · rw [if_neg h4] at h ⊢
            exact ⟨h.1.1.1, h.1.1.2.1, h.1.1.2.2.1, h.1.1.2.2.2, h.1.2, h.2.1.1 trivial⟩
theorem pfR_all {q : Nat × Nat × Nat × Nat} {κ : Prop → Int → Nat → List AV → Rx} {κ' : Int → Nat → List AV → Prop} {st : List AV} (h : fin CCf K (pfR q κ st)) (hm : ∀ c a o t, fin CCf K (κ c a o t) → c ∧ κ' a o t) : pf q κ' st := by
  unfold pfR at h
  split at h
  · have := hm _ _ _ _ h; exact ⟨this.1.1, this.1.2.1, this.1.2.2, this.2⟩
  · have := hm _ _ _ _ h; exact ⟨this.1.1, this.1.2.1, this.1.2.2, this.2⟩
  · have := hm _ _ _ _ h; exact ⟨this.1.1, this.1.2.1, this.1.2.2, this.2⟩
  · have := hm _ _ _ _ h; exact ⟨this.1.1, this.1.2.1, this.1.2.2.1, this.1.2.2.2.1, this.1.2.2.2.2.1, this.1.2.2.2.2.2, this.2⟩
  · exact h.1.elim
theorem callR_all {sm : Sm} {ks k y pc : Nat} {c : Prop} {as : List AV} {σ : Mem} {ls : List (Option AV)} {t : List AV} (h : fin CCf K (callR sm ks k c y as σ pc ls t)) : c ∧ call sm ks k y as σ CCf (fun rv σ' => K (pc, ls, ps rv t, σ')) := by
  unfold callR at h
  unfold call
  cases hs : sm y with
  | none =>
    rw [hs] at h
    exact ⟨h.1.1, h.1.2, h.2.2⟩
  | some f =>
    rw [hs] at h
    exact ⟨h.1.1, h.1.2.1, h.1.2.2, h.2.1.1 trivial⟩
set_option maxHeartbeats 4000000 in
theorem exec_stp {G : Gl} {w w2 : Wd} {k ks : Nat} {sm : Sm} {T0 : Prop} {Q : Option AV → Mem → Prop} {pc : Nat} {i : Instr} {len : Nat} {x : Int} {y z : Nat} {ls : List (Option AV)} {st : List AV} {σ : Mem}
    (h : fin CCf K (exec G w w2 k ks sm T0 Q pc i len x y z ls st σ)) : stp G w w2 k ks sm CCf T0 Q (fun pc' ls' st' σ' => K (pc', ls', st', σ')) pc i len x y z ls st σ := by
  cases i with
  | iconst u0 =>
    rw [x_iconst] at h
    simp only [stp]
    exact h.2.1.1 trivial
  | bipush u0 =>
    rw [x_bipush] at h
    simp only [stp]
    exact h.2.1.1 trivial
  | sipush u0 =>
    rw [x_sipush] at h
    simp only [stp]
    exact h.2.1.1 trivial
  | lconst u0 =>
    rw [x_lconst] at h
    simp only [stp]
    exact h.2.1.1 trivial
  | ldc2_w u0 =>
    rw [x_ldc2_w] at h
    simp only [stp]
    exact h.2.1.1 trivial
  | aconst_null =>
    rw [x_aconst_null] at h
    simp only [stp]
    exact h.2.1.1 trivial
  | ldc u0 =>
    rw [x_ldc] at h
    simp only [stp]
    by_cases e : z = 1
    · simp only [e, if_true] at h ⊢
      exact h.2.1.1 trivial
    · simp only [e, if_false] at h ⊢
      exact h.2.1.1 trivial
  | ldc_w u0 =>
    rw [x_ldc_w] at h
    simp only [stp]
    by_cases e : z = 1
    · simp only [e, if_true] at h ⊢
      exact h.2.1.1 trivial
    · simp only [e, if_false] at h ⊢
      exact h.2.1.1 trivial
  | iload u0 =>
    rw [x_iload] at h
    simp only [stp]
    exact fI h (fun _ h => h.2.1.1 trivial)
  | iload_n u0 =>
    rw [x_iload_n] at h
    simp only [stp]
    exact fI h (fun _ h => h.2.1.1 trivial)
  | lload u0 =>
    rw [x_lload] at h
    simp only [stp]
    exact fL h (fun _ h => h.2.1.1 trivial)
  | lload_n u0 =>
    rw [x_lload_n] at h
    simp only [stp]
    exact fL h (fun _ h => h.2.1.1 trivial)
  | aload u0 =>
    rw [x_aload] at h
    simp only [stp]
    exact fA h (fun _ h => h.2.1.1 trivial)
  | aload_n u0 =>
    rw [x_aload_n] at h
    simp only [stp]
    exact fA h (fun _ h => h.2.1.1 trivial)
  | istore u0 =>
    rw [x_istore] at h
    simp only [stp]
    exact f1i h (fun _ _ h => ⟨h.1, h.2.1.1 trivial⟩)
  | istore_n u0 =>
    rw [x_istore_n] at h
    simp only [stp]
    exact f1i h (fun _ _ h => ⟨h.1, h.2.1.1 trivial⟩)
  | lstore u0 =>
    rw [x_lstore] at h
    simp only [stp]
    exact f1l h (fun _ _ h => ⟨h.1, h.2.1.1 trivial⟩)
  | lstore_n u0 =>
    rw [x_lstore_n] at h
    simp only [stp]
    exact f1l h (fun _ _ h => ⟨h.1, h.2.1.1 trivial⟩)
  | astore u0 =>
    rw [x_astore] at h
    simp only [stp]
    exact f1q h (fun _ _ h => ⟨h.1, h.2.1.1 trivial⟩)
  | astore_n u0 =>
    rw [x_astore_n] at h
    simp only [stp]
    exact f1q h (fun _ _ h => ⟨h.1, h.2.1.1 trivial⟩)
  | iinc u0 u1 =>
    rw [x_iinc] at h
    simp only [stp]
    unfold eInc at h
    split at h
    · rename_i a e
      rw [e]
      exact ⟨h.1, h.2.1.1 trivial⟩
    · exact h.1.elim
  | iadd =>
    rw [x_iadd] at h
    simp only [stp]
    exact f2i h (fun _ _ _ h => ⟨h.1, h.2.1.1 trivial⟩)
  | isub =>
    rw [x_isub] at h
    simp only [stp]
    exact f2i h (fun _ _ _ h => ⟨h.1, h.2.1.1 trivial⟩)
  | imul =>
    rw [x_imul] at h
    simp only [stp]
    exact f2i h (fun _ _ _ h => ⟨h.1, h.2.1.1 trivial⟩)
  | idiv =>
    rw [x_idiv] at h
    simp only [stp]
    exact f2i h (fun _ _ _ h => ⟨h.1.1, h.1.2, h.2.1.1 trivial⟩)
  | irem =>
    rw [x_irem] at h
    simp only [stp]
    exact f2i h (fun _ _ _ h => ⟨h.1.1, h.1.2, h.2.1.1 trivial⟩)
  | ishl =>
    rw [x_ishl] at h
    simp only [stp]
    exact f2i h (fun _ _ _ h => ⟨h.1.1, h.1.2.1, h.1.2.2.1, h.1.2.2.2, h.2.1.1 trivial⟩)
  | ishr =>
    rw [x_ishr] at h
    simp only [stp]
    exact f2i h (fun _ _ _ h => ⟨h.1.1, h.1.2, h.2.1.1 trivial⟩)
  | iushr =>
    rw [x_iushr] at h
    simp only [stp]
    exact f2i h (fun _ _ _ h => h.2.1.1 trivial)
  | iand =>
    rw [x_iand] at h
    simp only [stp]
    exact f2i h (fun _ _ _ h => h.2.1.1 trivial)
  | ior =>
    rw [x_ior] at h
    simp only [stp]
    exact f2i h (fun _ _ _ h => h.2.1.1 trivial)
  | ixor =>
    rw [x_ixor] at h
    simp only [stp]
    exact f2i h (fun _ _ _ h => h.2.1.1 trivial)
  | ladd =>
    rw [x_ladd] at h
    simp only [stp]
    exact f2l h (fun _ _ _ h => h.2.1.1 trivial)
  | lsub =>
    rw [x_lsub] at h
    simp only [stp]
    exact f2l h (fun _ _ _ h => h.2.1.1 trivial)
  | lmul =>
    rw [x_lmul] at h
    simp only [stp]
    exact f2l h (fun _ _ _ h => h.2.1.1 trivial)
  | land =>
    rw [x_land] at h
    simp only [stp]
    exact f2l h (fun _ _ _ h => h.2.1.1 trivial)
  | lor =>
    rw [x_lor] at h
    simp only [stp]
    exact f2l h (fun _ _ _ h => h.2.1.1 trivial)
  | lcmp =>
    rw [x_lcmp] at h
    simp only [stp]
    exact f2l h (fun _ _ _ h => h.2.1.1 trivial)
  | ldiv =>
    rw [x_ldiv] at h
    simp only [stp]
    exact f2l h (fun _ _ _ h => ⟨h.1, h.2.1.1 trivial⟩)
  | ineg =>
    rw [x_ineg] at h
    simp only [stp]
    exact f1i h (fun _ _ h => ⟨h.1, h.2.1.1 trivial⟩)
  | i2l =>
    rw [x_i2l] at h
    simp only [stp]
    exact f1i h (fun _ _ h => h.2.1.1 trivial)
  | l2i =>
    rw [x_l2i] at h
    simp only [stp]
    exact f1l h (fun _ _ h => h.2.1.1 trivial)
  | i2b =>
    rw [x_i2b] at h
    simp only [stp]
    exact f1i h (fun _ _ h => h.2.1.1 trivial)
  | dup =>
    rw [x_dup] at h
    simp only [stp]
    exact fdup h (fun _ _ h => h.2.1.1 trivial)
  | pop =>
    rw [x_pop] at h
    simp only [stp]
    exact fdup h (fun _ _ h => h.2.1.1 trivial)
  | dup2 =>
    rw [x_dup2] at h
    simp only [stp]
    exact fdup2 h (fun _ h => h.2.1.1 trivial)
  | pop2 =>
    rw [x_pop2] at h
    simp only [stp]
    exact fpop2 h (fun _ h => h.2.1.1 trivial)
  | goto u0 =>
    rw [x_goto] at h
    simp only [stp]
    exact h.2.1.1 trivial
  | if_icmp c u1 =>
    rw [x_if_icmp] at h
    simp only [stp]
    exact f2i h (fun _ _ _ h => ⟨fun z => h.2.1.1 z, fun z => h.2.1.2.1 z⟩)
  | ifCond c u1 =>
    rw [x_ifCond] at h
    simp only [stp]
    exact f1i h (fun _ _ h => ⟨fun z => h.2.1.1 z, fun z => h.2.1.2.1 z⟩)
  | ifnull u0 =>
    rw [x_ifnull] at h
    simp only [stp]
    exact f1q h (fun _ _ h => ⟨fun z => h.2.1.1 z, fun z => h.2.1.2.1 z⟩)
  | ifnonnull u0 =>
    rw [x_ifnonnull] at h
    simp only [stp]
    exact f1q h (fun _ _ h => ⟨fun z => h.2.1.1 z, fun z => h.2.1.2.1 z⟩)
  | tableswitch d lo hi offs =>
    rw [x_tableswitch] at h
    simp only [stp]
    exact f1i h (fun _ _ h => ⟨fun z => h.2.1.1 z, tbL_all _ _ h.2.1.2⟩)
  | lookupswitch d prs =>
    rw [x_lookupswitch] at h
    simp only [stp]
    exact f1i h (fun _ _ h => lkL_all _ h.2.1)
  | ireturn =>
    rw [x_ireturn] at h
    simp only [stp]
    exact f1i h (fun _ _ h => h.1)
  | lreturn =>
    rw [x_lreturn] at h
    simp only [stp]
    exact f1l h (fun _ _ h => h.1)
  | areturn =>
    rw [x_areturn] at h
    simp only [stp]
    exact f1q h (fun _ _ h => h.1)
  | return_ =>
    rw [x_return_] at h
    simp only [stp]
    exact h.1
  | iaload =>
    rw [x_iaload] at h
    simp only [stp]
    refine fir h (fun i o f r t h => ?_)
    by_cases e : f = 999
    · simp only [e, if_true] at h ⊢
      exact ⟨h.1.1, h.1.2.1, h.1.2.2.1, h.1.2.2.2, h.2.1.1 trivial⟩
    · simp only [e, if_false] at h ⊢
      exact ⟨h.1, h.2.1.1 trivial⟩
  | laload =>
    rw [x_laload] at h
    simp only [stp]
    exact fir h (fun _ _ _ _ _ h => ⟨h.1, h.2.1.1 trivial⟩)
  | baload =>
    rw [x_baload] at h
    simp only [stp]
    exact fir h (fun _ _ _ _ _ h => ⟨h.1, h.2.1.1 trivial⟩)
  | iastore =>
    rw [x_iastore] at h
    simp only [stp]
    exact fiir h (fun _ _ _ _ _ _ h => ⟨h.1, h.2.1.1 trivial⟩)
  | lastore =>
    rw [x_lastore] at h
    simp only [stp]
    exact flir h (fun _ _ _ _ _ _ h => ⟨h.1, h.2.1.1 trivial⟩)
  | bastore =>
    rw [x_bastore] at h
    simp only [stp]
    exact fiir h (fun _ _ _ _ _ _ h => ⟨h.1, h.2.1.1 trivial⟩)
  | aaload =>
    rw [x_aaload] at h
    simp only [stp]
    refine fir h (fun i o f r t h => ?_)
    by_cases e : 20 ≤ (lay (cls o) (f - 1)).1
    · rw [if_pos e] at h ⊢
      exact ⟨h.1.1, h.1.2.1, h.1.2.2.1, h.1.2.2.2.1, h.1.2.2.2.2, h.2.1.1 trivial⟩
    · rw [if_neg e] at h ⊢
      exact ⟨h.1.1, h.1.2.1, h.1.2.2.1, h.1.2.2.2.1, h.1.2.2.2.2.1, h.1.2.2.2.2.2.1, h.1.2.2.2.2.2.2.1, h.1.2.2.2.2.2.2.2, h.2.1.1 trivial⟩
  | arraylength =>
    rw [x_arraylength] at h
    simp only [stp]
    refine f1r h (fun o f r t h => ?_)
    by_cases e : f = 999
    · simp only [e, if_true] at h ⊢
      exact ⟨h.1.1, h.1.2, h.2.1.1 trivial⟩
    · simp only [e, if_false] at h ⊢
      exact ⟨h.1.1, h.1.2.1, h.1.2.2.1, h.1.2.2.2, h.2.1.1 trivial⟩
  | getfield u0 =>
    rw [x_getfield] at h
    simp only [stp]
    exact f1r h (fun _ _ _ _ h => gfR_all h)
  | putfield u0 =>
    rw [x_putfield] at h
    simp only [stp]
    exact pfR_all (κ' := fun a o t => cls o = y ∧ o < 22 ∧ K (pc + len, ls, t, up σ o (z + 1) 0 0 a)) h (fun _ _ _ _ h => ⟨h.1.1, h.1.2.1, h.1.2.2, h.2.1.1 trivial⟩)
  | invokevirtual u0 =>
    rw [x_invokevirtual] at h
    simp only [stp]
    by_cases e : y < 250
    · simp only [e, if_true] at h ⊢
      obtain ⟨o, f, r, t, e1, h9⟩ := eRecv_inv h
      rw [e1]
      obtain ⟨⟨c1, c2, c3, c4, c5, c6⟩, c7⟩ := callR_all h9
      exact ⟨c1, c2, c3, c4, c5, c6, c7⟩
    · simp only [e, if_false] at h ⊢
      exact h.1
  | invokestatic u0 =>
    rw [x_invokestatic] at h
    simp only [stp]
    by_cases e : y < 250
    · simp only [e, if_true] at h ⊢
      obtain ⟨⟨c1, c2⟩, c3⟩ := callR_all h
      exact ⟨c1, c2, c3⟩
    · simp only [e, if_false] at h ⊢
      by_cases e0 : y = 1000
      · simp only [e0, if_true] at h ⊢
        exact f1i h (fun _ _ h => ⟨h.1.1, h.1.2.1, h.1.2.2, h.2.1.1 trivial⟩)
      · simp only [e0, if_false] at h ⊢
        by_cases e1 : y = 1001
        · simp only [e1, if_true] at h ⊢
          exact f2i h (fun _ _ _ h => ⟨h.1.1, h.1.2, h.2.1.1 trivial⟩)
        · simp only [e1, if_false] at h ⊢
          by_cases e2 : y = 1002
          · simp only [e2, if_true] at h ⊢
            exact f2i h (fun _ _ _ h => ⟨h.1.1, h.1.2, h.2.1.1 trivial⟩)
          · simp only [e2, if_false] at h ⊢
            by_cases e3 : y = 1003
            · simp only [e3, if_true] at h ⊢
              exact f2l h (fun _ _ _ h => ⟨h.1.1, h.1.2, h.2.1.1 trivial⟩)
            · simp only [e3, if_false] at h ⊢
              by_cases e4 : y = 1004
              · simp only [e4, if_true] at h ⊢
                exact f2l h (fun _ _ _ h => ⟨h.1.1, h.1.2, h.2.1.1 trivial⟩)
              · simp only [e4, if_false] at h ⊢
                exact h.1
  | _ => exact h.1
end EXS
/-- the evaluator: cuts stop it -/
def ev (G : Gl) (w w2 : Wd) (k ks : Nat) (sm : Sm) (CCf : CCt) (cuts : List Nat) (mi : Nat) (Q : Option AV → Mem → Prop) (T : Sx → Prop) : Nat → Sx → Prop
  | 0, s => T s
  | n + 1, s => if s.1 ∈ cuts then T s else fin CCf (ev G w w2 k ks sm CCf cuts mi Q T n) ((ins mi s.1).elim (T s, [], none) (fun q => exec G w w2 k ks sm (T s) Q s.1 q.2.1 q.2.2.1 q.2.2.2.1 q.2.2.2.2.1 q.2.2.2.2.2 s.2.1 s.2.2.1 s.2.2.2))
def ev1 (G : Gl) (w w2 : Wd) (k ks : Nat) (sm : Sm) (CCf : CCt) (cuts : List Nat) (mi : Nat) (Q : Option AV → Mem → Prop) (T : Sx → Prop) (n : Nat) (s : Sx) : Prop :=
  fin CCf (ev G w w2 k ks sm CCf cuts mi Q T n) ((ins mi s.1).elim (T s, [], none) (fun q => exec G w w2 k ks sm (T s) Q s.1 q.2.1 q.2.2.1 q.2.2.2.1 q.2.2.2.2.1 q.2.2.2.2.2 s.2.1 s.2.2.1 s.2.2.2))
section EVS
variable {G : Gl} {w0 w w2 : Wd} {k ks : Nat} {rc : Nat × Nat} {mi : Nat} {Q : Option AV → Mem → Prop} {sm : Sm} {cuts : List Nat}
abbrev CCm (G : Gl) (w : Wd) (k : Nat) : CCt := fun y as σ' Q' => CC G w w (k - 1) (0, 0) y as σ' Q'
abbrev Tm (G : Gl) (w0 w w2 : Wd) (k : Nat) (rc : Nat × Nat) (mi : Nat) (Q : Option AV → Mem → Prop) : Sx → Prop := fun s => TT G w0 w w2 k rc mi s.1 s.2.1 s.2.2.1 s.2.2.2 Q
theorem step_sound (hM : okM mi = true) (hsm : SmOK G w ks sm) (hww0 : ∀ o, born w0 o → born w o) {K : Sx → Prop} (hK : ∀ s, K s → Tm G w0 w w2 k rc mi Q s) {s : Sx}
    (h : fin (CCm G w k) K ((ins mi s.1).elim (Tm G w0 w w2 k rc mi Q s, [], none) (fun q => exec G w w2 k ks sm (Tm G w0 w w2 k rc mi Q s) Q s.1 q.2.1 q.2.2.1 q.2.2.2.1 q.2.2.2.2.1 q.2.2.2.2.2 s.2.1 s.2.2.1 s.2.2.2))) : Tm G w0 w w2 k rc mi Q s := by
  cases hq : ins mi s.1 with
  | none => rw [hq] at h; exact h.1
  | some q =>
    rw [hq] at h
    obtain ⟨e1, e2⟩ := ins_ok hM hq
    exact stp_sound e1 e2 hsm hww0 (fun z => z) (fun pc' ls' st' σ' h' => hK _ h') (exec_stp h)
theorem ev_sound (hM : okM mi = true) (hsm : SmOK G w ks sm) (hww0 : ∀ o, born w0 o → born w o) : ∀ (n : Nat) (s : Sx), ev G w w2 k ks sm (CCm G w k) cuts mi Q (Tm G w0 w w2 k rc mi Q) n s → Tm G w0 w w2 k rc mi Q s
  | 0, s, h => h
  | n + 1, s, h => by
    unfold ev at h
    split at h
    · exact h
    · exact step_sound hM hsm hww0 (fun s' h' => ev_sound hM hsm hww0 n s' h') h
/-- from a place of a method -/
theorem TT_ev (hM : okM mi = true) (hsm : SmOK G w ks sm) (n : Nat) (cuts : List Nat) {pc : Nat} {ls : List (Option AV)} {st : List AV} {σ : Mem} (h : ev1 G w w2 k ks sm (CCm G w k) cuts mi Q (Tm G w w w2 k rc mi Q) n (pc, ls, st, σ)) : TT G w w w2 k rc mi pc ls st σ Q :=
  step_sound hM hsm (fun _ z => z) (fun s' h' => ev_sound hM hsm (fun _ z => z) n s' h') h
/-- a contract, from the method's first place -/
theorem CC_ev (hM : okM mi = true) (hy : mi < 250 ∧ mi ≠ 248) (hsm : SmOK G w ks sm) (n : Nat) (cuts : List Nat) {as : List AV} {σ : Mem} (hn : (lat as).length ≤ nL mi) (h : ev1 G w w k ks sm (CCm G w k) cuts mi Q (Tm G w w w k (0, 0) mi Q) n (0, lpad (lat as) (nL mi), [], σ)) : CC G w w k (0, 0) mi as σ Q :=
  CC_of (okY_of hy.1 hy.2) hn (TT_ev hM hsm n cuts h)
end EVS
theorem sm0 (G : Gl) (w : Wd) (ks : Nat) : SmOK G w ks (fun _ => none) := fun y f h => by cases h

/-! 11.vc: conditions out of the code: vc, and that it gives TT -/
def ins (mi pc : Nat) : Option (Nat × Instr × Nat × Int × Nat × Nat) := (CT.getD mi []).find? (fun q => q.1 == pc)
abbrev Kont : Type := Nat → List (Option AV) → List AV → Mem → Prop
def oI (κ : AV → Prop) : Option AV → Prop
  | some (.inl a) => κ (vi a)
  | _ => False
def oL (κ : AV → Prop) : Option AV → Prop
  | some (.inr (.inl a)) => κ (vl a)
  | _ => False
def oA (κ : AV → Prop) : Option AV → Prop
  | some (.inr (.inr q)) => κ (.inr (.inr q))
  | _ => False
def s1i (κ : Int → List AV → Prop) : List AV → Prop
  | .inl a :: r => κ a r
  | _ => False
def s2i (κ : Int → Int → List AV → Prop) : List AV → Prop
  | .inl b :: .inl a :: r => κ a b r
  | _ => False
def s1l (κ : Int → List AV → Prop) : List AV → Prop
  | .inr (.inl a) :: r => κ a r
  | _ => False
def s2l (κ : Int → Int → List AV → Prop) : List AV → Prop
  | .inr (.inl b) :: .inr (.inl a) :: r => κ a b r
  | _ => False
def s1q (κ : Option (Nat × Nat × Nat) → List AV → Prop) : List AV → Prop
  | .inr (.inr q) :: r => κ q r
  | _ => False
def s1r (κ : Nat → Nat → Nat → List AV → Prop) : List AV → Prop
  | .inr (.inr (some (o, f, r))) :: t => κ o f r t
  | _ => False
def sir (κ : Int → Nat → Nat → Nat → List AV → Prop) : List AV → Prop
  | .inl i :: .inr (.inr (some (o, f, r))) :: t => κ i o f r t
  | _ => False
def siir (κ : Int → Int → Nat → Nat → Nat → List AV → Prop) : List AV → Prop
  | .inl x :: .inl i :: .inr (.inr (some (o, f, r))) :: t => κ x i o f r t
  | _ => False
def slir (κ : Int → Int → Nat → Nat → Nat → List AV → Prop) : List AV → Prop
  | .inr (.inl x) :: .inl i :: .inr (.inr (some (o, f, r))) :: t => κ x i o f r t
  | _ => False
def sdup (κ : AV → List AV → Prop) : List AV → Prop
  | v :: t => isLg (some v) = false ∧ κ v t
  | _ => False
def sdup2 (κ : List AV → Prop) : List AV → Prop
  | .inr (.inl x) :: t => κ (vl x :: vl x :: t)
  | v :: u :: t => isLg (some v) = false ∧ isLg (some u) = false ∧ κ (v :: u :: v :: u :: t)
  | _ => False
def spop2 (κ : List AV → Prop) : List AV → Prop
  | .inr (.inl _) :: t => κ t
  | _ => False
def aok (o f r e : Nat) (i : Int) : Prop := o < 22 ∧ f ≠ 0 ∧ (akk (lay (cls o) (f - 1)) r).1 = e ∧ 0 ≤ i ∧ i < (akk (lay (cls o) (f - 1)) r).2
/-- what getfield gives, by the field's kind -/
def gf (w : Wd) (q : Nat × Nat × Nat × Nat) (o k : Nat) (σ : Mem) (κ : AV → Prop) : Prop :=
  if q.1 = 0 then κ (vi (σ o (k + 1) 0 0)) else if q.1 = 2 then κ (vi (σ o (k + 1) 0 0)) else if q.1 = 1 then κ (vl (σ o (k + 1) 0 0)) else if q.1 = 3 then wfv w (dec (σ o (k + 1) 0 0)) ∧ κ (dec (σ o (k + 1) 0 0)) else if q.1 = 4 then (q.2.1 < 3 ∨ (7 ≤ q.2.1 ∧ q.2.1 ≤ 12)) ∧ κ (vr q.2.1 0 0) else (10 ≤ q.1 ∧ q.1 < 22) ∧ κ (vr o (k + 1) 0)
def pf (q : Nat × Nat × Nat × Nat) (κ : Int → Nat → List AV → Prop) : List AV → Prop
  | .inl a :: .inr (.inr (some (o, f, r))) :: t => f = 0 ∧ r = 0 ∧ (q.1 = 0 ∨ (q.1 = 2 ∧ (a = 0 ∨ a = 1))) ∧ κ a o t
  | .inr (.inl a) :: .inr (.inr (some (o, f, r))) :: t => f = 0 ∧ r = 0 ∧ q.1 = 1 ∧ κ a o t
  | .inr (.inr none) :: .inr (.inr (some (o, f, r))) :: t => f = 0 ∧ r = 0 ∧ q.1 = 3 ∧ κ 0 o t
  | .inr (.inr (some (o2, f2, r2))) :: .inr (.inr (some (o, f, r))) :: t => f = 0 ∧ r = 0 ∧ q.1 = 3 ∧ o2 < 64 ∧ f2 < 200 ∧ r2 < 1000 ∧ κ (enc o2 f2 r2) o t
  | _ => False
def popA : Nat → List AV → List AV → List AV × List AV
  | 0, acc, st => (acc, st)
  | n + 1, acc, v :: st => popA n (v :: acc) st
  | _ + 1, acc, [] => (acc, [])
def tbAll (κ : Int → Prop) (a : Int) : Int → List Int → Prop
  | _, [] => True
  | lo, o :: r => (a = lo → κ o) ∧ tbAll κ a (lo + 1) r
def lkAll (κ : Int → Prop) (a d : Int) : List (Int × Int) → Prop
  | [] => κ d
  | q :: r => (a = q.1 → κ q.2) ∧ (¬ a = q.1 → lkAll κ a d r)
abbrev Sm : Type := Nat → Option (List AV → Mem → Prop × Option AV)
def recv (κ : Nat → Nat → Nat → List AV → Prop) : List AV → Prop
  | .inr (.inr (some (o, f, r))) :: t => κ o f r t
  | _ => False
def call (sm : Sm) (ks k y : Nat) (as : List AV) (σ : Mem) (CCf : Nat → List AV → Mem → (Option AV → Mem → Prop) → Prop) (Q : Option AV → Mem → Prop) : Prop :=
  match sm y with
  | some f => ks < k ∧ (f as σ).1 ∧ Q (f as σ).2 σ
  | none => 0 < k ∧ CCf y as σ Q
def stp (G : Gl) (w w2 : Wd) (k ks : Nat) (sm : Sm) (CCf : Nat → List AV → Mem → (Option AV → Mem → Prop) → Prop) (T0 : Prop) (Q : Option AV → Mem → Prop) (K : Kont) (pc : Nat) (i : Instr) (len : Nat) (x : Int) (y z : Nat) (ls : List (Option AV)) (st : List AV) (σ : Mem) : Prop :=
  match i with
  | .iconst _ => K (pc + len) ls (vi x :: st) σ
  | .bipush _ => K (pc + len) ls (vi x :: st) σ
  | .sipush _ => K (pc + len) ls (vi x :: st) σ
  | .lconst _ => K (pc + len) ls (vl x :: st) σ
  | .aconst_null => K (pc + len) ls (vn :: st) σ
  | .ldc _ => if z = 1 then K (pc + len) ls (vr (1000 + y) 0 0 :: st) σ else K (pc + len) ls (vi x :: st) σ
  | .ldc_w _ => if z = 1 then K (pc + len) ls (vr (1000 + y) 0 0 :: st) σ else K (pc + len) ls (vi x :: st) σ
  | .ldc2_w _ => K (pc + len) ls (vl x :: st) σ
  | .iload _ => oI (fun v => K (pc + len) ls (v :: st) σ) (lg ls y)
  | .iload_n _ => oI (fun v => K (pc + len) ls (v :: st) σ) (lg ls y)
  | .lload _ => oL (fun v => K (pc + len) ls (v :: st) σ) (lg ls y)
  | .lload_n _ => oL (fun v => K (pc + len) ls (v :: st) σ) (lg ls y)
  | .aload _ => oA (fun v => K (pc + len) ls (v :: st) σ) (lg ls y)
  | .aload_n _ => oA (fun v => K (pc + len) ls (v :: st) σ) (lg ls y)
  | .istore _ => s1i (fun a t => y < ls.length ∧ K (pc + len) (ls1 ls y (vi a)) t σ) st
  | .istore_n _ => s1i (fun a t => y < ls.length ∧ K (pc + len) (ls1 ls y (vi a)) t σ) st
  | .lstore _ => s1l (fun a t => y + 1 < ls.length ∧ K (pc + len) (ls2 ls y (vl a)) t σ) st
  | .lstore_n _ => s1l (fun a t => y + 1 < ls.length ∧ K (pc + len) (ls2 ls y (vl a)) t σ) st
  | .astore _ => s1q (fun q t => y < ls.length ∧ K (pc + len) (ls1 ls y (.inr (.inr q))) t σ) st
  | .astore_n _ => s1q (fun q t => y < ls.length ∧ K (pc + len) (ls1 ls y (.inr (.inr q))) t σ) st
  | .iinc _ _ => (match lg ls y with
    | some (.inl a) => I32 (a + x) ∧ K (pc + len) (ls1 ls y (vi (a + x))) st σ
    | _ => False)
  | .iadd => s2i (fun a b t => I32 (a + b) ∧ K (pc + len) ls (vi (a + b) :: t) σ) st
  | .isub => s2i (fun a b t => I32 (a - b) ∧ K (pc + len) ls (vi (a - b) :: t) σ) st
  | .imul => s2i (fun a b t => I32 (a * b) ∧ K (pc + len) ls (vi (a * b) :: t) σ) st
  | .idiv => s2i (fun a b t => 0 ≤ a ∧ 0 < b ∧ K (pc + len) ls (vi (a / b) :: t) σ) st
  | .irem => s2i (fun a b t => 0 ≤ a ∧ 0 < b ∧ K (pc + len) ls (vi (a % b) :: t) σ) st
  | .ineg => s1i (fun a t => I32 (-a) ∧ K (pc + len) ls (vi (-a) :: t) σ) st
  | .ishl => s2i (fun a b t => 0 ≤ a ∧ 0 ≤ b ∧ b ≤ 30 ∧ I32 (a * 2 ^ b.toNat) ∧ K (pc + len) ls (vi (a * 2 ^ b.toNat) :: t) σ) st
  | .ishr => s2i (fun a b t => 0 ≤ b ∧ b ≤ 31 ∧ K (pc + len) ls (vi (a / 2 ^ b.toNat) :: t) σ) st
  | .iushr => s2i (fun a b t => K (pc + len) ls (vi (ushr a b) :: t) σ) st
  | .iand => s2i (fun a b t => K (pc + len) ls (vi (band a b) :: t) σ) st
  | .ior => s2i (fun a b t => K (pc + len) ls (vi (bor a b) :: t) σ) st
  | .ixor => s2i (fun a b t => K (pc + len) ls (vi (bxor a b) :: t) σ) st
  | .ladd => s2l (fun a b t => K (pc + len) ls (vl (w64 (a + b)) :: t) σ) st
  | .lsub => s2l (fun a b t => K (pc + len) ls (vl (w64 (a - b)) :: t) σ) st
  | .lmul => s2l (fun a b t => K (pc + len) ls (vl (w64 (a * b)) :: t) σ) st
  | .ldiv => s2l (fun a b t => b ≠ 0 ∧ K (pc + len) ls (vl (w64 (Int.tdiv a b)) :: t) σ) st
  | .land => s2l (fun a b t => K (pc + len) ls (vl (land64 a b) :: t) σ) st
  | .lor => s2l (fun a b t => K (pc + len) ls (vl (lor64 a b) :: t) σ) st
  | .lcmp => s2l (fun a b t => K (pc + len) ls (vi (lcmpI a b) :: t) σ) st
  | .i2l => s1i (fun a t => K (pc + len) ls (vl a :: t) σ) st
  | .l2i => s1l (fun a t => K (pc + len) ls (vi (w32 a) :: t) σ) st
  | .i2b => s1i (fun a t => K (pc + len) ls (vi (w8 a) :: t) σ) st
  | .dup => sdup (fun v t => K (pc + len) ls (v :: v :: t) σ) st
  | .dup2 => sdup2 (fun t => K (pc + len) ls t σ) st
  | .pop => sdup (fun _ t => K (pc + len) ls t σ) st
  | .pop2 => spop2 (fun t => K (pc + len) ls t σ) st
  | .goto _ => K y ls st σ
  | .if_icmp c _ => s2i (fun a b t => (cmpI c a b → K y ls t σ) ∧ (¬ cmpI c a b → K (pc + len) ls t σ)) st
  | .ifCond c _ => s1i (fun a t => (cmpI c a 0 → K y ls t σ) ∧ (¬ cmpI c a 0 → K (pc + len) ls t σ)) st
  | .ifnull _ => s1q (fun q t => (q = none → K y ls t σ) ∧ (¬ q = none → K (pc + len) ls t σ)) st
  | .ifnonnull _ => s1q (fun q t => (¬ q = none → K y ls t σ) ∧ (q = none → K (pc + len) ls t σ)) st
  | .tableswitch d lo hi offs => s1i (fun a t => ((a < lo ∨ hi < a) → K ((pc : Int) + d).toNat ls t σ) ∧ tbAll (fun o => K ((pc : Int) + o).toNat ls t σ) a lo offs.toList) st
  | .lookupswitch d prs => s1i (fun a t => lkAll (fun o => K ((pc : Int) + o).toNat ls t σ) a d prs.toList) st
  | .ireturn => s1i (fun a t => t = [] ∧ w = w2 ∧ (y = 1 → a = 0 ∨ a = 1) ∧ Q (some (vi a)) σ) st
  | .lreturn => s1l (fun a t => t = [] ∧ w = w2 ∧ Q (some (vl a)) σ) st
  | .areturn => s1q (fun q t => t = [] ∧ w = w2 ∧ Q (some (.inr (.inr q))) σ) st
  | .return_ => st = [] ∧ w = w2 ∧ Q none σ
  | .iaload => sir (fun i o f r t => if f = 999 then o = 999 ∧ r = 0 ∧ 0 ≤ i ∧ i < G.2.2.2.1.1 ∧ K (pc + len) ls (vi (G.2.2.2.1.2 i.toNat) :: t) σ else aok o f r 10 i ∧ K (pc + len) ls (vi (σ o f r i.toNat) :: t) σ) st
  | .laload => sir (fun i o f r t => aok o f r 11 i ∧ K (pc + len) ls (vl (σ o f r i.toNat) :: t) σ) st
  | .baload => sir (fun i o f r t => (aok o f r 12 i ∨ aok o f r 13 i) ∧ K (pc + len) ls (vi (σ o f r i.toNat) :: t) σ) st
  | .iastore => siir (fun a i o f r t => aok o f r 10 i ∧ K (pc + len) ls t (up σ o f r i.toNat a)) st
  | .lastore => slir (fun a i o f r t => aok o f r 11 i ∧ K (pc + len) ls t (up σ o f r i.toNat a)) st
  | .bastore => siir (fun a i o f r t => ((aok o f r 12 i ∧ (a = 0 ∨ a = 1)) ∨ (aok o f r 13 i ∧ -128 ≤ a ∧ a ≤ 127)) ∧ K (pc + len) ls t (up σ o f r i.toNat a)) st
  | .aaload => sir (fun i o f r t => o < 22 ∧ f ≠ 0 ∧ r = 0 ∧ 0 ≤ i ∧ i < (lay (cls o) (f - 1)).2.1 ∧ if 20 ≤ (lay (cls o) (f - 1)).1 then K (pc + len) ls (vr o f (i.toNat + 1) :: t) σ else (lay (cls o) (f - 1)).1 = 14 ∧ ((lay (cls o) (f - 1)).2.2.1 = 6 ∨ (lay (cls o) (f - 1)).2.2.1 = 7) ∧ wfv w (dec (σ o f 0 i.toNat)) ∧ K (pc + len) ls (dec (σ o f 0 i.toNat) :: t) σ) st
  | .arraylength => s1r (fun o f r t => if f = 999 then o = 999 ∧ r = 0 ∧ K (pc + len) ls (vi (G.2.2.2.1.1 : Nat) :: t) σ else o < 22 ∧ f ≠ 0 ∧ ((lay (cls o) (f - 1)).1 < 14 ∨ 20 ≤ (lay (cls o) (f - 1)).1) ∧ (akk (lay (cls o) (f - 1)) r).2 < 2000000000 ∧ K (pc + len) ls (vi ((akk (lay (cls o) (f - 1)) r).2 : Nat) :: t) σ) st
  | .getfield _ => s1r (fun o f r t => f = 0 ∧ r = 0 ∧ cls o = y ∧ o < 22 ∧ gf w (lay y z) o z σ (fun v => K (pc + len) ls (v :: t) σ)) st
  | .putfield _ => pf (lay y z) (fun a o t => cls o = y ∧ o < 22 ∧ K (pc + len) ls t (up σ o (z + 1) 0 0 a)) st
  | .invokevirtual _ => if y < 250 then z < st.length ∧ recv (fun o f r t => f = 0 ∧ r = 0 ∧ o < 22 ∧ (cls o : Int) = x ∧ csum t ≤ 8 ∧ call sm ks k y (vr o 0 0 :: (popA z [] st).1) σ CCf (fun rv σ' => K (pc + len) ls (ps rv t) σ')) (popA z [] st).2 else T0
  | .invokestatic _ => if y < 250 then z ≤ st.length ∧ csum (popA z [] st).2 ≤ 8 ∧ call sm ks k y (popA z [] st).1 σ CCf (fun rv σ' => K (pc + len) ls (ps rv (popA z [] st).2) σ')
    else if y = 1000 then s1i (fun a t => 0 < k ∧ csum t ≤ 8 ∧ I32 (-a) ∧ K (pc + len) ls (vi (max a (-a)) :: t) σ) st
    else if y = 1001 then s2i (fun a b t => 0 < k ∧ csum t ≤ 8 ∧ K (pc + len) ls (vi (max a b) :: t) σ) st
    else if y = 1002 then s2i (fun a b t => 0 < k ∧ csum t ≤ 8 ∧ K (pc + len) ls (vi (min a b) :: t) σ) st
    else if y = 1003 then s2l (fun a b t => 0 < k ∧ csum t ≤ 8 ∧ K (pc + len) ls (vl (max a b) :: t) σ) st
    else if y = 1004 then s2l (fun a b t => 0 < k ∧ csum t ≤ 8 ∧ K (pc + len) ls (vl (min a b) :: t) σ) st
    else T0
  | _ => T0
def vc (G : Gl) (w w2 : Wd) (k ks : Nat) (sm : Sm) (cuts : List Nat) (mi : Nat) (Q : Option AV → Mem → Prop) (T : Kont) : Nat → Kont
  | 0, pc, ls, st, σ => T pc ls st σ
  | n + 1, pc, ls, st, σ => match ins mi pc with
    | none => T pc ls st σ
    | some q => stp G w w2 k ks sm (fun y as σ' Q' => CC G w w (k - 1) (0, 0) y as σ' Q') (T pc ls st σ) Q (fun pc' ls' st' σ' => if pc' ∈ cuts then T pc' ls' st' σ' else vc G w w2 k ks sm cuts mi Q T n pc' ls' st' σ') pc q.2.1 q.2.2.1 q.2.2.2.1 q.2.2.2.2.1 q.2.2.2.2.2 ls st σ
/-- what the tables must say of an instruction -/
def okI (mi : Nat) (q : Nat × Instr × Nat × Int × Nat × Nat) : Bool :=
  decide (decode (bc mi) q.1 = .ok (q.2.1, q.2.2.1)) && (match q.2.1 with
  | .iconst n => decide (n = q.2.2.2.1 ∧ -100 ≤ n ∧ n ≤ 100) && q.2.2.1 == 1
  | .bipush n => decide (n = q.2.2.2.1 ∧ -128 ≤ n ∧ n ≤ 127) && q.2.2.1 == 2
  | .sipush n => decide (n = q.2.2.2.1 ∧ -32768 ≤ n ∧ n ≤ 32767) && q.2.2.1 == 3
  | .lconst n => decide (((n : Nat) : Int) = q.2.2.2.1) && q.2.2.1 == 1
  | .ldc ix => q.2.2.1 == 2 && (if q.2.2.2.2.2 = 1 then decide (q.2.2.2.2.1 < 24) && decide ((strO.getD q.2.2.2.2.1 ("", 0, "")).1 = RN (own mi)) && decide ((strO.getD q.2.2.2.2.1 ("", 0, "")).2.1 = ix) else hasK (own mi) ix 0 q.2.2.2.1)
  | .ldc_w ix => q.2.2.1 == 3 && (if q.2.2.2.2.2 = 1 then decide (q.2.2.2.2.1 < 24) && decide ((strO.getD q.2.2.2.2.1 ("", 0, "")).1 = RN (own mi)) && decide ((strO.getD q.2.2.2.2.1 ("", 0, "")).2.1 = ix) else hasK (own mi) ix 0 q.2.2.2.1)
  | .ldc2_w ix => q.2.2.1 == 3 && hasK (own mi) ix 1 q.2.2.2.1
  | .iload i => q.2.2.1 == 2 && i == q.2.2.2.2.1
  | .lload i => q.2.2.1 == 2 && i == q.2.2.2.2.1
  | .aload i => q.2.2.1 == 2 && i == q.2.2.2.2.1
  | .istore i => q.2.2.1 == 2 && i == q.2.2.2.2.1
  | .lstore i => q.2.2.1 == 2 && i == q.2.2.2.2.1
  | .astore i => q.2.2.1 == 2 && i == q.2.2.2.2.1
  | .iload_n i => q.2.2.1 == 1 && (i : Nat) == q.2.2.2.2.1
  | .lload_n i => q.2.2.1 == 1 && (i : Nat) == q.2.2.2.2.1
  | .aload_n i => q.2.2.1 == 1 && (i : Nat) == q.2.2.2.2.1
  | .istore_n i => q.2.2.1 == 1 && (i : Nat) == q.2.2.2.2.1
  | .lstore_n i => q.2.2.1 == 1 && (i : Nat) == q.2.2.2.2.1
  | .astore_n i => q.2.2.1 == 1 && (i : Nat) == q.2.2.2.2.1
  | .iinc i n => q.2.2.1 == 3 && i == q.2.2.2.2.1 && n == q.2.2.2.1
  | .goto off => decide ((q.1 : Int) + off = (q.2.2.2.2.1 : Int)) && q.2.2.1 == 3
  | .if_icmp _ off => decide ((q.1 : Int) + off = (q.2.2.2.2.1 : Int)) && q.2.2.1 == 3
  | .ifCond _ off => decide ((q.1 : Int) + off = (q.2.2.2.2.1 : Int)) && q.2.2.1 == 3
  | .ifnull off => decide ((q.1 : Int) + off = (q.2.2.2.2.1 : Int)) && q.2.2.1 == 3
  | .ifnonnull off => decide ((q.1 : Int) + off = (q.2.2.2.2.1 : Int)) && q.2.2.1 == 3
  | .tableswitch d lo hi offs => decide (-2147483648 ≤ lo ∧ lo ≤ 2147483647 ∧ -2147483648 ≤ hi ∧ hi ≤ 2147483647) && decide (offs.toList.length = (hi - lo + 1).toNat) && (d :: offs.toList).all (fun o => decide (0 ≤ (q.1 : Int) + o))
  | .lookupswitch d prs => (prs.toList.zip (prs.toList.drop 1)).all (fun (a, next) => a.1 < next.1) && (prs.toList.all (fun p => decide (0 ≤ (q.1 : Int) + p.2))) && decide (0 ≤ (q.1 : Int) + d)
  | .ireturn => (if q.2.2.2.2.1 = 1 then decide (rt mi = some .boolean) else decide (rt mi = some .int)) && q.2.2.1 == 1
  | .lreturn => decide (rt mi = some .long) && q.2.2.1 == 1
  | .areturn => (match rt mi with
    | some (.object _) => true
    | _ => false) && q.2.2.1 == 1
  | .return_ => decide (rt mi = none) && q.2.2.1 == 1
  | .getfield ix => q.2.2.1 == 3 && hasF (own mi) ix q.2.2.2.2.1 q.2.2.2.2.2
  | .putfield ix => q.2.2.1 == 3 && hasF (own mi) ix q.2.2.2.2.1 q.2.2.2.2.2 && wrF q.2.2.2.2.1 q.2.2.2.2.2
  | .invokevirtual ix => q.2.2.1 == 3 && (if q.2.2.2.2.1 < 250 then hasL (own mi) ix q.2.2.2.2.1 && isVt q.2.2.2.2.1 && q.2.2.2.2.1 != 248 && nA q.2.2.2.2.1 == q.2.2.2.2.2 && decide ((own q.2.2.2.2.1 : Int) = q.2.2.2.1) else true)
  | .invokestatic ix => q.2.2.1 == 3 && (if q.2.2.2.2.1 < 250 then hasL (own mi) ix q.2.2.2.2.1 && isSt q.2.2.2.2.1 && q.2.2.2.2.1 != 248 && nA q.2.2.2.2.1 == q.2.2.2.2.2 else hasJ (own mi) ix q.2.2.2.2.1)
  | .aconst_null | .iadd | .isub | .imul | .idiv | .irem | .ineg | .ishl | .ishr | .iushr | .iand | .ior | .ixor | .ladd | .lsub | .lmul | .ldiv | .land | .lor | .lcmp | .i2l | .l2i | .i2b | .dup | .dup2 | .pop | .pop2 | .iaload | .laload | .baload | .aaload | .iastore | .lastore | .bastore | .arraylength => q.2.2.1 == 1
  | _ => true)
def okM (mi : Nat) : Bool := (CT.getD mi []).all (okI mi)
theorem ins_ok {mi pc : Nat} {q : Nat × Instr × Nat × Int × Nat × Nat} (h : okM mi = true) (hq : ins mi pc = some q) : q.1 = pc ∧ okI mi q = true := by
  unfold ins at hq
  exact ⟨by simpa using List.find?_some hq, List.all_eq_true.mp h q (List.mem_of_find?_eq_some hq)⟩

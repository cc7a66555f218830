/-! 9s.inits: the constructors that make rows alone: their groups; their contract (groups by program from the class's own code) -/
def gs0 : List Gp := [(4, 0, (2, 0), (0, 0), 0, 9, 0, 0), (12, 0, (2, 0), (0, 0), 1, 15, 0, 0), (20, 0, (2, 0), (0, 0), 2, 18, 0, 0)]
def gs5 : List Gp := [(4, 0, (2, 0), (0, 0), 0, 11, 0, 0), (12, 0, (2, 0), (0, 0), 1, 17, 0, 0), (20, 0, (2, 0), (0, 0), 2, 20, 0, 0)]
def gs33 : List Gp := [(4, 0, (2, 0), (0, 0), 3, 11, 0, 0), (12, 0, (2, 0), (0, 0), 4, 15, 0, 0), (20, 0, (2, 0), (0, 0), 5, 18, 0, 0), (28, 0, (2, 0), (0, 0), 6, 21, 0, 0), (36, 0, (3, 0), (0, 0), 7, 24, 0, 0), (45, 0, (2, 0), (0, 0), 8, 27, 0, 0)]
def gs42 : List Gp := [(4, 2, (1, 0), (0, 0), 1, 9, 0, -1), (9, 1, (2, 0), (2, 0), 8, 17, 15, 0), (21, 1, (2, 0), (2, 0), 9, 20, 15, 0), (33, 1, (2, 0), (2, 0), 10, 23, 15, 0), (45, 1, (2, 0), (2, 0), 11, 26, 15, 0), (57, 1, (2, 0), (1, 0), 12, 29, 15, 0), (68, 1, (2, 0), (2, 0), 13, 32, 15, 0), (80, 1, (2, 0), (2, 0), 14, 35, 15, 0), (92, 1, (2, 0), (1, 0), 15, 38, 15, 0), (103, 1, (2, 0), (1, 0), 16, 41, 15, 0), (114, 1, (1, 0), (1, 0), 17, 44, 15, 0), (124, 1, (2, 0), (2, 0), 18, 49, 47, 0), (136, 0, (2, 0), (0, 0), 19, 52, 0, 0)]
def gs63 : List Gp := [(4, 1, (2, 0), (1, 0), 0, 11, 9, 0), (15, 0, (2, 0), (0, 0), 1, 16, 0, 0), (23, 0, (2, 0), (0, 0), 2, 20, 0, 0), (31, 0, (2, 0), (0, 0), 3, 23, 0, 0)]
def gs67 : List Gp := [(4, 0, (2, 0), (0, 0), 0, 9, 0, 0), (12, 0, (2, 0), (0, 0), 1, 15, 0, 0), (20, 0, (2, 0), (0, 0), 2, 18, 0, 0)]
def gs127 : List Gp := [(4, 0, (2, 0), (0, 0), 1, 7, 0, 0), (12, 0, (2, 0), (0, 0), 2, 13, 0, 0), (20, 0, (2, 0), (0, 0), 3, 16, 0, 0), (28, 0, (2, 0), (0, 0), 4, 19, 0, 0), (36, 0, (2, 0), (0, 0), 5, 22, 0, 0), (44, 0, (2, 0), (0, 0), 6, 25, 0, 0), (52, 0, (2, 0), (0, 0), 7, 28, 0, 0), (60, 0, (2, 0), (0, 0), 8, 31, 0, 0), (68, 0, (2, 0), (0, 0), 9, 34, 0, 0), (76, 0, (2, 0), (0, 0), 10, 37, 0, 0), (84, 0, (2, 0), (0, 0), 11, 40, 0, 0), (92, 0, (2, 0), (0, 0), 12, 43, 0, 0), (100, 0, (2, 0), (0, 0), 13, 46, 0, 0), (108, 0, (2, 0), (0, 0), 14, 49, 0, 0), (116, 0, (2, 0), (0, 0), 15, 52, 0, 0), (124, 0, (2, 0), (0, 0), 16, 55, 0, 0), (132, 0, (2, 0), (0, 0), 17, 58, 0, 0), (140, 0, (2, 0), (0, 0), 18, 61, 0, 0), (148, 0, (2, 0), (0, 0), 19, 64, 0, 0), (156, 0, (2, 0), (0, 0), 20, 67, 0, 0), (164, 0, (2, 0), (0, 0), 21, 70, 0, 0), (172, 0, (2, 0), (0, 0), 22, 73, 0, 0), (180, 0, (2, 0), (0, 0), 23, 76, 0, 0), (188, 0, (2, 0), (0, 0), 24, 79, 0, 0), (196, 0, (2, 0), (0, 0), 25, 82, 0, 0), (204, 0, (3, 0), (0, 0), 26, 85, 0, 0), (213, 0, (2, 0), (0, 0), 27, 88, 0, 0), (221, 0, (2, 0), (0, 0), 28, 91, 0, 0), (229, 0, (2, 0), (0, 0), 29, 94, 0, 0), (237, 0, (2, 0), (0, 0), 30, 97, 0, 0), (245, 0, (2, 0), (0, 0), 31, 100, 0, 0), (253, 0, (2, 0), (0, 0), 32, 103, 0, 0), (261, 0, (1, 0), (0, 0), 33, 106, 0, 0), (268, 0, (1, 0), (0, 0), 34, 109, 0, 0), (275, 0, (1, 0), (0, 0), 35, 112, 0, 0), (282, 0, (2, 0), (0, 0), 36, 115, 0, 0), (290, 0, (3, 0), (0, 0), 37, 119, 0, 0), (299, 2, (2, 0), (0, 0), 47, 122, 0, 15), (305, 0, (3, 0), (0, 0), 48, 126, 0, 0), (314, 0, (3, 0), (0, 0), 49, 130, 0, 0), (323, 0, (3, 0), (0, 0), 50, 133, 0, 0), (332, 0, (2, 0), (0, 0), 51, 136, 0, 0), (340, 0, (2, 0), (0, 0), 52, 139, 0, 0), (348, 0, (2, 0), (0, 0), 53, 142, 0, 0), (356, 0, (2, 0), (0, 0), 54, 145, 0, 0), (364, 0, (2, 0), (0, 0), 55, 148, 0, 0), (372, 0, (2, 0), (0, 0), 56, 151, 0, 0), (380, 0, (3, 0), (0, 0), 57, 154, 0, 0), (389, 0, (2, 0), (0, 0), 58, 157, 0, 0), (397, 0, (3, 0), (0, 0), 59, 160, 0, 0), (406, 0, (2, 0), (0, 0), 60, 163, 0, 0), (414, 0, (2, 0), (0, 0), 61, 166, 0, 0), (422, 0, (2, 0), (0, 0), 62, 169, 0, 0), (430, 0, (2, 0), (0, 0), 63, 173, 0, 0), (438, 0, (2, 0), (0, 0), 64, 176, 0, 0), (446, 0, (2, 0), (0, 0), 65, 179, 0, 0), (454, 0, (2, 0), (0, 0), 66, 182, 0, 0), (462, 0, (2, 0), (0, 0), 67, 185, 0, 0), (470, 0, (3, 0), (0, 0), 68, 188, 0, 0), (479, 0, (4, 191), (0, 0), 69, 192, 0, 0), (487, 0, (2, 0), (0, 0), 70, 195, 0, 0), (495, 0, (2, 0), (0, 0), 71, 198, 0, 0), (503, 0, (1, 0), (0, 0), 72, 201, 0, 0), (510, 0, (2, 0), (0, 0), 73, 204, 0, 0), (518, 0, (3, 0), (0, 0), 74, 207, 0, 0), (527, 0, (1, 0), (0, 0), 75, 210, 0, 0)]
def ini (mi ix : Nat) (ixw : Nat) : Bool := decide (decode (bc mi) 0 = .ok (.aload_n 0, 1)) && decide (decode (bc mi) 1 = .ok (.invokespecial ix, 3)) && atW ixw (.methodLink (RN (own mi)) ix Lib.objectInit)
/-- a field's value before it is set -/
def tyD (c k : Nat) : FieldType := match vwCl[c]? with
  | some r => (parseFieldDescriptor (r.2.1 k).2.2.1).getD .int
  | none => .int
def dV (c k : Nat) : Value := defaultValue (tyD c k)
def IPre (G : Gl) (c : Nat) : Array Value → State → Prop := fun args U => ∃ a : Nat, args = #[.ref a] ∧ KK G U ∧ KX G U ∧ G.2.2.1 ≤ a ∧ U.heap.size = a + 1 ∧ t_OB a (G.2.1.1 c) (NF c) (G.2.1.2.1 c) U.heap (dV c)
def IPost (G : Gl) (c n : Nat) (V : Nat → Nat → Value) : Array Value → State → Outcome → State → Prop := fun args st oc t => oc = .returned none ∧ ∃ a : Nat, args = #[.ref a] ∧ BE G c a n (V a) st.heap t.heap
theorem objw : Cond.instanceMethod Lib.objectInit ∈ WT ∧ Cond.code Lib.objectInit ⟨#[177]⟩ 1 none ∈ WT := ⟨atW_in (i := 119) (by decide +kernel), atW_in (i := 120) (by decide +kernel)⟩
section INS
variable {G : Gl}
theorem BE_0 {c a : Nat} {V : Nat → Value} {H : Heap} (hc9 : c < 9) (hs : H.size = a + 1) (X : t_OB a (G.2.1.1 c) (NF c) (G.2.1.2.1 c) H V) : BE G c a 1 V H H := by
  refine ⟨hs, fun _ _ => rfl, X, fun k r hk hr hlt => ?_⟩
  have := lay_pos c hc9 k hk (arow_lt hr).2
  omega
/-! the way into a constructor, up to its first group -/
theorem init_in {mi c : Nat} {k mc ms : Nat} {Qc : Array Value → State → Outcome → State → Prop} (hc9 : c < 9) (ho : own mi = c) (hm : mi < 250 ∧ mi ≠ 248) (hnm : (yn mi).name = "<init>") (hnl : 1 ≤ nL mi ∧ nL mi ≤ 20) {ix ixw : Nat} (hi : ini mi ix ixw = true)
    (body : ∀ (p : Program) (e : Env) (s : State) (m : MethodId) (args : Array Value) (below : List Frame) (meth : Method) (c' : Code) (a : Nat) (ls : Array Slot), CB G mi p s m args meth c' → meth.sig.returnType = rt mi → meth.locks = false → args = #[.ref a] → G.2.2.1 ≤ a → ls[0]? = some (.val (.ref a)) → ls.size = c'.maxLocals → BE G c a 1 (dV c) s.heap s.heap →
      W p G.1 e (rmk (k + 1) mc ms) s m args below meth c' s.heap [] 0 0 (MQ below Qc args s mc ms (fun q => G.2.2.1 ≤ q)) (F0 m 4 ls [])) :
    Met G.1 (yn mi) (wsm mi) (rmk (k + 1) mc ms) (IPre G c) Qc mc ms (fun q => G.2.2.1 ≤ q) := by
  have hy := okY_of (y := mi) hm.1 hm.2
  refine Met.ofW (cc := bc mi) (maxL := nL mi) (ret := rt mi) hy.2.2.2.2.2.2.2 rfl ?_
  intro p e s m args below meth c' s1 B hml hv
  obtain ⟨a, rfl, h3, h4, h5, h6, h7⟩ := hv
  have hts0 := atoms_spec (ws := wsm mi) B.pre
  have hown : s.vm.findClass (RN (own mi)) = some m.cls := by rw [← hy.2.2.1]; exact findClass_of_methodNamed B.named
  have hts : ∀ w ∈ WT, w.before #[.ref a] s = true := fun x hx => hts0 x (List.mem_cons_of_mem _ hx)
  have hl := lv_entry [Value.ref a] (n := nL mi) hnl.1
  have ea : (#[Value.ref a] : Array Value) = [Value.ref a].toArray := rfl
  rw [ea, lg_entry_eq]
  generalize (lg_sl [Value.ref a] ++ List.replicate (nL mi - (lg_sl [Value.ref a]).length) Slot.unset).toArray = lsr at hl ⊢
  unfold ini at hi
  simp only [Bool.and_eq_true, decide_eq_true_eq] at hi
  have l0 : lsr[0]? = some (.val (.ref a)) := hl.2.2 (0, .ref a) List.mem_cons_self
  have mn : meth.name = "<init>" := (name_of_methodNamed B.named B.method).1.trans hnm
  refine lv_aload_n B.exec B.bytes hi.1.1 rfl l0 ?_
  refine W.objInit B.exec B.bytes hown (hts _ (atW_in hi.2)) (hts _ objw.1) (hts _ objw.2) rfl (by rw [hml]; exact hl.1) rfl hi.1.2 (by show 1 ≤ k + 1; omega) (by show 2 * 0 + 0 + 12 ≤ 64 * (k + 1); omega) ?_
  exact body p e s m _ below meth c' a lsr ⟨B.exec, B.bytes, hown, hts, mn, h3, h4⟩ B.returns B.notSynchronized rfl h5 l0 (by rw [hml]; exact hl.1) (BE_0 hc9 h6 h7)
/-! a constructor whose groups fill it -/
theorem init_ok {mi c : Nat} {k : Nat} {gs : List Gp} (hc9 : c < 9) (ho : own mi = c) (hm : mi < 250 ∧ mi ≠ 248) (hnm : (yn mi).name = "<init>") (hnl : 1 ≤ nL mi ∧ nL mi ≤ 20) (hr : rt mi = none) {ix ixw : Nat} (hi : ini mi ix ixw = true)
    (hg : okGs mi c 4 1 gs = true) (hret : decide (decode (bc mi) (gsE c 4 gs) = .ok (.return_, 1)) = true) :
    Met G.1 (yn mi) (wsm mi) (rmk (k + 1) (gsC c gs) (gsS c gs)) (IPre G c) (IPost G c (1 + gsC c gs) (fun a => gsV c a 1 (dV c) gs)) (gsC c gs) (gsS c gs) (fun q => G.2.2.1 ≤ q) := by
  refine init_in hc9 ho hm hnm hnl hi (fun p e s m args below meth c' a ls B hrt hlk ea ha hl hsz X => ?_)
  have B' := B
  obtain ⟨hx, hbc, hown, hts, hin0, kk1, ko⟩ := B
  refine B_all B' hc9 ho hl ha gs 4 1 (dV c) s.heap [] 0 0 hg X (Nat.le_refl 1) (fun q hq => by cases hq) (by show 0 + gsC c gs ≤ gsC c gs; omega) (by show 0 + gsS c gs ≤ gsS c gs; omega) (fun H' locs' X' hlo => ?_)
  rw [Nat.zero_add, Nat.zero_add]
  exact W.vret hx hbc (hrt.trans hr) (fun t ht hW => ⟨rfl, a, ea, by rw [ht]; exact X'⟩) hlo (of_decide_eq_true hret) hlk
end INS
set_option maxRecDepth 100000 in
theorem ckI_0 : okGs 0 0 4 1 gs0 = true ∧ decide (decode (bc 0) (gsE 0 4 gs0) = .ok (.return_, 1)) = true ∧ ini 0 3 360 = true := by decide +kernel
set_option maxRecDepth 100000 in
theorem ckI_5 : okGs 5 1 4 1 gs5 = true ∧ decide (decode (bc 5) (gsE 1 4 gs5) = .ok (.return_, 1)) = true ∧ ini 5 3 308 = true := by decide +kernel
set_option maxRecDepth 100000 in
theorem ckI_33 : okGs 33 3 4 1 gs33 = true ∧ decide (decode (bc 33) (gsE 3 4 gs33) = .ok (.return_, 1)) = true ∧ ini 33 5 244 = true := by decide +kernel
set_option maxRecDepth 100000 in
theorem ckI_42 : okGs 42 4 4 1 gs42 = true ∧ decide (decode (bc 42) (gsE 4 4 gs42) = .ok (.return_, 1)) = true ∧ ini 42 3 126 = true := by decide +kernel
set_option maxRecDepth 100000 in
theorem ckI_63 : okGs 63 5 4 1 gs63 = true ∧ decide (decode (bc 63) (gsE 5 4 gs63) = .ok (.return_, 1)) = true ∧ ini 63 3 340 = true := by decide +kernel
set_option maxRecDepth 100000 in
theorem ckI_67 : okGs 67 6 4 1 gs67 = true ∧ decide (decode (bc 67) (gsE 6 4 gs67) = .ok (.return_, 1)) = true ∧ ini 67 3 324 = true := by decide +kernel
set_option maxRecDepth 100000 in
theorem ckI_127 : okGs 127 8 4 1 gs127 = true ∧ gsE 8 4 gs127 = 534 ∧ ini 127 1 982 = true := by decide +kernel

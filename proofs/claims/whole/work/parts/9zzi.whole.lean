/-! 9zzi.whole: the claim, out of the law's open, loop and end -/
/-! THE CLAIM OUT OF ONE WALK OF THE LAW'S BODY. Your part is whole_start (and what it stands on); all else here is the same for every law, but numbers. -/
def R_law : String := "DarkStreetLaw"
def lw_P (b : Addr) (xs : List Int32) (args : Array Value) (s : State) : Prop := args = #[.ref b] ∧ s.IntsAt b xs ∧ xs.length ≤ 4096 ∧ (Jvm.Cond.and given_1 narrow_1).before args s = true
def lw_Q (_ : Array Value) (s : State) (o : Outcome) (t : State) : Prop := o = .returned (some (.int 1)) ∧ Framed s o t [] 600000 7302250
def lw_Z (below : List Frame) (a : Array Value) (s : State) : State → Prop := fun t => ∃ o, t.status = .running ∧ Ended t below o ∧ lw_Q a s o t
/-- the law's own end, with 1 on the stack, nothing written that was there before, its room as the claim has it -/
theorem lw_ret {p : Program} {l : Launch} {e : Env} {s : State} {m : MethodId} {below : List Frame} {meth : Method} {c : Code} {b : Nat} (hx : p.tables.exec = Jvm.exec) (hb : c.code = code) (hr : meth.sig.returnType = ret) (hlocks : meth.locks = false) {pc : Nat} {H : Heap} {ls : Array Slot} (hdg : decode code pc = .ok (.ireturn, 1)) : W p l e room_1 s m #[Value.ref b] below meth c H [] 600000 7302250 (lw_Z below #[Value.ref b] s) (F0 m pc ls [.int 1]) := by
  intro T hT X
  obtain ⟨fs, hret, hrun, hended, hW, hframe⟩ := X.leave (v := some (.int 1)) (hlocks := hlocks) (fun h => by rw [hr] at h; cases h)
  have hmeth' : T.vm.method? m = some meth := X.method'
  refine ⟨T.setFrames fs, ?_, .returned (some (.int 1)), hrun, hended, rfl, ⟨_, rfl⟩, hW, hframe⟩
  jvm_step X.here [X.here.top, hx, hb, hdg, hmeth', hr, ret, narrow_b1]
  (try refine ⟨rfl, ?_⟩); (try refine ⟨rfl, ?_⟩)
  first | (intro acts; rw [hret _ acts rfl rfl rfl]) | rw [hret _ _ rfl rfl rfl]
  exact Steps.refl _
/-- what holds at the law's entry: the machine, the code, the tables' words (any of lw_tbl by 'hts w (by decide +kernel)'), the script of L ints xs at the cell b, what the Statement gives of the start (any of its parts by flat_of_before) -/
def lw_At (p : Program) (s : State) (m : MethodId) (meth : Method) (c : Code) (b L : Nat) (xs : Nat → Int32) : Prop :=
  p.tables.exec = Jvm.exec ∧ c.code = code ∧ meth.sig.returnType = ret ∧ c.maxLocals = 4 ∧ s.vm.findClass R_law = some m.cls ∧ (∀ w ∈ lw_tbl, w.before #[Value.ref b] s = true) ∧ va_X b L xs s s.heap ∧ b < s.heap.size ∧ meth.locks = false ∧ (Jvm.Cond.and given_1 narrow_1).before #[Value.ref b] s = true
/-- new places are no places of the start: all that was there stays -/
theorem framed_new {s t : State} {o : Outcome} {Lc : List Loc} {k n : Nat} (h : FrameEnd s o t Lc k n) (hL : ∀ q ∈ Lc, s.heap.size ≤ q.base) : Framed s o t [] k n := by
  obtain ⟨h1, h2, h3⟩ := h
  refine ⟨h1, h2, h3.1, h3.2.1, h3.2.2.1, h3.2.2.2.1, h3.2.2.2.2.1, fun a c hc => ?_⟩
  obtain ⟨c', e1, e2, e3, e4⟩ := h3.2.2.2.2.2 a c hc
  refine ⟨c', e1, e2, e3, fun i _ => e4 i (fun hm => ?_)⟩
  have y : s.heap.size ≤ a := hL _ hm
  exact absurd y (Nat.not_le_of_lt (Array.getElem?_eq_some_iff.mp hc).1)
theorem W_post {p : Program} {l : Launch} {e : Env} {R : Room} {s : State} {m : MethodId} {args : Array Value} {below : List Frame} {meth : Method} {c : Code} {H : Heap} {locs : List Loc} {cells slots : Nat} {Q Q' : State → Prop} {g : JFrame} (h : W p l e R s m args below meth c H locs cells slots Q g) (f : ∀ t, Q t → Q' t) : W p l e R s m args below meth c H locs cells slots Q' g := by
  intro T hT X
  obtain ⟨t, a, b⟩ := h T hT X
  exact ⟨t, a, f t b⟩
theorem law_end {G : Gl} {s : State} {below : List Frame} {a : Array Value} {ob0 : Nat → Nat} (hb : G.2.2.1 = s.heap.size) : ∀ t, MQ below (QQ G w00 ob0 w00 (fun rv _ => rv = some (vi 1))) a s 600000 7302250 (fun q => G.2.2.1 ≤ q) t → lw_Z below a s t := by
  rintro t ⟨o, h1, h2, ⟨ob', rv, σ', q1, q2, q3, q4, q5, q6, q7, q8⟩, Lc, h3, h4⟩
  refine ⟨o, h1, h2, ?_, framed_new h3 (fun q hq => by rw [← hb]; exact h4 q hq)⟩
  rw [q1, q6]
  rfl
theorem bc248 : code = bc 248 ∧ ret = rt 248 ∧ nL 248 = 4 ∧ RN (own 248) = R_law := ⟨rfl, rfl, rfl, rfl⟩
theorem LH_script {ob : Nat → Nat} {l1 l2 l3 : Option AV} {lsr : Array Slot} (h : LH ob [some (vr 999 0 0), l1, l2, l3] lsr 4) : LH ob [some (vr 999 999 0), l1, l2, l3] lsr 4 := by
  obtain ⟨h1, h2, h3, h4⟩ := h
  refine ⟨h1, h2, h3, fun i v hv => ?_⟩
  match i, hv with
  | 0, hv =>
    have e : v = vr 999 999 0 := by
      have y : some (vr 999 999 0) = some v := hv
      injection y with y
      exact y.symm
    subst e
    exact h4 0 (vr 999 0 0) rfl
  | i + 1, hv => exact h4 (i + 1) v hv
/-- YOUR PART: from the entry, for every script of at most 4096 ints, the law comes to its end with true ('hflags': the launch's flags, for a law that throws: no stack traces) -/
theorem whole_start {p : Program} {e : Env} {s : State} {m : MethodId} {below : List Frame} {meth : Method} {c : Code} (l : Launch) (hflags : l.flags = flags0) {b L : Nat} {xs : Nat → Int32} (hL : L ≤ 4096) (C0 : lw_At p s m meth c b L xs) : W p l e room_1 s m #[Value.ref b] below meth c s.heap [] 0 0 (lw_Z below #[Value.ref b] s) (entryFrame m ([Value.ref b] : List Value).toArray 4) := by
  obtain ⟨hx, hb, hr, hml, hown, hts, hX, hbl, hlk, hg⟩ := C0
  obtain ⟨e1, e2, e3, e4⟩ := bc248
  obtain ⟨dC, dI, aC, hK⟩ := start_K hts
  obtain ⟨ob, aV, ob9, hS⟩ := start_S hts hg hX hbl hL
  obtain ⟨G, hG⟩ : ∃ G : Gl, G = (l, (dC, dI, aC), s.heap.size, (L, fun j => (xs j).toInt), aV) := ⟨_, rfl⟩
  have kk1 : KK G s := by rw [hG]; exact (hK l s.heap.size _ aV).1
  have kx : KX G s := by rw [hG]; exact (hK l s.heap.size _ aV).2
  have ss : SS G ob s s.heap := by rw [hG] at kx ⊢; exact hS l (dC, dI, aC) kx
  have g1 : G.1 = l := by rw [hG]
  have gb : G.2.2.1 = s.heap.size := by rw [hG]
  have gL : G.2.2.2.1.1 = L := by rw [hG]
  have cx : Cx 248 p s m #[Value.ref b] meth c := ⟨hx, by rw [hb]; exact e1, by rw [hr]; exact e2, by rw [hml]; exact e3.symm, by rw [e4]; exact hown, fun w hw => hts w (List.mem_filter.mp hw).1, hlk⟩
  have hl := lv_entry [Value.ref b] (n := 4) (Nat.le_of_ble_eq_true rfl)
  rw [lg_entry_eq]
  generalize (lg_sl [Value.ref b] ++ List.replicate (4 - (lg_sl [Value.ref b]).length) Slot.unset).toArray = lsr at hl ⊢
  have l0 : lsr[0]? = some (.val (.ref b)) := hl.2.2 (0, .ref b) List.mem_cons_self
  have o9 : obF ob s.heap.size 999 = b := by
    unfold obF
    rw [if_neg (by omega)]
    exact ob9
  have lh : LH (obF ob s.heap.size) [some (vr 999 0 0), none, none, none] lsr 4 := by
    refine ⟨hl.1, rfl, hl.2.1, fun i v hv => ?_⟩
    match i, hv with
    | 0, hv =>
      have e : v = vr 999 0 0 := by
        have y : some (vr 999 0 0) = some v := hv
        injection y with y
        exact y.symm
      subst e
      show lsr[0]? = some (.val (.ref (adr (obF ob s.heap.size) 999 0 0)))
      rw [l0]
      show _ = some (Slot.val (.ref (obF ob s.heap.size 999)))
      rw [o9]
    | 1, hv => cases hv
    | 2, hv => cases hv
    | 3, hv => cases hv
    | i + 4, hv => cases hv
  refine W_room (R' := rmk (1308 + 4) 600000 7302250) ⟨by decide, by decide, by decide, by decide⟩ (W_post ?_ (law_end (G := G) (ob0 := obF ob s.heap.size) gb))
  rw [← g1]
  refine law_open cx kk1 kx (by omega) (by omega) (by omega) lh (fun H3 locs lsr' rp hsz hkeep hlo lh' => ?_)
  have tt := law_18 (G := G) (w0 := w00) (k := 1308 + 4) (by omega) ss.2.2.1 (by omega) L w00 σ00 0 (by omega) (by omega) (by omega) (fun _ z => z) ⟨P00, 0, fun _ => [], 0, fun _ => False, fun _ => P00, LW_00⟩
  refine tt p e s m #[Value.ref b] below meth c H3 locs 428 65624 600000 7302250 lsr' (obF ob s.heap.size) (obF ob s.heap.size) ⟨cx, kk1, ss.ag (fun o ho => by unfold obF; rw [if_neg (by omega)]), rp, wf00, fun v hv => (by cases hv), fun i v hv => ?_, LH_script lh', ⟨hsz, by omega, fun q hq => hkeep q (by omega), hlo⟩, fun _ _ => rfl⟩ (by decide) (by decide)
  match i, hv with
  | 0, hv =>
    have y : some (vr 999 999 0) = some v := hv
    injection y with y
    rw [← y]
    exact Or.inl ⟨by omega, Or.inr rfl, rfl⟩
  | 1, hv =>
    have y : some (vr 0 0 0) = some v := hv
    injection y with y
    rw [← y]
    exact Or.inr ⟨⟨Or.inl (by omega), by omega⟩, Or.inl ⟨rfl, rfl⟩⟩
  | 2, hv =>
    have y : some (vr 21 0 0) = some v := hv
    injection y with y
    rw [← y]
    exact Or.inr ⟨⟨Or.inr (Or.inr (Or.inl rfl)), by omega⟩, Or.inl ⟨rfl, rfl⟩⟩
  | 3, hv =>
    have y : some (vi 0) = some v := hv
    injection y with y
    rw [← y]
    show I32 0
    unfold I32
    omega
  | i + 4, hv => cases hv
set_option maxHeartbeats 4000000 in
theorem lw_walk (l : Launch) (hflags : l.flags = flags0) (b : Addr) (xs : List Int32) : MetFree l x (headSpec (Jvm.Cond.code x code maxLocals ret :: tables_1) room_1) (lw_P b xs) (fun _ _ _ _ _ => True) lw_Q := by
  refine MetFree.of_bodyS (code := code) (maxLocals := maxLocals) (ret := ret) (by decide) ?_ ?_
  · intro args s m h hn
    obtain ⟨meth, c, h1, h2, h3, h4, h5, h6, -, -⟩ := Cond.code_spec hn (atoms_spec (ws := Jvm.Cond.code x code maxLocals ret :: tables_1) h _ List.mem_cons_self)
    exact ⟨meth, c, h1, h2, h3, h4, h5, h6⟩
  · intro p e s m args below meth c s₁ B hml0 hP _
    obtain ⟨rfl, hx, hbd, hgv⟩ := hP
    obtain ⟨scr, harrAt, hlist, hof, hsmall⟩ := hx
    obtain ⟨hcb, hkn, -, -⟩ := State.arrayAt?_spec harrAt
    have hown : s.vm.findClass R_law = some m.cls := findClass_of_methodNamed B.named
    have hts0 : ∀ c ∈ (Jvm.Cond.code x code maxLocals ret :: tables_1), c.before #[Value.ref b] s = true := atoms_spec (ws := Jvm.Cond.code x code maxLocals ret :: tables_1) B.pre
    have hts : ∀ w ∈ lw_tbl, w.before #[Value.ref b] s = true := k2_hts_sels lw_privs (fun w hw => hts0 w (List.mem_cons_of_mem _ hw)) lw_privs_ok
    have hml : c.maxLocals = 4 := B.maxLocals_eq (hts0 _ List.mem_cons_self)
    have X₀ : Stand p l e room_1 s m #[Value.ref b] below meth c s₁ [] 0 0 := Stand.of_body B
    have hh0 : s₁.heap = s.heap := by rw [B.state]; rfl
    have hsz : scr.slots.size = xs.length := by rw [← Array.length_toList, hlist, List.length_map]
    have hval : ∀ j : Nat, j < xs.length → scr.slots[j]? = some (.int (xs.getD j 0)) := fun j hj => by
      rw [← Array.getElem?_toList, hlist]
      simp [hj]
    have hbl : b < s.heap.size := (Array.getElem?_eq_some_iff.mp hcb).1
    have hX : va_X b xs.length (fun j => xs.getD j 0) s s.heap := ⟨scr, hcb, hof, hkn, hsz, hval⟩
    have K : W p l e room_1 s m #[Value.ref b] below meth c s₁.heap [] 0 0 (lw_Z below #[Value.ref b] s) (entryFrame m ([Value.ref b] : List Value).toArray 4) := by
      rw [hh0]
      exact whole_start l hflags hbd ⟨B.exec, B.bytes, B.returns, hml, hown, hts, hX, hbl, B.notSynchronized, hgv⟩
    obtain ⟨t, a1, o, b1, b2, b3⟩ := K s₁ rfl X₀
    exact ⟨t, o, a1, b1, b2, b3⟩
theorem lw_pre_spec {args : Array Value} {s : State} (h : (Jvm.Cond.and given_1 narrow_1).before args s = true) (hr : rest_1_c.before args s = true) : ∃ (b : Addr) (xs : List Int32), lw_P b xs args s := by
  have hs := flat_of_before _ h
  have hq := flat_of_before _ hr
  have hc : (Cond.count 1).before args s = true := hs _ (by decide +kernel)
  have harr : (Cond.arrayOf (.arg 0) .int).before args s = true := hs _ (by decide +kernel)
  have hle : (Cond.le (.length (.arg 0)) (.int 4096)).before args s = true := hs _ (by decide +kernel)
  have hlen : (Cond.isInt (.length (.arg 0))).before args s = true := hq _ (by decide +kernel)
  have hall : (Cond.all (.arg 0) (.isInt (.elem (.arg 0) (.index 0)))).before args s = true := hq _ (by decide +kernel)
  obtain ⟨b, xs, hb, hx⟩ := State.ints_of_pre rfl harr hlen hall
  have hsm : xs.length < 2 ^ 31 := hx.choose_spec.2.2.2
  have hev : (Term.length (.arg 0)).eval args s none [] s = some (.int xs.length.toInt32) := hx.length_eval hb
  have hv := Cond.le_ints hev (show (Term.int 4096).eval args s none [] s = some (.int 4096) from rfl)
  have hd : xs.length.toInt32 ≤ 4096 := by
    simpa [Cond.before, Cond.holds, hv] using hle
  have hN : xs.length ≤ 4096 := (Int32.ofNat_le_ofNat hsm (by decide)).mp (show Int32.ofNat xs.length ≤ Int32.ofNat 4096 from hd)
  exact ⟨b, xs, Cond.one_arg hc (show args[0]? = some (.ref b) from hb), hx, hN, h⟩
theorem lw_comes (l : Launch) (hflags : l.flags = flags0) : Comes l x (Jvm.Cond.code x code maxLocals ret :: tables_1) room_1 (fun tb e args s => Calls_1 tb e args s ∧ rest_1 tb e args s ∧ Pre_1 tb e args s)
    (fun _ _ args s o t => lw_Q args s o t) := by
  intro p e ha hc hk s m args below hf hfit hheap happ hpre
  obtain ⟨b, xs, hP⟩ := lw_pre_spec hpre.2.2 hpre.2.1
  obtain ⟨k, o, h1, h2, h3, hQ⟩ := lw_walk l hflags b xs p e ha hc hk s m args below hf ((Spec.applies_iff_loose hf).mp happ).1 hP trivial
  exact ⟨k, o, h1, h2, h3, hQ⟩
theorem lw_frame {s t : State} {o : Outcome} {args : Array Value} (h : Framed s o t [] 600000 7302250) :
    Framed s o t (fieldLocs frame_1_writes args s ++ arrayLocs frame_1_arrays args s ++ staticLocs frame_1_statics s) 600000 7302250 := h
theorem lw_limb (L : Cond) (hL : ∀ (args : Array Value) (s t : State), L.after args s (.returned (some (.int 1))) t = true) :
    ArmFor flags0 classFile x code maxLocals ret World_1 tables_1 room_1 Calls_1 rest_1 Pre_1
      (fun tb e a s o t => postC L tb e a s o t ∧ Framed s o t (fieldLocs frame_1_writes a s ++ arrayLocs frame_1_arrays a s ++ staticLocs frame_1_statics s) 600000 7302250) := by
  intro l hflags _ _ p e ha hc hk s m args below hf hfit hheap happ hpre
  obtain ⟨k, o, h1, h2, h3, rfl, hF⟩ := lw_comes l hflags p e ha hc hk s m args below hf hfit hheap happ hpre
  exact ⟨k, _, h1, h2, h3, hL args s _, lw_frame hF⟩
theorem i_vc : Claimed_1_1 ∧ Claimed_1_2 := ⟨lw_limb limb_1_1 (fun args s t => by simp [limb_1_1, Cond.after, Cond.holds, Cond.value]), lw_limb limb_1_2 (fun args s t => Cond.after_iff.mpr (by
  first | (rw [show limb_1_2 = Cond.eq .result (.int 1) from rfl, Cond.eq_ints (x := 1) (y := 1) rfl rfl]; simp; done) | (simp [limb_1_2, Cond.value, Term.eval]; done)))⟩

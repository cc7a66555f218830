/-! 10.jdk: Math's other numbers; where their words stand -/
set_option maxRecDepth 100000 in
theorem jm_abs : lw_tbl[433]? = some (.code Lib.Math.abs.name Lib.Math.abs.code 1 (some .int)) := by rfl
set_option maxRecDepth 100000 in
theorem jm_max : lw_tbl[653]? = some (.code Lib.Math.max.name Lib.Math.max.code 2 (some .int)) := by rfl
set_option maxRecDepth 100000 in
theorem jm_min : lw_tbl[510]? = some (.code Lib.Math.min.name Lib.Math.min.code 2 (some .int)) := by rfl
set_option maxRecDepth 100000 in
theorem jm_maxl : lw_tbl[689]? = some (.code Lib.MathLoose.max_long.x Lib.MathLoose.max_long.code 4 (some .long)) := by rfl
set_option maxRecDepth 100000 in
theorem jm_minl : lw_tbl[692]? = some (.code Lib.MathLoose.min_long.x Lib.MathLoose.min_long.code 4 (some .long)) := by rfl
theorem js_all : (atW 432 (.static Lib.Math.abs.name) && atW 652 (.static Lib.Math.max.name) && atW 509 (.static Lib.Math.min.name) && atW 688 (.static Lib.MathLoose.max_long.x) && atW 691 (.static Lib.MathLoose.min_long.x) && atW 106 (.initialized "java/lang/Math") && atW 768 (.static arraycopyName) && atW 769 (.native arraycopyName) && atW 111 (.initialized "java/lang/System")) = true := by decide +kernel
theorem js_spec : Cond.static Lib.Math.abs.name ∈ WT ∧ Cond.static Lib.Math.max.name ∈ WT ∧ Cond.static Lib.Math.min.name ∈ WT ∧ Cond.static Lib.MathLoose.max_long.x ∈ WT ∧ Cond.static Lib.MathLoose.min_long.x ∈ WT ∧ Cond.initialized "java/lang/Math" ∈ WT ∧ Cond.static arraycopyName ∈ WT ∧ Cond.native arraycopyName ∈ WT ∧ Cond.initialized "java/lang/System" ∈ WT := by
  have h := js_all
  simp only [Bool.and_eq_true] at h
  obtain ⟨⟨⟨⟨⟨⟨⟨⟨h1, h2⟩, h3⟩, h4⟩, h5⟩, h6⟩, h7⟩, h8⟩, h9⟩ := h
  exact ⟨atW_in h1, atW_in h2, atW_in h3, atW_in h4, atW_in h5, atW_in h6, atW_in h7, atW_in h8, atW_in h9⟩
theorem ml_max {ow ix : Nat} (h : Cond.methodLink (RN ow) ix (jname 1001) ∈ WT) : mlink ow ix Lib.Math.max.name Lib.Math.max.code 2 (some .int) := ⟨h, js_spec.2.1, js_spec.2.2.2.2.2.1, WT_in (List.mem_of_getElem? jm_max) rfl⟩
theorem ml_min {ow ix : Nat} (h : Cond.methodLink (RN ow) ix (jname 1002) ∈ WT) : mlink ow ix Lib.Math.min.name Lib.Math.min.code 2 (some .int) := ⟨h, js_spec.2.2.1, js_spec.2.2.2.2.2.1, WT_in (List.mem_of_getElem? jm_min) rfl⟩
theorem ml_abs {ow ix : Nat} (h : Cond.methodLink (RN ow) ix (jname 1000) ∈ WT) : mlink ow ix Lib.Math.abs.name Lib.Math.abs.code 1 (some .int) := ⟨h, js_spec.1, js_spec.2.2.2.2.2.1, WT_in (List.mem_of_getElem? jm_abs) rfl⟩
theorem ml_maxl {ow ix : Nat} (h : Cond.methodLink (RN ow) ix (jname 1003) ∈ WT) : mlink ow ix Lib.MathLoose.max_long.x Lib.MathLoose.max_long.code 4 (some .long) := ⟨h, js_spec.2.2.2.1, js_spec.2.2.2.2.2.1, WT_in (List.mem_of_getElem? jm_maxl) rfl⟩
theorem ml_minl {ow ix : Nat} (h : Cond.methodLink (RN ow) ix (jname 1004) ∈ WT) : mlink ow ix Lib.MathLoose.min_long.x Lib.MathLoose.min_long.code 4 (some .long) := ⟨h, js_spec.2.2.2.2.1, js_spec.2.2.2.2.2.1, WT_in (List.mem_of_getElem? jm_minl) rfl⟩
section JDK
variable {G : Gl} {w0 w w2 : Wd} {k : Nat} {rc : Nat × Nat} {mi pc : Nat} {ls : List (Option AV)} {st : List AV} {σ : Mem} {Q : Option AV → Mem → Prop}
theorem S_mabs {ix : Nat} {a : Int} (h : decode (bc mi) pc = .ok (.invokestatic ix, 3)) (hl : mlink (own mi) ix Lib.Math.abs.name Lib.Math.abs.code 1 (some .int)) (hs : csum st ≤ 8) (hm : I32 (-a))
    (kk : TT G w0 w w2 (k + 1) rc mi (pc + 3) ls (vi (max a (-a)) :: st) σ Q) : TT G w0 w w2 (k + 1) rc mi pc ls (vi a :: st) σ Q := by
  intro p e s m args below meth c H locs cells slots mc ms lsr ob0 ob hE h1 h2
  obtain ⟨cx, kk1, ss, rep, wσ, wst, wls, lh, fr, ag⟩ := hE
  have hts := cx.2.2.2.2.2.1
  have ha : I32 a := wf_hd wst
  refine va_mabs cx.1 cx.2.1 (by rw [cx.2.2.2.1, lh.1]) cx.2.2.2.2.1 (hts _ hl.1) (hts _ hl.2.1) (hts _ hl.2.2.1) (hts _ hl.2.2.2) (by show 1 ≤ k + 1; omega) (by rw [csum_eq]; show csum st + 13 ≤ 64 * (k + 1); omega) (by show cells ≤ mc; omega) (by show slots ≤ ms; omega) h ?_
  have hm2 : I32 (max a (-a)) := by unfold I32 at ha hm ⊢; omega
  have e0 : (0 : Int32) ≤ Int32.ofInt a ↔ 0 ≤ a := i32_le I32_0 ha
  have e9 : (if (0 : Int32) ≤ Int32.ofInt a then Int32.ofInt a else 0 - Int32.ofInt a) = Int32.ofInt (max a (-a)) := by
    by_cases z : 0 ≤ a
    · rw [if_pos (e0.mpr z), show max a (-a) = a by omega]
    · rw [if_neg (fun q => z (e0.mp q)), show max a (-a) = 0 - a by omega, o_sub]; rfl
  rw [e9]
  exact kk p e s m args below meth c H locs cells slots mc ms lsr ob0 ob ⟨cx, kk1, ss, rep, wσ, wf_cons (wfi hm2) (wf_tl wst), wls, lh, fr, ag⟩ h1 h2
theorem S_mmaxl {ix : Nat} {a b : Int} (h : decode (bc mi) pc = .ok (.invokestatic ix, 3)) (hl : mlink (own mi) ix Lib.MathLoose.max_long.x Lib.MathLoose.max_long.code 4 (some .long)) (hs : csum st ≤ 8)
    (kk : TT G w0 w w2 (k + 1) rc mi (pc + 3) ls (vl (max a b) :: st) σ Q) : TT G w0 w w2 (k + 1) rc mi pc ls (vl b :: vl a :: st) σ Q := by
  intro p e s m args below meth c H locs cells slots mc ms lsr ob0 ob hE h1 h2
  obtain ⟨cx, kk1, ss, rep, wσ, wst, wls, lh, fr, ag⟩ := hE
  have hts := cx.2.2.2.2.2.1
  have ha : I64 a := wf_hd (wf_tl wst)
  have hb : I64 b := wf_hd wst
  refine va_mmax_long cx.1 cx.2.1 (by rw [cx.2.2.2.1, lh.1]) cx.2.2.2.2.1 (hts _ hl.1) (hts _ hl.2.1) (hts _ hl.2.2.1) (hts _ hl.2.2.2) (by show 1 ≤ k + 1; omega) (by rw [csum_eq]; show csum st + 15 ≤ 64 * (k + 1); omega) (by show cells ≤ mc; omega) (by show slots ≤ ms; omega) h ?_
  have hm : I64 (max a b) := by unfold I64 at ha hb ⊢; omega
  have e9 : (if Int64.ofInt b < Int64.ofInt a then Int64.ofInt a else Int64.ofInt b) = Int64.ofInt (max a b) := by
    by_cases z : b < a
    · rw [if_pos ((i64_lt hb ha).mpr z), show max a b = a by omega]
    · rw [if_neg (fun q => z ((i64_lt hb ha).mp q)), show max a b = b by omega]
  rw [e9]
  exact kk p e s m args below meth c H locs cells slots mc ms lsr ob0 ob ⟨cx, kk1, ss, rep, wσ, wf_cons (wfl hm) (wf_tl (wf_tl wst)), wls, lh, fr, ag⟩ h1 h2
theorem S_mminl {ix : Nat} {a b : Int} (h : decode (bc mi) pc = .ok (.invokestatic ix, 3)) (hl : mlink (own mi) ix Lib.MathLoose.min_long.x Lib.MathLoose.min_long.code 4 (some .long)) (hs : csum st ≤ 8)
    (kk : TT G w0 w w2 (k + 1) rc mi (pc + 3) ls (vl (min a b) :: st) σ Q) : TT G w0 w w2 (k + 1) rc mi pc ls (vl b :: vl a :: st) σ Q := by
  intro p e s m args below meth c H locs cells slots mc ms lsr ob0 ob hE h1 h2
  obtain ⟨cx, kk1, ss, rep, wσ, wst, wls, lh, fr, ag⟩ := hE
  have hts := cx.2.2.2.2.2.1
  have ha : I64 a := wf_hd (wf_tl wst)
  have hb : I64 b := wf_hd wst
  refine va_mmin_long cx.1 cx.2.1 (by rw [cx.2.2.2.1, lh.1]) cx.2.2.2.2.1 (hts _ hl.1) (hts _ hl.2.1) (hts _ hl.2.2.1) (hts _ hl.2.2.2) (by show 1 ≤ k + 1; omega) (by rw [csum_eq]; show csum st + 15 ≤ 64 * (k + 1); omega) (by show cells ≤ mc; omega) (by show slots ≤ ms; omega) h ?_
  have hm : I64 (min a b) := by unfold I64 at ha hb ⊢; omega
  have e9 : (if Int64.ofInt b < Int64.ofInt a then Int64.ofInt b else Int64.ofInt a) = Int64.ofInt (min a b) := by
    by_cases z : b < a
    · rw [if_pos ((i64_lt hb ha).mpr z), show min a b = b by omega]
    · rw [if_neg (fun q => z ((i64_lt hb ha).mp q)), show min a b = a by omega]
  rw [e9]
  exact kk p e s m args below meth c H locs cells slots mc ms lsr ob0 ob ⟨cx, kk1, ss, rep, wσ, wf_cons (wfl hm) (wf_tl (wf_tl wst)), wls, lh, fr, ag⟩ h1 h2
end JDK

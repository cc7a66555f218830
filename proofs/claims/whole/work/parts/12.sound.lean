/-! 12.sound: vc gives TT -/
theorem s1i_inv {κ : Int → List AV → Prop} {st : List AV} (h : s1i κ st) : ∃ a t, st = vi a :: t ∧ κ a t := by
  match st, h with
  | .inl a :: t, h => exact ⟨a, t, rfl, h⟩
theorem s2i_inv {κ : Int → Int → List AV → Prop} {st : List AV} (h : s2i κ st) : ∃ a b t, st = vi b :: vi a :: t ∧ κ a b t := by
  match st, h with
  | .inl b :: .inl a :: t, h => exact ⟨a, b, t, rfl, h⟩
theorem s1l_inv {κ : Int → List AV → Prop} {st : List AV} (h : s1l κ st) : ∃ a t, st = vl a :: t ∧ κ a t := by
  match st, h with
  | .inr (.inl a) :: t, h => exact ⟨a, t, rfl, h⟩
theorem s2l_inv {κ : Int → Int → List AV → Prop} {st : List AV} (h : s2l κ st) : ∃ a b t, st = vl b :: vl a :: t ∧ κ a b t := by
  match st, h with
  | .inr (.inl b) :: .inr (.inl a) :: t, h => exact ⟨a, b, t, rfl, h⟩
theorem s1q_inv {κ : Option (Nat × Nat × Nat) → List AV → Prop} {st : List AV} (h : s1q κ st) : ∃ q t, st = .inr (.inr q) :: t ∧ κ q t := by
  match st, h with
  | .inr (.inr q) :: t, h => exact ⟨q, t, rfl, h⟩
theorem s1r_inv {κ : Nat → Nat → Nat → List AV → Prop} {st : List AV} (h : s1r κ st) : ∃ o f r t, st = vr o f r :: t ∧ κ o f r t := by
  match st, h with
  | .inr (.inr (some (o, f, r))) :: t, h => exact ⟨o, f, r, t, rfl, h⟩
theorem recv_inv {κ : Nat → Nat → Nat → List AV → Prop} {st : List AV} (h : recv κ st) : ∃ o f r t, st = vr o f r :: t ∧ κ o f r t := by
  match st, h with
  | .inr (.inr (some (o, f, r))) :: t, h => exact ⟨o, f, r, t, rfl, h⟩
theorem sir_inv {κ : Int → Nat → Nat → Nat → List AV → Prop} {st : List AV} (h : sir κ st) : ∃ i o f r t, st = vi i :: vr o f r :: t ∧ κ i o f r t := by
  match st, h with
  | .inl i :: .inr (.inr (some (o, f, r))) :: t, h => exact ⟨i, o, f, r, t, rfl, h⟩
theorem siir_inv {κ : Int → Int → Nat → Nat → Nat → List AV → Prop} {st : List AV} (h : siir κ st) : ∃ x i o f r t, st = vi x :: vi i :: vr o f r :: t ∧ κ x i o f r t := by
  match st, h with
  | .inl x :: .inl i :: .inr (.inr (some (o, f, r))) :: t, h => exact ⟨x, i, o, f, r, t, rfl, h⟩
theorem slir_inv {κ : Int → Int → Nat → Nat → Nat → List AV → Prop} {st : List AV} (h : slir κ st) : ∃ x i o f r t, st = vl x :: vi i :: vr o f r :: t ∧ κ x i o f r t := by
  match st, h with
  | .inr (.inl x) :: .inl i :: .inr (.inr (some (o, f, r))) :: t, h => exact ⟨x, i, o, f, r, t, rfl, h⟩
theorem sdup_inv {κ : AV → List AV → Prop} {st : List AV} (h : sdup κ st) : ∃ v t, st = v :: t ∧ isLg (some v) = false ∧ κ v t := by
  match st, h with
  | v :: t, h => exact ⟨v, t, rfl, h⟩
theorem spop2_inv {κ : List AV → Prop} {st : List AV} (h : spop2 κ st) : ∃ x t, st = vl x :: t ∧ κ t := by
  match st, h with
  | .inr (.inl x) :: t, h => exact ⟨x, t, rfl, h⟩
theorem sdup2_inv {κ : List AV → Prop} {st : List AV} (h : sdup2 κ st) : (∃ x t, st = vl x :: t ∧ κ (vl x :: vl x :: t)) ∨ ∃ v u t, st = v :: u :: t ∧ isLg (some v) = false ∧ isLg (some u) = false ∧ κ (v :: u :: v :: u :: t) := by
  match st, h with
  | .inr (.inl x) :: t, h => exact Or.inl ⟨x, t, rfl, h⟩
  | .inl a :: u :: t, h => exact Or.inr ⟨_, u, t, rfl, h.1, h.2.1, h.2.2⟩
  | .inr (.inr a) :: u :: t, h => exact Or.inr ⟨_, u, t, rfl, h.1, h.2.1, h.2.2⟩
theorem oI_inv {κ : AV → Prop} {v : Option AV} (h : oI κ v) : ∃ a, v = some (vi a) ∧ κ (vi a) := by
  match v, h with
  | some (.inl a), h => exact ⟨a, rfl, h⟩
theorem oL_inv {κ : AV → Prop} {v : Option AV} (h : oL κ v) : ∃ a, v = some (vl a) ∧ κ (vl a) := by
  match v, h with
  | some (.inr (.inl a)), h => exact ⟨a, rfl, h⟩
theorem oA_inv {κ : AV → Prop} {v : Option AV} (h : oA κ v) : ∃ q, v = some (.inr (.inr q)) ∧ κ (.inr (.inr q)) := by
  match v, h with
  | some (.inr (.inr q)), h => exact ⟨q, rfl, h⟩
theorem popA_spec : ∀ (n : Nat) (acc st : List AV), n ≤ st.length → acc.reverse ++ st = (popA n acc st).1.reverse ++ (popA n acc st).2 ∧ (popA n acc st).1.length = acc.length + n
  | 0, acc, st, h => ⟨rfl, rfl⟩
  | n + 1, acc, [], h => by simp at h
  | n + 1, acc, v :: st, h => by
    obtain ⟨h1, h2⟩ := popA_spec n (v :: acc) st (by simpa using h)
    refine ⟨?_, ?_⟩
    · show acc.reverse ++ v :: st = (popA n (v :: acc) st).1.reverse ++ (popA n (v :: acc) st).2
      rw [← h1]; simp
    · show (popA n (v :: acc) st).1.length = _
      rw [h2]; simp; omega
theorem tbAll_at {κ : Int → Prop} {a : Int} : ∀ (l : List Int) (lo : Int), tbAll κ a lo l → ∀ (j : Nat) (o : Int), l[j]? = some o → a = lo + j → κ o
  | [], lo, h, j, o, hj, e => by simp at hj
  | x :: l, lo, h, 0, o, hj, e => by
    simp at hj
    subst hj
    exact h.1 (by simpa using e)
  | x :: l, lo, h, j + 1, o, hj, e => tbAll_at l (lo + 1) h.2 j o (by simpa using hj) (by rw [e]; push_cast; omega)
theorem i8_of {n : Int} (h1 : -128 ≤ n) (h2 : n ≤ 127) : (Int8.ofInt n).toInt32 = Int32.ofInt n := by
  rw [← Int32.toInt_inj, Int8.toInt_toInt32, t32 (by unfold I32; omega), Int8.toInt_ofInt]
  have e : ((Int8.size : Nat) : Int) = 256 := rfl
  rw [Int.bmod_def, e]
  split <;> omega
theorem i16_of {n : Int} (h1 : -32768 ≤ n) (h2 : n ≤ 32767) : (Int16.ofInt n).toInt32 = Int32.ofInt n := by
  rw [← Int32.toInt_inj, Int16.toInt_toInt32, t32 (by unfold I32; omega), Int16.toInt_ofInt]
  have e : ((Int16.size : Nat) : Int) = 65536 := rfl
  rw [Int.bmod_def, e]
  split <;> omega
theorem CC_post {G : Gl} {w w2 : Wd} {k : Nat} {rc : Nat × Nat} {y : Nat} {as : List AV} {σ : Mem} {Q Q' : Option AV → Mem → Prop} (h : CC G w w2 k rc y as σ Q) (hq : ∀ rv σ', Q rv σ' → Q' rv σ') : CC G w w2 k rc y as σ Q' := by
  intro ob has
  intro p e ha hc hk s m args below hf hfit hP hK
  obtain ⟨n, o, h1, h2, h3, ⟨ob', rv, σ', q1, q2, q3, q4, q5, q6, q7⟩, h4⟩ := h ob has p e ha hc hk s m args below hf hfit hP hK
  exact ⟨n, o, h1, h2, h3, ⟨ob', rv, σ', q1, q2, q3, q4, q5, hq rv σ' q6, q7⟩, h4⟩
section SND
variable {G : Gl} {w0 w w2 : Wd} {k ks : Nat} {rc : Nat × Nat} {mi pc : Nat} {ls : List (Option AV)} {st : List AV} {σ : Mem} {Q : Option AV → Mem → Prop} {sm : Sm}
theorem S_lookup : ∀ (prs : List (Int × Int)) (d : Int) {all : Array (Int × Int)} {d0 : Int} {len : Nat} {a : Int} {κ : Int → Prop} (_ : decode (bc mi) pc = .ok (.lookupswitch d0 all, len)) (_ : (all.toList.zip (all.toList.drop 1)).all (fun (a, next) => a.1 < next.1) = true) (_ : ∀ p ∈ prs, 0 ≤ (pc : Int) + p.2) (_ : 0 ≤ (pc : Int) + d)
    (_ : Op.lookupswitch.offset all.toList d0 a = Op.lookupswitch.offset prs d a) (_ : ∀ o, κ o → TT G w0 w w2 k rc mi ((pc : Int) + o).toNat ls st σ Q) (_ : lkAll κ a d prs), TT G w0 w w2 k rc mi pc ls (vi a :: st) σ Q
  | [], d, all, d0, len, a, κ, h, hs, hp, hd, he, hκ, hl => by
    refine TT_pure (fun h1 _ => wf_tl h1) (fun _ _ _ _ _ _ _ _ _ _ _ _ _ _ _ _ hx hb _ _ _ hw k9 => ?_) (hκ d hl)
    have ha : I32 a := wf_hd hw
    refine lv_lookup hx hb h hs (off := d) (by rw [t32 ha, he]; rfl) ?_ k9
    omega
  | q :: r, d, all, d0, len, a, κ, h, hs, hp, hd, he, hκ, hl => by
    by_cases e : a = q.1
    · refine TT_pure (fun h1 _ => wf_tl h1) (fun _ _ _ _ _ _ _ _ _ _ _ _ _ _ _ _ hx hb _ _ _ hw k9 => ?_) (hκ q.2 (hl.1 e))
      have ha : I32 a := wf_hd hw
      refine lv_lookup hx hb h hs (off := q.2) (by rw [t32 ha, he]; show (if q.1 = a then q.2 else _) = _; rw [if_pos e.symm]) ?_ k9
      have := hp q List.mem_cons_self
      omega
    · exact S_lookup r d h hs (fun p hp' => hp p (List.mem_cons_of_mem _ hp')) hd (by rw [he]; show (if q.1 = a then q.2 else _) = _; rw [if_neg (fun z => e z.symm)]) hκ (hl.2 e)
def SmOK (G : Gl) (w : Wd) (ks : Nat) (sm : Sm) : Prop := ∀ y f, sm y = some f → ∀ k' as σ (Q : Option AV → Mem → Prop), ks ≤ k' → (f as σ).1 → Q (f as σ).2 σ → CC G w w k' (0, 0) y as σ Q
theorem call_CC (hsm : SmOK G w ks sm) {y : Nat} {as : List AV} {Q' : Option AV → Mem → Prop} (h : call sm ks k y as σ (fun y as σ' Q' => CC G w w (k - 1) (0, 0) y as σ' Q') Q') : ∃ k', k = k' + 1 ∧ CC G w w k' (0, 0) y as σ Q' := by
  unfold call at h
  split at h
  · rename_i f hf
    exact ⟨k - 1, by omega, hsm y f hf (k - 1) as σ Q' (by omega) h.2.1 h.2.2⟩
  · exact ⟨k - 1, by omega, h.2⟩
theorem gf_wf {q : Nat × Nat × Nat × Nat} {o c0 k0 : Nat} {κ : AV → Prop} (hq : q = lay c0 k0) (hc : cls o = c0) (h : gf w q o k0 σ κ) : κ (gfv q o k0 σ) ∧ (born w o → wfσ σ → wfv w (gfv q o k0 σ)) := by
  have hL : isL o (k0 + 1) ↔ (q.1 = 1 ∨ q.1 = 11 ∨ q.1 = 21) := by
    unfold isL; rw [hc, hq, Nat.add_sub_cancel]
  unfold gf at h
  unfold gfv
  by_cases h0 : q.1 = 0
  · rw [if_pos h0] at h ⊢
    exact ⟨h, fun _ ws => (ws o (k0 + 1) 0 0).2 (fun z => by have := hL.mp z; omega)⟩
  · rw [if_neg h0] at h ⊢
    by_cases h2 : q.1 = 2
    · rw [if_pos h2] at h ⊢
      exact ⟨h, fun _ ws => (ws o (k0 + 1) 0 0).2 (fun z => by have := hL.mp z; omega)⟩
    · rw [if_neg h2] at h ⊢
      by_cases h1 : q.1 = 1
      · rw [if_pos h1] at h ⊢
        exact ⟨h, fun _ ws => (ws o (k0 + 1) 0 0).1 (hL.mpr (Or.inl h1))⟩
      · rw [if_neg h1] at h ⊢
        by_cases h3 : q.1 = 3
        · rw [if_pos h3] at h ⊢
          exact ⟨h.2, fun _ _ => h.1⟩
        · rw [if_neg h3] at h ⊢
          by_cases h4 : q.1 = 4
          · rw [if_pos h4] at h ⊢
            exact ⟨h.2, fun _ _ => Or.inr ⟨⟨by omega, by omega⟩, Or.inl ⟨rfl, rfl⟩⟩⟩
          · rw [if_neg h4] at h ⊢
            refine ⟨h.2, fun hb _ => Or.inr ⟨hb, Or.inr ⟨Nat.succ_pos _, ?_⟩⟩⟩
            show arow (lay (cls o) (k0 + 1 - 1)) 0
            rw [hc, Nat.add_sub_cancel, ← hq]
            exact ⟨h.1.1, h.1.2, fun _ => rfl, fun _ => Nat.zero_le _⟩
theorem pf_inv {q : Nat × Nat × Nat × Nat} {κ : Int → Nat → List AV → Prop} {st : List AV} (h : pf q κ st) : ∃ (v : AV) (a : Int) (o : Nat) (t : List AV), st = v :: vr o 0 0 :: t ∧ κ a o t ∧
    ((q.1 = 0 ∧ v = vi a) ∨ (q.1 = 2 ∧ v = vi a ∧ (a = 0 ∨ a = 1)) ∨ (q.1 = 1 ∧ v = vl a) ∨ (q.1 = 3 ∧ I32 a ∧ v = dec a ∧ ∃ z, v = .inr (.inr z))) := by
  match st, h with
  | .inl a :: .inr (.inr (some (o, f, r))) :: t, h =>
    obtain ⟨rfl, rfl, h1, h2⟩ := h
    rcases h1 with h1 | ⟨h1, h3⟩
    · exact ⟨_, a, o, t, rfl, h2, Or.inl ⟨h1, rfl⟩⟩
    · exact ⟨_, a, o, t, rfl, h2, Or.inr (Or.inl ⟨h1, rfl, h3⟩)⟩
  | .inr (.inl a) :: .inr (.inr (some (o, f, r))) :: t, h =>
    obtain ⟨rfl, rfl, h1, h2⟩ := h
    exact ⟨_, a, o, t, rfl, h2, Or.inr (Or.inr (Or.inl ⟨h1, rfl⟩))⟩
  | .inr (.inr none) :: .inr (.inr (some (o, f, r))) :: t, h =>
    obtain ⟨rfl, rfl, h1, h2⟩ := h
    exact ⟨_, 0, o, t, rfl, h2, Or.inr (Or.inr (Or.inr ⟨h1, I32_0, rfl, _, rfl⟩))⟩
  | .inr (.inr (some (o2, f2, r2))) :: .inr (.inr (some (o, f, r))) :: t, h =>
    obtain ⟨rfl, rfl, h1, h3, h4, h5, h2⟩ := h
    exact ⟨_, enc o2 f2 r2, o, t, rfl, h2, Or.inr (Or.inr (Or.inr ⟨h1, by unfold I32 enc; omega, (dec_enc o2 f2 r2 h3 (by omega)).symm, _, rfl⟩))⟩
theorem fits_v {w : Wd} {ob : Nat → Nat} {v : AV} {a : Int} {kd : Nat} {ty : FieldType} (hk : kty kd ty = true) (hv : (kd = 0 ∧ v = vi a) ∨ (kd = 2 ∧ v = vi a ∧ (a = 0 ∨ a = 1)) ∨ (kd = 1 ∧ v = vl a) ∨ (kd = 3 ∧ I32 a ∧ v = dec a ∧ ∃ z, v = .inr (.inr z))) : narrow ty (val ob v) = val ob v ∧ fits ty (val ob v) = true := by
  rcases hv with ⟨rfl, rfl⟩ | ⟨rfl, rfl, h⟩ | ⟨rfl, rfl⟩ | ⟨rfl, -, -, z, rfl⟩
  · cases ty <;> simp [kty] at hk <;> exact ⟨rfl, rfl⟩
  · cases ty <;> simp [kty] at hk
    rcases h with rfl | rfl <;> exact ⟨rfl, rfl⟩
  · cases ty <;> simp [kty] at hk <;> exact ⟨rfl, rfl⟩
  · cases ty <;> simp [kty] at hk <;> cases z <;> exact ⟨rfl, rfl⟩
set_option maxHeartbeats 4000000 in
theorem stp_sound {K : Kont} {T0 : Prop} {q : Nat × Instr × Nat × Int × Nat × Nat} (hpc : q.1 = pc) (hok : okI mi q = true) (hsm : SmOK G w ks sm) (hww0 : ∀ o, born w0 o → born w o) (hT0 : T0 → TT G w0 w w2 k rc mi pc ls st σ Q)
    (hK : ∀ pc' ls' st' σ', K pc' ls' st' σ' → TT G w0 w w2 k rc mi pc' ls' st' σ' Q)
    (h : stp G w w2 k ks sm (fun y as σ' Q' => CC G w w (k - 1) (0, 0) y as σ' Q') T0 Q K pc q.2.1 q.2.2.1 q.2.2.2.1 q.2.2.2.2.1 q.2.2.2.2.2 ls st σ) : TT G w0 w w2 k rc mi pc ls st σ Q := by
  obtain ⟨pc0, i, len, x, y, z⟩ := q
  simp only at hpc h
  subst hpc
  simp only [okI, Bool.and_eq_true, decide_eq_true_eq] at hok
  obtain ⟨hd, hok⟩ := hok
  cases i with
  | iconst n =>
    simp only [Bool.and_eq_true, decide_eq_true_eq, beq_iff_eq] at hok
    obtain ⟨⟨rfl, h1, h2⟩, rfl⟩ := hok
    exact S_iconst hd (by unfold I32; omega) (hK _ _ _ _ h)
  | bipush n =>
    simp only [Bool.and_eq_true, decide_eq_true_eq, beq_iff_eq] at hok
    obtain ⟨⟨rfl, h1, h2⟩, rfl⟩ := hok
    exact S_bipush hd ⟨i8_of h1 h2, by unfold I32; omega⟩ (hK _ _ _ _ h)
  | sipush n =>
    simp only [Bool.and_eq_true, decide_eq_true_eq, beq_iff_eq] at hok
    obtain ⟨⟨rfl, h1, h2⟩, rfl⟩ := hok
    exact S_sipush hd ⟨i16_of h1 h2, by unfold I32; omega⟩ (hK _ _ _ _ h)
  | lconst n =>
    simp only [Bool.and_eq_true, decide_eq_true_eq, beq_iff_eq] at hok
    obtain ⟨rfl, rfl⟩ := hok
    exact S_lconst hd (hK _ _ _ _ h)
  | ldc ix =>
    simp only [Bool.and_eq_true, beq_iff_eq] at hok
    obtain ⟨rfl, hok⟩ := hok
    simp only [stp] at h
    split at h
    · rename_i hz
      rw [if_pos hz] at hok
      simp only [Bool.and_eq_true, decide_eq_true_eq] at hok
      exact S_ldcS hd hok.1.1 (tx := (strO.getD y ("", 0, "")).2.2) (by rw [← hok.1.2, ← hok.2]) (hK _ _ _ _ h)
    · rename_i hz
      rw [if_neg hz] at hok
      exact S_ldc hd (okK_of hok).1 (okK_of hok).2 (hK _ _ _ _ h)
  | ldc_w ix =>
    simp only [Bool.and_eq_true, beq_iff_eq] at hok
    obtain ⟨rfl, hok⟩ := hok
    simp only [stp] at h
    split at h
    · rename_i hz
      rw [if_pos hz] at hok
      simp only [Bool.and_eq_true, decide_eq_true_eq] at hok
      exact S_ldcwS hd hok.1.1 (tx := (strO.getD y ("", 0, "")).2.2) (by rw [← hok.1.2, ← hok.2]) (hK _ _ _ _ h)
    · rename_i hz
      rw [if_neg hz] at hok
      exact S_ldcw hd (okK_of hok).1 (okK_of hok).2 (hK _ _ _ _ h)
  | ldc2_w ix =>
    simp only [Bool.and_eq_true, beq_iff_eq] at hok
    obtain ⟨rfl, hok⟩ := hok
    exact S_ldc2 hd (okKl_of hok).1 (okKl_of hok).2 (hK _ _ _ _ h)
  | iload i =>
    simp only [Bool.and_eq_true, beq_iff_eq] at hok
    obtain ⟨rfl, rfl⟩ := hok
    simp only [stp] at h
    obtain ⟨a, e, h⟩ := oI_inv h
    exact S_iload hd e (hK _ _ _ _ h)
  | iload_n i =>
    simp only [Bool.and_eq_true, beq_iff_eq] at hok
    obtain ⟨rfl, rfl⟩ := hok
    simp only [stp] at h
    obtain ⟨a, e, h⟩ := oI_inv h
    exact S_iload_n hd e (hK _ _ _ _ h)
  | lload i =>
    simp only [Bool.and_eq_true, beq_iff_eq] at hok
    obtain ⟨rfl, rfl⟩ := hok
    simp only [stp] at h
    obtain ⟨a, e, h⟩ := oL_inv h
    exact S_lload hd e (hK _ _ _ _ h)
  | lload_n i =>
    simp only [Bool.and_eq_true, beq_iff_eq] at hok
    obtain ⟨rfl, rfl⟩ := hok
    simp only [stp] at h
    obtain ⟨a, e, h⟩ := oL_inv h
    exact S_lload_n hd e (hK _ _ _ _ h)
  | aload i =>
    simp only [Bool.and_eq_true, beq_iff_eq] at hok
    obtain ⟨rfl, rfl⟩ := hok
    simp only [stp] at h
    obtain ⟨a, e, h⟩ := oA_inv h
    exact S_aload hd e (hK _ _ _ _ h)
  | aload_n i =>
    simp only [Bool.and_eq_true, beq_iff_eq] at hok
    obtain ⟨rfl, rfl⟩ := hok
    simp only [stp] at h
    obtain ⟨a, e, h⟩ := oA_inv h
    exact S_aload_n hd e (hK _ _ _ _ h)
  | istore i =>
    simp only [Bool.and_eq_true, beq_iff_eq] at hok
    obtain ⟨rfl, rfl⟩ := hok
    obtain ⟨a, t, rfl, h1, h2⟩ := s1i_inv h
    exact S_istore hd h1 (hK _ _ _ _ h2)
  | istore_n i =>
    simp only [Bool.and_eq_true, beq_iff_eq] at hok
    obtain ⟨rfl, rfl⟩ := hok
    obtain ⟨a, t, rfl, h1, h2⟩ := s1i_inv h
    exact S_istore_n hd h1 (hK _ _ _ _ h2)
  | lstore i =>
    simp only [Bool.and_eq_true, beq_iff_eq] at hok
    obtain ⟨rfl, rfl⟩ := hok
    obtain ⟨a, t, rfl, h1, h2⟩ := s1l_inv h
    exact S_lstore hd h1 (hK _ _ _ _ h2)
  | lstore_n i =>
    simp only [Bool.and_eq_true, beq_iff_eq] at hok
    obtain ⟨rfl, rfl⟩ := hok
    obtain ⟨a, t, rfl, h1, h2⟩ := s1l_inv h
    exact S_lstore_n hd h1 (hK _ _ _ _ h2)
  | astore i =>
    simp only [Bool.and_eq_true, beq_iff_eq] at hok
    obtain ⟨rfl, rfl⟩ := hok
    obtain ⟨a, t, rfl, h1, h2⟩ := s1q_inv h
    exact S_astore hd h1 (hK _ _ _ _ h2)
  | astore_n i =>
    simp only [Bool.and_eq_true, beq_iff_eq] at hok
    obtain ⟨rfl, rfl⟩ := hok
    obtain ⟨a, t, rfl, h1, h2⟩ := s1q_inv h
    exact S_astore_n hd h1 (hK _ _ _ _ h2)
  | iinc i n =>
    simp only [Bool.and_eq_true, beq_iff_eq] at hok
    obtain ⟨⟨rfl, rfl⟩, rfl⟩ := hok
    simp only [stp] at h
    split at h
    · rename_i a e
      exact S_iinc hd e h.1 (hK _ _ _ _ h.2)
    · cases h
  | aconst_null =>
    simp only [beq_iff_eq] at hok
    subst hok
    exact S_null hd (hK _ _ _ _ h)
  | iadd =>
    simp only [beq_iff_eq] at hok
    subst hok
    obtain ⟨a, b, t, rfl, h1, h2⟩ := s2i_inv h
    exact S_iadd hd h1 (hK _ _ _ _ h2)
  | isub =>
    simp only [beq_iff_eq] at hok
    subst hok
    obtain ⟨a, b, t, rfl, h1, h2⟩ := s2i_inv h
    exact S_isub hd h1 (hK _ _ _ _ h2)
  | imul =>
    simp only [beq_iff_eq] at hok
    subst hok
    obtain ⟨a, b, t, rfl, h1, h2⟩ := s2i_inv h
    exact S_imul hd h1 (hK _ _ _ _ h2)
  | idiv =>
    simp only [beq_iff_eq] at hok
    subst hok
    obtain ⟨a, b, t, rfl, h1, h2, h3⟩ := s2i_inv h
    exact S_idiv hd h1 h2 (hK _ _ _ _ h3)
  | irem =>
    simp only [beq_iff_eq] at hok
    subst hok
    obtain ⟨a, b, t, rfl, h1, h2, h3⟩ := s2i_inv h
    exact S_irem hd h1 h2 (hK _ _ _ _ h3)
  | ineg =>
    simp only [beq_iff_eq] at hok
    subst hok
    obtain ⟨a, t, rfl, h1, h2⟩ := s1i_inv h
    exact S_ineg hd h1 (hK _ _ _ _ h2)
  | ishl =>
    simp only [beq_iff_eq] at hok
    subst hok
    obtain ⟨a, b, t, rfl, h1, h2, h3, h4, h5⟩ := s2i_inv h
    exact S_ishl hd ⟨h1, h2, h3⟩ h4 (hK _ _ _ _ h5)
  | ishr =>
    simp only [beq_iff_eq] at hok
    subst hok
    obtain ⟨a, b, t, rfl, h1, h2, h3⟩ := s2i_inv h
    exact S_ishr hd ⟨h1, h2⟩ (hK _ _ _ _ h3)
  | iushr =>
    simp only [beq_iff_eq] at hok
    subst hok
    obtain ⟨a, b, t, rfl, h1⟩ := s2i_inv h
    exact S_iushr hd (hK _ _ _ _ h1)
  | iand =>
    simp only [beq_iff_eq] at hok
    subst hok
    obtain ⟨a, b, t, rfl, h1⟩ := s2i_inv h
    exact S_iand hd (hK _ _ _ _ h1)
  | ior =>
    simp only [beq_iff_eq] at hok
    subst hok
    obtain ⟨a, b, t, rfl, h1⟩ := s2i_inv h
    exact S_ior hd (hK _ _ _ _ h1)
  | ixor =>
    simp only [beq_iff_eq] at hok
    subst hok
    obtain ⟨a, b, t, rfl, h1⟩ := s2i_inv h
    exact S_ixor hd (hK _ _ _ _ h1)
  | ladd =>
    simp only [beq_iff_eq] at hok
    subst hok
    obtain ⟨a, b, t, rfl, h1⟩ := s2l_inv h
    exact S_ladd hd (hK _ _ _ _ h1)
  | lsub =>
    simp only [beq_iff_eq] at hok
    subst hok
    obtain ⟨a, b, t, rfl, h1⟩ := s2l_inv h
    exact S_lsub hd (hK _ _ _ _ h1)
  | lmul =>
    simp only [beq_iff_eq] at hok
    subst hok
    obtain ⟨a, b, t, rfl, h1⟩ := s2l_inv h
    exact S_lmul hd (hK _ _ _ _ h1)
  | land =>
    simp only [beq_iff_eq] at hok
    subst hok
    obtain ⟨a, b, t, rfl, h1⟩ := s2l_inv h
    exact S_land hd (hK _ _ _ _ h1)
  | lor =>
    simp only [beq_iff_eq] at hok
    subst hok
    obtain ⟨a, b, t, rfl, h1⟩ := s2l_inv h
    exact S_lor hd (hK _ _ _ _ h1)
  | lcmp =>
    simp only [beq_iff_eq] at hok
    subst hok
    obtain ⟨a, b, t, rfl, h1⟩ := s2l_inv h
    exact S_lcmp hd (hK _ _ _ _ h1)
  | ldiv =>
    simp only [beq_iff_eq] at hok
    subst hok
    obtain ⟨a, b, t, rfl, h1, h2⟩ := s2l_inv h
    exact S_ldiv hd h1 (hK _ _ _ _ h2)
  | i2l =>
    simp only [beq_iff_eq] at hok
    subst hok
    obtain ⟨a, t, rfl, h1⟩ := s1i_inv h
    exact S_i2l hd (hK _ _ _ _ h1)
  | l2i =>
    simp only [beq_iff_eq] at hok
    subst hok
    obtain ⟨a, t, rfl, h1⟩ := s1l_inv h
    exact S_l2i hd (hK _ _ _ _ h1)
  | i2b =>
    simp only [beq_iff_eq] at hok
    subst hok
    obtain ⟨a, t, rfl, h1⟩ := s1i_inv h
    exact S_i2b hd (hK _ _ _ _ h1)
  | dup =>
    simp only [beq_iff_eq] at hok
    subst hok
    obtain ⟨v, t, rfl, h1, h2⟩ := sdup_inv h
    exact S_dup hd h1 (hK _ _ _ _ h2)
  | pop =>
    simp only [beq_iff_eq] at hok
    subst hok
    obtain ⟨v, t, rfl, h1, h2⟩ := sdup_inv h
    exact S_pop hd h1 (hK _ _ _ _ h2)
  | pop2 =>
    simp only [beq_iff_eq] at hok
    subst hok
    obtain ⟨v, t, rfl, h2⟩ := spop2_inv h
    exact S_pop2 hd (hK _ _ _ _ h2)
  | dup2 =>
    simp only [beq_iff_eq] at hok
    subst hok
    simp only [stp] at h
    rcases sdup2_inv h with ⟨v, t, rfl, h1⟩ | ⟨v, u, t, rfl, h1, h2, h3⟩
    · exact S_dup2l hd (hK _ _ _ _ h1)
    · exact S_dup2 hd h1 h2 (hK _ _ _ _ h3)
  | goto off =>
    simp only [Bool.and_eq_true, decide_eq_true_eq, beq_iff_eq] at hok
    obtain ⟨ht, rfl⟩ := hok
    exact S_goto hd ht (hK _ _ _ _ h)
  | if_icmp c off =>
    simp only [Bool.and_eq_true, decide_eq_true_eq, beq_iff_eq] at hok
    obtain ⟨ht, rfl⟩ := hok
    obtain ⟨a, b, t, rfl, h1, h2⟩ := s2i_inv h
    exact S_icmp hd ht (fun z => hK _ _ _ _ (h1 z)) (fun z => hK _ _ _ _ (h2 z))
  | ifCond c off =>
    simp only [Bool.and_eq_true, decide_eq_true_eq, beq_iff_eq] at hok
    obtain ⟨ht, rfl⟩ := hok
    obtain ⟨a, t, rfl, h1, h2⟩ := s1i_inv h
    exact S_if hd ht (fun z => hK _ _ _ _ (h1 z)) (fun z => hK _ _ _ _ (h2 z))
  | ifnull off =>
    simp only [Bool.and_eq_true, decide_eq_true_eq, beq_iff_eq] at hok
    obtain ⟨ht, rfl⟩ := hok
    obtain ⟨a, t, rfl, h1, h2⟩ := s1q_inv h
    exact S_ifnull hd ht (fun z => hK _ _ _ _ (h1 z)) (fun z => hK _ _ _ _ (h2 z))
  | ifnonnull off =>
    simp only [Bool.and_eq_true, decide_eq_true_eq, beq_iff_eq] at hok
    obtain ⟨ht, rfl⟩ := hok
    obtain ⟨a, t, rfl, h1, h2⟩ := s1q_inv h
    exact S_ifnonnull hd ht (fun z => hK _ _ _ _ (h1 z)) (fun z => hK _ _ _ _ (h2 z))
  | tableswitch d lo hi offs =>
    simp only [Bool.and_eq_true, decide_eq_true_eq] at hok
    obtain ⟨⟨h1, h2⟩, h3⟩ := hok
    obtain ⟨a, t, rfl, h4, h5⟩ := s1i_inv h
    exact S_table hd ⟨⟨h1.1, h1.2.1⟩, ⟨h1.2.2.1, h1.2.2.2⟩⟩ h2 (fun o ho => by simpa using List.all_eq_true.mp h3 o ho) (fun j o hj e => hK _ _ _ _ (tbAll_at _ _ h5 j o hj e)) (fun z => hK _ _ _ _ (h4 z))
  | lookupswitch d prs =>
    simp only [Bool.and_eq_true, decide_eq_true_eq] at hok
    obtain ⟨⟨h1, h2⟩, h3⟩ := hok
    obtain ⟨a, t, rfl, h4⟩ := s1i_inv h
    exact S_lookup prs.toList d hd h1 (fun p hp => by simpa using List.all_eq_true.mp h2 p hp) h3 rfl (fun o ho => hK _ _ _ _ ho) h4
  | ireturn =>
    simp only [Bool.and_eq_true, beq_iff_eq] at hok
    obtain ⟨hok, rfl⟩ := hok
    obtain ⟨a, t, rfl, rfl, h1, h2, h3⟩ := s1i_inv h
    refine S_ireturn hd h1 ?_ h3
    split at hok
    · rename_i e
      exact Or.inr ⟨by simpa using hok, h2 e⟩
    · exact Or.inl (by simpa using hok)
  | lreturn =>
    simp only [Bool.and_eq_true, decide_eq_true_eq, beq_iff_eq] at hok
    obtain ⟨hok, rfl⟩ := hok
    obtain ⟨a, t, rfl, rfl, h1, h3⟩ := s1l_inv h
    exact S_lreturn hd h1 hok h3
  | areturn =>
    simp only [Bool.and_eq_true, beq_iff_eq] at hok
    obtain ⟨hok, rfl⟩ := hok
    obtain ⟨a, t, rfl, rfl, h1, h3⟩ := s1q_inv h
    refine S_areturn hd h1 ?_ h3
    split at hok
    · rename_i C e
      exact ⟨C, e⟩
    · cases hok
  | return_ =>
    simp only [Bool.and_eq_true, decide_eq_true_eq, beq_iff_eq] at hok
    obtain ⟨hok, rfl⟩ := hok
    obtain ⟨rfl, h1, h3⟩ := h
    exact S_return hd h1 hok h3
  | iaload =>
    simp only [beq_iff_eq] at hok
    subst hok
    obtain ⟨i, o, f, r, t, rfl, h1⟩ := sir_inv h
    split at h1
    · rename_i e
      obtain ⟨rfl, rfl, h2, h3, h4⟩ := h1
      subst e
      exact S_script hd h2 h3 (hK _ _ _ _ h4)
    · obtain ⟨⟨g1, g2, g3, g4, g5⟩, h2⟩ := h1
      exact S_iaload hd g1 g2 g3 g4 g5 (hK _ _ _ _ h2)
  | laload =>
    simp only [beq_iff_eq] at hok
    subst hok
    obtain ⟨i, o, f, r, t, rfl, ⟨g1, g2, g3, g4, g5⟩, h2⟩ := sir_inv h
    exact S_laload hd g1 g2 g3 g4 g5 (hK _ _ _ _ h2)
  | baload =>
    simp only [beq_iff_eq] at hok
    subst hok
    obtain ⟨i, o, f, r, t, rfl, ⟨g1, g2, g3, g4, g5⟩ | ⟨g1, g2, g3, g4, g5⟩, h2⟩ := sir_inv h
    · exact S_baload hd g1 g2 (Or.inl g3) g4 g5 (hK _ _ _ _ h2)
    · exact S_baload hd g1 g2 (Or.inr g3) g4 g5 (hK _ _ _ _ h2)
  | iastore =>
    simp only [beq_iff_eq] at hok
    subst hok
    obtain ⟨a, i, o, f, r, t, rfl, ⟨g1, g2, g3, g4, g5⟩, h2⟩ := siir_inv h
    exact S_iastore hd g1 g2 g3 g4 g5 (hK _ _ _ _ h2)
  | lastore =>
    simp only [beq_iff_eq] at hok
    subst hok
    obtain ⟨a, i, o, f, r, t, rfl, ⟨g1, g2, g3, g4, g5⟩, h2⟩ := slir_inv h
    exact S_lastore hd g1 g2 g3 g4 g5 (hK _ _ _ _ h2)
  | bastore =>
    simp only [beq_iff_eq] at hok
    subst hok
    obtain ⟨a, i, o, f, r, t, rfl, ⟨⟨g1, g2, g3, g4, g5⟩, g6⟩ | ⟨⟨g1, g2, g3, g4, g5⟩, g6⟩, h2⟩ := siir_inv h
    · exact S_bastore hd g1 g2 (Or.inl ⟨g3, g6⟩) g4 g5 (hK _ _ _ _ h2)
    · exact S_bastore hd g1 g2 (Or.inr ⟨g3, g6⟩) g4 g5 (hK _ _ _ _ h2)
  | aaload =>
    simp only [beq_iff_eq] at hok
    subst hok
    obtain ⟨i, o, f, r, t, rfl, g1, g2, rfl, g4, g5, h2⟩ := sir_inv h
    split at h2
    · rename_i e
      exact S_aaload hd g1 g2 e g4 g5 (hK _ _ _ _ h2)
    · obtain ⟨e1, e2, e3, h3⟩ := h2
      exact S_aaloadq hd g1 g2 e1 e2 g4 g5 e3 (hK _ _ _ _ h3)
  | arraylength =>
    simp only [beq_iff_eq] at hok
    subst hok
    obtain ⟨o, f, r, t, rfl, h1⟩ := s1r_inv h
    split at h1
    · rename_i e
      obtain ⟨rfl, rfl, h4⟩ := h1
      subst e
      exact S_scriptlen hd (hK _ _ _ _ h4)
    · obtain ⟨g1, g2, g3, g4, h2⟩ := h1
      exact S_alen hd g1 g2 (by omega) g4 (hK _ _ _ _ h2)
  | getfield ix =>
    simp only [Bool.and_eq_true, beq_iff_eq] at hok
    obtain ⟨rfl, hok⟩ := hok
    obtain ⟨o, f, r, t, rfl, rfl, rfl, hc, ho, hg⟩ := s1r_inv h
    obtain ⟨g1, g2⟩ := gf_wf (c0 := y) (k0 := z) rfl hc hg
    exact S_getfield hd (okF_of hok) hc ho g2 (hK _ _ _ _ g1)
  | putfield ix =>
    simp only [Bool.and_eq_true, beq_iff_eq] at hok
    obtain ⟨⟨rfl, hok⟩, hwr⟩ := hok
    obtain ⟨v, a, o, t, rfl, ⟨hc, ho, h1⟩, hv⟩ := pf_inv h
    obtain ⟨ty, hP, hty⟩ := okP_of hok hwr
    refine S_putfield hd hP hc ho (by omega) (fun ob => ?_) (fun ob _ => fits_v (w := w) hty hv) (fun hw => ?_) (hK _ _ _ _ h1)
    · rcases hv with ⟨e, rfl⟩ | ⟨e, rfl, -⟩ | ⟨e, rfl⟩ | ⟨e, -, rfl, -⟩ <;> (unfold gfv; rw [up_eq, e]; rfl)
    · have hL : isL o (z + 1) ↔ ((lay y z).1 = 1 ∨ (lay y z).1 = 11 ∨ (lay y z).1 = 21) := by unfold isL; rw [hc, Nat.add_sub_cancel]
      rcases hv with ⟨e, rfl⟩ | ⟨e, rfl, -⟩ | ⟨e, rfl⟩ | ⟨e, hI, rfl, -⟩
      · exact ⟨fun q => by have := hL.mp q; omega, fun _ => hw⟩
      · exact ⟨fun q => by have := hL.mp q; omega, fun _ => hw⟩
      · exact ⟨fun _ => hw, fun q => absurd (hL.mpr (Or.inl e)) q⟩
      · exact ⟨fun q => by have := hL.mp q; omega, fun _ => hI⟩
  | invokevirtual ix =>
    simp only [Bool.and_eq_true, beq_iff_eq] at hok
    obtain ⟨rfl, hok⟩ := hok
    simp only [stp] at h
    split at h
    · rename_i hy
      rw [if_pos hy] at hok
      simp only [Bool.and_eq_true, bne_iff_ne, ne_eq, beq_iff_eq, decide_eq_true_eq] at hok
      obtain ⟨⟨⟨⟨o1, o2⟩, o3⟩, o4⟩, o5⟩ := hok
      obtain ⟨hz, h⟩ := h
      obtain ⟨p1, p2⟩ := popA_spec z [] st (by omega)
      obtain ⟨o, f, r, t, e, rfl, rfl, ho, hc, hs, h⟩ := recv_inv h
      obtain ⟨k', rfl, h9⟩ := call_CC hsm h
      rw [List.reverse_nil, List.nil_append, e] at p1
      rw [p1]
      exact S_invV (rc' := (0, 0)) (rc2 := rc) hd (okL_of o1) (okY_of hy o3) (okV_of hy o3 o2) ho (by omega) (by rw [p2, o4]; simp) hs ⟨by simp, by simp⟩ (fun _ q => q) hww0 (CC_post h9 (fun rv σ' hQ => hK _ _ _ _ hQ))
    · exact hT0 h
  | invokestatic ix =>
    simp only [Bool.and_eq_true, beq_iff_eq] at hok
    obtain ⟨rfl, hok⟩ := hok
    simp only [stp] at h
    by_cases hy : y < 250
    · rw [if_pos hy] at h hok
      simp only [Bool.and_eq_true, bne_iff_ne, ne_eq, beq_iff_eq] at hok
      obtain ⟨⟨⟨o1, o2⟩, o3⟩, o4⟩ := hok
      obtain ⟨hz, hs, h⟩ := h
      obtain ⟨p1, p2⟩ := popA_spec z [] st hz
      obtain ⟨k', rfl, h9⟩ := call_CC hsm h
      rw [List.reverse_nil, List.nil_append] at p1
      rw [p1]
      exact S_invS hd (okL_of o1) (okY_of hy o3) (okS_of hy o3 o2) (by rw [p2, o4]; simp) hs hww0 (CC_post h9 (fun rv σ' hQ => hK _ _ _ _ hQ))
    · rw [if_neg hy] at h hok
      by_cases e0 : y = 1000
      · subst e0
        rw [if_pos rfl] at h
        obtain ⟨a, t, rfl, h0, hs, hm, h9⟩ := s1i_inv h
        obtain ⟨k', rfl⟩ : ∃ k', k = k' + 1 := ⟨k - 1, by omega⟩
        exact S_mabs hd (ml_abs (okJ_of hok)) hs hm (hK _ _ _ _ h9)
      · rw [if_neg e0] at h
        by_cases e1 : y = 1001
        · subst e1
          rw [if_pos rfl] at h
          obtain ⟨a, b, t, rfl, h0, hs, h9⟩ := s2i_inv h
          obtain ⟨k', rfl⟩ : ∃ k', k = k' + 1 := ⟨k - 1, by omega⟩
          exact S_mmax hd (ml_max (okJ_of hok)) hs (hK _ _ _ _ h9)
        · rw [if_neg e1] at h
          by_cases e2 : y = 1002
          · subst e2
            rw [if_pos rfl] at h
            obtain ⟨a, b, t, rfl, h0, hs, h9⟩ := s2i_inv h
            obtain ⟨k', rfl⟩ : ∃ k', k = k' + 1 := ⟨k - 1, by omega⟩
            exact S_mmin hd (ml_min (okJ_of hok)) hs (hK _ _ _ _ h9)
          · rw [if_neg e2] at h
            by_cases e3 : y = 1003
            · subst e3
              rw [if_pos rfl] at h
              obtain ⟨a, b, t, rfl, h0, hs, h9⟩ := s2l_inv h
              obtain ⟨k', rfl⟩ : ∃ k', k = k' + 1 := ⟨k - 1, by omega⟩
              exact S_mmaxl hd (ml_maxl (okJ_of hok)) hs (hK _ _ _ _ h9)
            · rw [if_neg e3] at h
              by_cases e4 : y = 1004
              · subst e4
                rw [if_pos rfl] at h
                obtain ⟨a, b, t, rfl, h0, hs, h9⟩ := s2l_inv h
                obtain ⟨k', rfl⟩ : ∃ k', k = k' + 1 := ⟨k - 1, by omega⟩
                exact S_mminl hd (ml_minl (okJ_of hok)) hs (hK _ _ _ _ h9)
              · rw [if_neg e4] at h
                exact hT0 h
  | _ => exact hT0 h
theorem vc_sound {cuts : List Nat} (hM : okM mi = true) (hsm : SmOK G w ks sm) (hww0 : ∀ o, born w0 o → born w o) : ∀ (n pc : Nat) (ls : List (Option AV)) (st : List AV) (σ : Mem), vc G w w2 k ks sm cuts mi Q (fun pc' ls' st' σ' => TT G w0 w w2 k rc mi pc' ls' st' σ' Q) n pc ls st σ → TT G w0 w w2 k rc mi pc ls st σ Q
  | 0, pc, ls, st, σ, h => h
  | n + 1, pc, ls, st, σ, h => by
    unfold vc at h
    split at h
    · exact h
    · rename_i q hq
      obtain ⟨e1, e2⟩ := ins_ok hM hq
      refine stp_sound e1 e2 hsm hww0 (fun z => z) (fun pc' ls' st' σ' h' => ?_) h
      split at h'
      · exact h'
      · exact vc_sound hM hsm hww0 n pc' ls' st' σ' h'
end SND

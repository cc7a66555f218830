/-! 9zo.sub: fewer objects told at the end -/
theorem Rep.sub {G : Gl} {w w' : Wd} {ob : Nat → Nat} {σ : Mem} {H : Heap} (h : Rep G w ob σ H) (hw : ∀ o, born w' o → born w o) : Rep G w' ob σ H :=
  ⟨fun o ho => h.1 o (hw o ho), fun o f r ho hf hr => h.2.1 o f r (hw o ho) hf hr, fun o f r o' f' r' h1 h2 e => h.2.2.1 o f r o' f' r' ⟨hw o h1.1, h1.2⟩ ⟨hw o' h2.1, h2.2⟩ e, fun o f r h1 => h.2.2.2 o f r ⟨hw o h1.1, h1.2⟩⟩
theorem TT_w2 {G : Gl} {w0 w w2 w3 : Wd} {k : Nat} {rc : Nat × Nat} {mi pc : Nat} {ls : List (Option AV)} {st : List AV} {σ : Mem} {Q : Option AV → Mem → Prop} (h : TT G w0 w w2 k rc mi pc ls st σ Q) (hw : ∀ o, born w3 o → born w2 o) (hQ : ∀ rv σ', Q rv σ' → ∀ v, rv = some v → wfv w3 v) : TT G w0 w w3 k rc mi pc ls st σ Q := by
  intro p e s m args below meth c H locs cells slots mc ms lsr ob0 ob hE h1 h2 T hT X
  obtain ⟨t, st', o, a, b, ⟨ob', rv, σ', q1, q2, q3, q4, q5, q6, q7, q8⟩, d⟩ := h p e s m args below meth c H locs cells slots mc ms lsr ob0 ob hE h1 h2 T hT X
  exact ⟨t, st', o, a, b, ⟨ob', rv, σ', q1, q2, q3.sub hw, q4, hQ rv σ' q6, q6, q7, q8⟩, d⟩
/-- room left over is no harm -/
theorem TT_rc {G : Gl} {w0 w w2 : Wd} {k : Nat} {rc rc' : Nat × Nat} {mi pc : Nat} {ls : List (Option AV)} {st : List AV} {σ : Mem} {Q : Option AV → Mem → Prop} (h : TT G w0 w w2 k rc mi pc ls st σ Q) (h1 : rc.1 ≤ rc'.1) (h2 : rc.2 ≤ rc'.2) : TT G w0 w w2 k rc' mi pc ls st σ Q := fun p e s m args below meth c H locs cells slots mc ms lsr ob0 ob hE a b =>
  h p e s m args below meth c H locs cells slots mc ms lsr ob0 ob hE (by omega) (by omega)
theorem born_w00 {w : Wd} {o : Nat} (h : born w00 o) : born w o := by
  obtain ⟨h1 | h1 | h1 | h1, h2⟩ := h
  · exact ⟨Or.inl h1, h2⟩
  · exact ⟨Or.inr (Or.inl h1), h2⟩
  · exact ⟨Or.inr (Or.inr (Or.inl h1)), h2⟩
  · cases h1

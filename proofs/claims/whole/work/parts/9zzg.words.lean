/-! 9zzg.words: what the start is given, by its place -/
abbrev gvL : List Cond := flatC (Jvm.Cond.and given_1 narrow_1)
def pS : Nat → Nat
  | 0 => 27
  | i + 1 => pS i + 4 + strL.getD i 0 + i
def tmS (i : Nat) : Term := .string (strO.getD i ("", 0, "")).1 (strO.getD i ("", 0, "")).2.1
theorem g_ex : ∀ i, i < 24 → gvL[pS i]? = some (Cond.exactly (tmS i) "java/lang/String") := by decide +kernel
theorem g_co : ∀ i, i < 24 → gvL[pS i + 1]? = some (Cond.eq (.field (tmS i) "java/lang/String" "coder" "B") (.int 0)) := by decide +kernel
theorem g_ar : ∀ i, i < 24 → gvL[pS i + 2]? = some (Cond.arrayOf (.field (tmS i) "java/lang/String" "value" "[B") .byte) := by decide +kernel
theorem g_le : ∀ i, i < 24 → gvL[pS i + 3]? = some (Cond.eq (.length (.field (tmS i) "java/lang/String" "value" "[B")) (.int (Int32.ofNat (strL.getD i 0)))) := by decide +kernel
theorem g_el : ∀ i, i < 24 → ∀ j, j < strL.getD i 0 → gvL[pS i + 4 + j]? = some (Cond.eq (.elem (.field (tmS i) "java/lang/String" "value" "[B") (.int (Int32.ofNat j))) (.int ((strB.getD i []).getD j 0))) := by decide +kernel
theorem g_ne : ∀ j, j < 24 → ∀ i, i < j → gvL[pS j + 4 + strL.getD j 0 + i]? = some (Cond.not (Cond.eq (tmS i) (tmS j))) := by decide +kernel
theorem g_cs : gvL[4]? = some (Cond.eq (.static "java/lang/String" "COMPACT_STRINGS" "Z") (.int 1)) := by decide +kernel
theorem g_fm : gvL[5]? = some (Cond.isRef (.static "jdk/internal/util/Preconditions" "SIOOBE_FORMATTER" "Ljava/util/function/BiFunction;")) := by decide +kernel
theorem l_sr : ∀ i, i < 24 → Cond.stringRef (strO.getD i ("", 0, "")).1 (strO.getD i ("", 0, "")).2.1 (strO.getD i ("", 0, "")).2.2 ∈ lw_tbl := by decide +kernel
theorem l_ni : ∀ q ∈ nstL, Cond.methodLinkNest q.1 q.2.1 q.2.2 "DarkStreet" ∈ lw_tbl := by decide +kernel
theorem l_us : ∀ c, c < 9 → ∀ r, vwCl[c]? = some r → ∀ x ∈ u_ws r.1 r.2.1 r.2.2, x ∈ lw_tbl := fun c hc r hr => by
  have h : ∀ c : Fin 9, ∀ r ∈ vwCl[c.val]?, ∀ x ∈ u_ws r.1 r.2.1 r.2.2, x ∈ lw_tbl := by decide +kernel
  exact h ⟨c, hc⟩ r hr
theorem l_it : ∀ c, c < 9 → ∀ r, vwCl[c]? = some r → Cond.instantiable r.1 r.2.2 ∈ lw_tbl := fun c hc r hr => by
  have h : ∀ c : Fin 9, ∀ r ∈ vwCl[c.val]?, Cond.instantiable r.1 r.2.2 ∈ lw_tbl := by decide +kernel
  exact h ⟨c, hc⟩ r hr
theorem l_ar : Cond.arrayClass .int ∈ lw_tbl ∧ Cond.arrayClass .long ∈ lw_tbl ∧ Cond.arrayClass .boolean ∈ lw_tbl ∧ Cond.arrayClass .byte ∈ lw_tbl ∧ Cond.arrayOver (.array .int) ∈ lw_tbl ∧ Cond.arrayOver (.array .long) ∈ lw_tbl ∧ Cond.arrayOver (.object "DarkStreet$Town") ∈ lw_tbl ∧ Cond.arrayOver (.object "DarkStreet$Rule") ∈ lw_tbl := by decide +kernel
theorem l_st : Cond.laysStatic "java/lang/String" "COMPACT_STRINGS" "Z" ∈ lw_tbl ∧ Cond.initialized "java/lang/String" ∈ lw_tbl ∧ Cond.laysStatic "jdk/internal/util/Preconditions" "SIOOBE_FORMATTER" "Ljava/util/function/BiFunction;" ∈ lw_tbl ∧ Cond.initialized "jdk/internal/util/Preconditions" ∈ lw_tbl := by decide +kernel

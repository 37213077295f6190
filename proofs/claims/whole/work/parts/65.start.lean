/-! the start: what is known of it -/
def ex_tm (i : Nat) : Term := .string RX5 (ex_pool.getD i (0, "")).1
abbrev st_C : Cond := Jvm.Cond.and given_1 narrow_1
theorem st_ex : ∀ i, i < 9 → Cond.exactly (ex_tm i) "java/lang/String" ∈ flatC st_C := by decide +kernel
theorem st_co : ∀ i, i < 9 → Cond.eq (.field (ex_tm i) "java/lang/String" "coder" "B") (.int 0) ∈ flatC st_C := by decide +kernel
theorem st_ar : ∀ i, i < 9 → Cond.arrayOf (.field (ex_tm i) "java/lang/String" "value" "[B") .byte ∈ flatC st_C := by decide +kernel
theorem st_le : ∀ i, i < 9 → Cond.eq (.length (.field (ex_tm i) "java/lang/String" "value" "[B")) (.int (Int32.ofNat (ex_len.getD i 0))) ∈ flatC st_C := by decide +kernel
theorem st_el : ∀ i, i < 9 → ∀ j, j < ex_len.getD i 0 → Cond.eq (.elem (.field (ex_tm i) "java/lang/String" "value" "[B") (.int (Int32.ofNat j))) (.int ((ex_byt.getD i []).getD j 0)) ∈ flatC st_C := by decide +kernel
theorem st_ne : ∀ i, i < 9 → ∀ j, j < 9 → i ≠ j → Cond.not (Cond.eq (ex_tm i) (ex_tm j)) ∈ flatC st_C ∨ Cond.not (Cond.eq (ex_tm j) (ex_tm i)) ∈ flatC st_C := by decide +kernel
theorem st_kp : ∀ j, j < 4 → Cond.eq (.elem (.static RX8 "KEEPS" "[I") (.int (Int32.ofNat j))) (.int (([3, 2, 9, 6] : List Int32).getD j 0)) ∈ flatC st_C := by decide +kernel
theorem st_kl : Cond.eq (.length (.static RX8 "KEEPS" "[I")) (.int (Int32.ofNat 4)) ∈ flatC st_C := by decide +kernel
theorem st_ka : Cond.arrayOf (.static RX8 "KEEPS" "[I") .int ∈ flatC st_C := by decide +kernel
theorem st_cs : Cond.eq (.static "java/lang/String" "COMPACT_STRINGS" "Z") (.int 1) ∈ flatC st_C := by decide +kernel
theorem st_si : Cond.isRef (.static "jdk/internal/util/Preconditions" "SIOOBE_FORMATTER" "Ljava/util/function/BiFunction;") ∈ flatC st_C := by decide +kernel
theorem st_l : ∀ w ∈ ([.laysStatic RX8 "KEEPS" "[I", .initialized RX8, .laysStatic "java/lang/String" "COMPACT_STRINGS" "Z", .initialized "java/lang/String", .laysStatic "jdk/internal/util/Preconditions" "SIOOBE_FORMATTER" "Ljava/util/function/BiFunction;", .initialized "jdk/internal/util/Preconditions"] : List Cond), w ∈ lw_tbl := by decide +kernel
theorem st_in : ∀ w ∈ ([.instantiable RX0 2, .instantiable RX1 6, .instantiable RX3 3, .instantiable RX4 7, .instantiable RX5 11, .instantiable RX6 4, .instantiable RX7 3, .instantiable RX8 14, .instantiable RX9 32] : List Cond), w ∈ lw_tbl := by decide +kernel
theorem st_sr : ∀ q ∈ ex_pool, Cond.stringRef RX5 q.1 q.2 ∈ lw_tbl := by decide +kernel
theorem st_tm {i : Nat} {q : Nat × String} (h : ex_pool[i]? = some q) : ex_tm i = .string RX5 q.1 := by
  unfold ex_tm
  rw [List.getD_eq_getElem?_getD, h]; rfl

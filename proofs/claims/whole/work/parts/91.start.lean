/-! THE LAW: what holds at its start -/
def lw_fl : List Cond := flatC (Jvm.Cond.and given_1 narrow_1)
theorem lw_w1 : ∀ q ∈ tm_nest, Cond.methodLinkNest q.1 q.2.1 q.2.2.1 q.2.2.2 ∈ lw_tbl := by decide +kernel
theorem lw_w2 : ∀ x ∈ tm_decl, Cond.declares x ∈ lw_tbl := by decide +kernel
theorem lw_w3 : Cond.fieldLinkNest "QuarrelDesk$Text" 60 "QuarrelDesk" "TERM_LEAST" "[I" "QuarrelDesk" ∈ lw_tbl := by decide +kernel
theorem lw_w4 : Cond.fieldLinkNest "QuarrelDesk$Text" 63 "QuarrelDesk" "TERM_MOST" "[I" "QuarrelDesk" ∈ lw_tbl := by decide +kernel
theorem lw_w5 : ∀ q ∈ tm_cst, Cond.castable q.1 q.2 ∈ lw_tbl := by decide +kernel
theorem lw_w6 : ∀ q ∈ tm_nc, Cond.not (.castable q.1 q.2) ∈ lw_fl := by decide +kernel
theorem lw_w7 : ∀ w ∈ [Cond.laysStatic "QuarrelDesk" "TERM_LEAST" "[I", .laysStatic "QuarrelDesk" "TERM_MOST" "[I", .laysStatic "java/lang/String" "COMPACT_STRINGS" "Z", .laysStatic "jdk/internal/util/Preconditions" "SIOOBE_FORMATTER" "Ljava/util/function/BiFunction;", .initialized "QuarrelDesk", .initialized "java/lang/String", .initialized "jdk/internal/util/Preconditions", .stringRef "QuarrelDesk$Text" 81 tm_text, .arrayClass .int, .arrayClass .boolean] , w ∈ lw_tbl := by decide +kernel
theorem lw_w8 : ∀ C ∈ cz_ao, Cond.arrayOver (.object C) ∈ lw_tbl := by decide +kernel
theorem lw_w9 : ∀ w ∈ [Cond.arrayOf (.static "QuarrelDesk" "TERM_LEAST" "[I") .int, .eq (.length (.static "QuarrelDesk" "TERM_LEAST" "[I")) (.int 6), .arrayOf (.static "QuarrelDesk" "TERM_MOST" "[I") .int, .eq (.length (.static "QuarrelDesk" "TERM_MOST" "[I")) (.int 6), .eq (.static "java/lang/String" "COMPACT_STRINGS" "Z") (.int 1), .isRef (.static "jdk/internal/util/Preconditions" "SIOOBE_FORMATTER" "Ljava/util/function/BiFunction;"), .exactly (.string "QuarrelDesk$Text" 81) "java/lang/String", .eq (.field (.string "QuarrelDesk$Text" 81) "java/lang/String" "coder" "B") (.int 0), .arrayOf (.field (.string "QuarrelDesk$Text" 81) "java/lang/String" "value" "[B") .byte, .eq (.length (.field (.string "QuarrelDesk$Text" 81) "java/lang/String" "value" "[B")) (.int 77)], w ∈ lw_fl := by decide +kernel
theorem lw_w10 : ∀ j : Nat, j < 6 → Cond.eq (.elem (.static "QuarrelDesk" "TERM_LEAST" "[I") (.int (Int32.ofNat j))) (.int (tm_least j)) ∈ lw_fl ∧ Cond.eq (.elem (.static "QuarrelDesk" "TERM_MOST" "[I") (.int (Int32.ofNat j))) (.int (tm_most j)) ∈ lw_fl := by decide +kernel
theorem lw_w11 : ∀ j : Nat, j < 77 → Cond.eq (.elem (.field (.string "QuarrelDesk$Text" 81) "java/lang/String" "value" "[B") (.int (Int32.ofNat j))) (.int (tm_words.getD j 0)) ∈ lw_fl := by decide +kernel
theorem lw_w12 : ∀ w ∈ tm_xw, w ∈ lw_tbl := by decide +kernel
theorem lw_wn : ∀ q ∈ [(RX1, 12), (RX2, 0), (RX3, 0), (RX4, 0), (RX5, 0), (RX6, 6), (RX7, 8), (RX8, 4), (RX9, 15), (RX10, 23)], Cond.instantiable q.1 q.2 ∈ lw_tbl := by decide +kernel

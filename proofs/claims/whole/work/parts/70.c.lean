/-! THE LAW: its words stand in the tables, 3 -/
def wsL_law_r5a : List Cond := [Cond.methodLink RX1 9 yX1_begin, Cond.instanceMethod yX1_begin, Cond.selects RX1 yX1_begin yX1_begin, Cond.code yX1_begin cX1_begin 4 none, Cond.fieldLink RX1 15 "QuarrelDesk$Life" "nature" "LQuarrelDesk$Couple;", Cond.fieldLink RX1 19 "QuarrelDesk$Life" "temper" "I", Cond.fieldLink RX1 23 "QuarrelDesk$Life" "strain" "I", Cond.fieldLink RX1 26 "QuarrelDesk$Life" "silent" "I", Cond.fieldLink RX1 29 "QuarrelDesk$Life" "isVoid" "Z", Cond.fieldLink RX1 33 "QuarrelDesk$Life" "breaks" "I", Cond.fieldLink RX1 36 "QuarrelDesk$Life" "tiffs" "I", Cond.fieldLink RX1 39 "QuarrelDesk$Life" "halved" "I", Cond.fieldLink RX1 42 "QuarrelDesk$Life" "paid" "I", Cond.fieldLink RX1 45 "QuarrelDesk$Life" "claimed" "I", Cond.fieldLink RX1 48 "QuarrelDesk$Life" "lastBreak" "I", Cond.fieldLink RX1 51 "QuarrelDesk$Life" "hadTiff" "Z", Cond.methodLink RX9 69 yX1_init, Cond.methodLink RL 12 yX10_init, Cond.instanceMethod yX10_init]
def wsL_law_r5b : List Cond := [Cond.methodLink RX10 1 objectInit, Cond.fieldLink RX10 7 "QuarrelDeskModel" "words" "[I", Cond.fieldLink RX10 13 "QuarrelDeskModel" "firsts" "[I", Cond.fieldLink RX10 16 "QuarrelDeskModel" "leasts" "[I"]
set_option maxRecDepth 20000 in
theorem in_wsL_law_r5a : ∀ w ∈ wsL_law_r5a, w ∈ lw_tbl := fun w h => (goodIn_p wsL_law_r5a [197] (by decide +kernel) (by decide +kernel) w h).1
set_option maxRecDepth 20000 in
theorem in_wsL_law_r5b : ∀ w ∈ wsL_law_r5b, w ∈ lw_tbl := fun w h => (goodIn_p wsL_law_r5b [] (by decide +kernel) (by decide +kernel) w h).1
theorem in_code_X10 : Cond.code yX10_init cX10_init 1 none ∈ lw_tbl := List.mem_append_right _ (List.mem_append_right _ (List.mem_append_right _ (List.mem_append_left _ (List.mem_of_getElem? (i := 207) rfl))))
theorem in_wsL_law_r5 : ∀ w ∈ wsL_law_r5, w ∈ lw_tbl := by
  intro w h
  have e : wsL_law_r5 = wsL_law_r5a ++ Cond.code yX10_init cX10_init 1 none :: wsL_law_r5b := rfl
  rw [e] at h
  rcases List.mem_append.mp h with h | h
  · exact in_wsL_law_r5a w h
  · rcases List.mem_cons.mp h with h | h
    · rw [h]; exact in_code_X10
    · exact in_wsL_law_r5b w h
set_option maxRecDepth 20000 in
theorem in_wsL_law_r6 : ∀ w ∈ wsL_law_r6, w ∈ lw_tbl := fun w h => (goodIn_p wsL_law_r6 [742, 321] (by decide +kernel) (by decide +kernel) w h).1

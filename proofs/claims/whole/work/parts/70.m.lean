/-! THE LAW: its words stand in the tables, 13 -/
set_option maxRecDepth 20000 in
theorem in_wsL_law_r34 : ∀ w ∈ wsL_law_r34, w ∈ lw_tbl := fun w h => (goodIn_p wsL_law_r34 [719, 724, 728, 732, 1030] (by decide +kernel) (by decide +kernel) w h).1

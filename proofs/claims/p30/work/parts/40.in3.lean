set_option maxRecDepth 20000 in
theorem inl_r16 : ∀ w ∈ wsL_law0_r16, w ∈ lw_tbl := fun w h => (goodIn_p wsL_law0_r16 [660, 663, 667] (by decide +kernel) (by decide +kernel) w h).1

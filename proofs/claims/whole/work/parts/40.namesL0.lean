theorem hLt_wsX00 : GoodIn wsL_law wsX00 := fun w h => ⟨inlX0 w h, good_of_word (List.all_eq_true.mp (by decide +kernel : (wsX00).all goodWord = true) w h)⟩
theorem hLt_wsX10 : GoodIn wsL_law wsX10 := fun w h => ⟨inlX1 w h, good_of_word (List.all_eq_true.mp (by decide +kernel : (wsX10).all goodWord = true) w h)⟩
theorem hLt_wsX20 : GoodIn wsL_law wsX20 := fun w h => ⟨inlX2 w h, good_of_word (List.all_eq_true.mp (by decide +kernel : (wsX20).all goodWord = true) w h)⟩
theorem hLt_wsX30 : GoodIn wsL_law wsX30 := fun w h => ⟨inlX3 w h, good_of_word (List.all_eq_true.mp (by decide +kernel : (wsX30).all goodWord = true) w h)⟩
theorem hLt_wsX40 : GoodIn wsL_law wsX40 := fun w h => ⟨inlX4 w h, good_of_word (List.all_eq_true.mp (by decide +kernel : (wsX40).all goodWord = true) w h)⟩
theorem hLt_wsX50 : GoodIn wsL_law wsX50 := fun w h => ⟨inlX5 w h, good_of_word (List.all_eq_true.mp (by decide +kernel : (wsX50).all goodWord = true) w h)⟩
theorem hLt_wsX60 : GoodIn wsL_law wsX60 := fun w h => ⟨inlX6 w h, good_of_word (List.all_eq_true.mp (by decide +kernel : (wsX60).all goodWord = true) w h)⟩
theorem hLt_wsX70 : GoodIn wsL_law wsX70 := fun w h => ⟨inlX7 w h, good_of_word (List.all_eq_true.mp (by decide +kernel : (wsX70).all goodWord = true) w h)⟩

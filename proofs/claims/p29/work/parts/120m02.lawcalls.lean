set_option maxRecDepth 20000 in
theorem gq_wsL_tick_r15 : GoodIn wsL_law wsL_tick_r15 := goodIn_r _ [518, 519, 520] rfl (by decide +kernel)
set_option maxRecDepth 20000 in
theorem gq_wsX90 : GoodIn wsL_law wsX90 := goodIn_r _ [666, 667, 668, 669] rfl (by decide +kernel)
set_option maxRecDepth 20000 in
theorem gq_wsX10 : GoodIn wsL_law wsX10 := goodIn_r _ [697, 698, 699, 700, 701, 702, 703, 704, 705, 706, 707, 708, 709, 710, 711] rfl (by decide +kernel)
set_option maxRecDepth 20000 in
theorem gq_wsX70 : GoodIn wsL_law wsX70 := goodIn_r _ [727, 728] rfl (by decide +kernel)
set_option maxRecDepth 20000 in
theorem gq_wsX80 : GoodIn wsL_law wsX80 := goodIn_r _ [670, 671, 672, 673, 674, 675, 676, 677, 678, 679, 680] rfl (by decide +kernel)
set_option maxRecDepth 20000 in
theorem gq_wsX50 : GoodIn wsL_law wsX50 := goodIn_r _ [712, 713, 714, 715, 716, 717, 718] rfl (by decide +kernel)
set_option maxRecDepth 20000 in
theorem gq_wsX40 : GoodIn wsL_law wsX40 := goodIn_r _ [724, 725, 726] rfl (by decide +kernel)
set_option maxRecDepth 20000 in
theorem gq_wsX60 : GoodIn wsL_law wsX60 := goodIn_r _ [719, 720, 721, 722, 723] rfl (by decide +kernel)
set_option maxRecDepth 20000 in
theorem gq_wsX20 : GoodIn wsL_law wsX20 := goodIn_r _ [681, 682, 683] rfl (by decide +kernel)

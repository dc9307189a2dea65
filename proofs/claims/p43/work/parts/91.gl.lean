set_option maxRecDepth 20000 in
theorem glX_feed : GoodIn lw_tbl (wsV RL 19 RX10 yX10_feed vfX10_feed) := goodIn_app (goodIn_m (mem_c (ws := [.methodLink RL 19 yX10_feed, .instanceMethod yX10_feed, .selects RX10 yX10_feed yX10_feed, .initialized RX10]) [(2, 109), (2, 110), (2, 111), (1, 1)] (by decide +kernel)) (gd_dec (by decide +kernel))) (goodIn_m tffX10_feed qfX10_feed)
set_option maxRecDepth 20000 in
theorem glM_feed : GoodIn lw_tbl (wsV RL 23 RX12 yX12_feed vfX12_feed) := goodIn_app (goodIn_m (mem_c (ws := [.methodLink RL 23 yX12_feed, .instanceMethod yX12_feed, .selects RX12 yX12_feed yX12_feed, .initialized RX12]) [(6, 11), (6, 12), (6, 13), (1, 9)] (by decide +kernel)) (gd_dec (by decide +kernel))) (goodIn_m tffX12_feed qfX12_feed)
set_option maxRecDepth 20000 in
theorem glX_pier : GoodIn lw_tbl (wsV RL 24 RX10 yX10_pier vfX10_pier) := goodIn_app (goodIn_m (mem_c (ws := [.methodLink RL 24 yX10_pier, .instanceMethod yX10_pier, .selects RX10 yX10_pier yX10_pier, .initialized RX10]) [(2, 117), (2, 118), (2, 119), (1, 1)] (by decide +kernel)) (gd_dec (by decide +kernel))) (goodIn_m tffX10_pier qfX10_pier)
set_option maxRecDepth 20000 in
theorem glM_pier_r : GoodIn lw_tbl (wsV RL 27 RX12 yX12_pier vfX12_pier_r) := goodIn_app (goodIn_m (mem_c (ws := [.methodLink RL 27 yX12_pier, .instanceMethod yX12_pier, .selects RX12 yX12_pier yX12_pier, .initialized RX12]) [(6, 15), (6, 16), (6, 17), (1, 9)] (by decide +kernel)) (gd_dec (by decide +kernel))) (goodIn_m tffX12_pier_r qfX12_pier_r)
set_option maxRecDepth 20000 in
theorem glM_pier_f : GoodIn lw_tbl (wsV RL 27 RX12 yX12_pier vfX12_pier_f) := goodIn_app (goodIn_m (mem_c (ws := [.methodLink RL 27 yX12_pier, .instanceMethod yX12_pier, .selects RX12 yX12_pier yX12_pier, .initialized RX12]) [(6, 15), (6, 16), (6, 17), (1, 9)] (by decide +kernel)) (gd_dec (by decide +kernel))) (goodIn_m tffX12_pier_f qfX12_pier_f)
set_option maxRecDepth 20000 in
theorem glM_pier_o : GoodIn lw_tbl (wsV RL 27 RX12 yX12_pier vfX12_pier_o) := goodIn_app (goodIn_m (mem_c (ws := [.methodLink RL 27 yX12_pier, .instanceMethod yX12_pier, .selects RX12 yX12_pier yX12_pier, .initialized RX12]) [(6, 15), (6, 16), (6, 17), (1, 9)] (by decide +kernel)) (gd_dec (by decide +kernel))) (goodIn_m tffX12_pier_o qfX12_pier_o)
set_option maxRecDepth 20000 in
theorem glX_fault : GoodIn lw_tbl (wsV RL 28 RX10 yX10_fault vfX10_fault) := goodIn_app (goodIn_m (mem_c (ws := [.methodLink RL 28 yX10_fault, .instanceMethod yX10_fault, .selects RX10 yX10_fault yX10_fault, .initialized RX10]) [(3, 72), (3, 73), (3, 74), (1, 1)] (by decide +kernel)) (gd_dec (by decide +kernel))) (goodIn_m tffX10_fault qfX10_fault)
set_option maxRecDepth 20000 in
theorem glM_fault : GoodIn lw_tbl (wsV RL 32 RX12 yX12_fault vfX12_fault) := goodIn_app (goodIn_m (mem_c (ws := [.methodLink RL 32 yX12_fault, .instanceMethod yX12_fault, .selects RX12 yX12_fault yX12_fault, .initialized RX12]) [(7, 14), (7, 15), (7, 16), (1, 9)] (by decide +kernel)) (gd_dec (by decide +kernel))) (goodIn_m tffX12_fault qfX12_fault)
set_option maxRecDepth 20000 in
theorem glX_where : GoodIn lw_tbl (wsV RL 33 RX10 yX10_where vfX10_where) := goodIn_app (goodIn_m (mem_c (ws := [.methodLink RL 33 yX10_where, .instanceMethod yX10_where, .selects RX10 yX10_where yX10_where, .initialized RX10]) [(3, 76), (3, 77), (3, 78), (1, 1)] (by decide +kernel)) (gd_dec (by decide +kernel))) (goodIn_m tffX10_where qfX10_where)
set_option maxRecDepth 20000 in
theorem glM_where : GoodIn lw_tbl (wsV RL 36 RX12 yX12_where vfX12_where) := goodIn_app (goodIn_m (mem_c (ws := [.methodLink RL 36 yX12_where, .instanceMethod yX12_where, .selects RX12 yX12_where yX12_where, .initialized RX12]) [(7, 18), (7, 19), (7, 20), (1, 9)] (by decide +kernel)) (gd_dec (by decide +kernel))) (goodIn_m tffX12_where qfX12_where)
set_option maxRecDepth 20000 in
theorem glX_answer : GoodIn lw_tbl (wsV RL 37 RX10 yX10_answer vfX10_answer) := goodIn_app (goodIn_m (mem_c (ws := [.methodLink RL 37 yX10_answer, .instanceMethod yX10_answer, .selects RX10 yX10_answer yX10_answer, .initialized RX10]) [(3, 80), (3, 81), (3, 82), (1, 1)] (by decide +kernel)) (gd_dec (by decide +kernel))) (goodIn_m tffX10_answer qfX10_answer)
set_option maxRecDepth 20000 in
theorem glM_answer : GoodIn lw_tbl (wsV RL 41 RX12 yX12_answer vfX12_answer) := goodIn_app (goodIn_m (mem_c (ws := [.methodLink RL 41 yX12_answer, .instanceMethod yX12_answer, .selects RX12 yX12_answer yX12_answer, .initialized RX12]) [(7, 22), (7, 23), (7, 24), (1, 9)] (by decide +kernel)) (gd_dec (by decide +kernel))) (goodIn_m tffX12_answer qfX12_answer)
set_option maxRecDepth 20000 in
theorem glM_answer_nul : GoodIn lw_tbl (wsV RL 41 RX12 yX12_answer vfX12_answer_nul) := goodIn_app (goodIn_m (mem_c (ws := [.methodLink RL 41 yX12_answer, .instanceMethod yX12_answer, .selects RX12 yX12_answer yX12_answer, .initialized RX12]) [(7, 22), (7, 23), (7, 24), (1, 9)] (by decide +kernel)) (gd_dec (by decide +kernel))) (goodIn_m tffX12_answer_nul qfX12_answer_nul)
set_option maxRecDepth 20000 in
theorem glX_asker : GoodIn lw_tbl (wsV RL 42 RX10 yX10_asker vfX10_asker) := goodIn_app (goodIn_m (mem_c (ws := [.methodLink RL 42 yX10_asker, .instanceMethod yX10_asker, .selects RX10 yX10_asker yX10_asker, .initialized RX10]) [(3, 104), (3, 105), (3, 106), (1, 1)] (by decide +kernel)) (gd_dec (by decide +kernel))) (goodIn_m tffX10_asker qfX10_asker)
set_option maxRecDepth 20000 in
theorem glM_asker : GoodIn lw_tbl (wsV RL 45 RX12 yX12_asker vfX12_asker) := goodIn_app (goodIn_m (mem_c (ws := [.methodLink RL 45 yX12_asker, .instanceMethod yX12_asker, .selects RX12 yX12_asker yX12_asker, .initialized RX12]) [(7, 34), (7, 35), (7, 36), (1, 9)] (by decide +kernel)) (gd_dec (by decide +kernel))) (goodIn_m tffX12_asker qfX12_asker)
set_option maxRecDepth 20000 in
theorem glM_asker_nul : GoodIn lw_tbl (wsV RL 45 RX12 yX12_asker vfX12_asker_nul) := goodIn_app (goodIn_m (mem_c (ws := [.methodLink RL 45 yX12_asker, .instanceMethod yX12_asker, .selects RX12 yX12_asker yX12_asker, .initialized RX12]) [(7, 34), (7, 35), (7, 36), (1, 9)] (by decide +kernel)) (gd_dec (by decide +kernel))) (goodIn_m tffX12_asker_nul qfX12_asker_nul)
set_option maxRecDepth 20000 in
theorem glX_close : GoodIn lw_tbl (wsV RL 46 RX10 yX10_close vfX10_close) := goodIn_app (goodIn_m (mem_c (ws := [.methodLink RL 46 yX10_close, .instanceMethod yX10_close, .selects RX10 yX10_close yX10_close, .initialized RX10]) [(3, 141), (3, 142), (3, 143), (1, 1)] (by decide +kernel)) (gd_dec (by decide +kernel))) (goodIn_m tffX10_close qfX10_close)
set_option maxRecDepth 20000 in
theorem glM_close : GoodIn lw_tbl (wsV RL 49 RX12 yX12_close vfX12_close) := goodIn_app (goodIn_m (mem_c (ws := [.methodLink RL 49 yX12_close, .instanceMethod yX12_close, .selects RX12 yX12_close yX12_close, .initialized RX12]) [(7, 65), (7, 66), (7, 67), (1, 9)] (by decide +kernel)) (gd_dec (by decide +kernel))) (goodIn_m tffX12_close qfX12_close)
set_option maxRecDepth 20000 in
theorem glM_close_nul : GoodIn lw_tbl (wsV RL 49 RX12 yX12_close vfX12_close_nul) := goodIn_app (goodIn_m (mem_c (ws := [.methodLink RL 49 yX12_close, .instanceMethod yX12_close, .selects RX12 yX12_close yX12_close, .initialized RX12]) [(7, 65), (7, 66), (7, 67), (1, 9)] (by decide +kernel)) (gd_dec (by decide +kernel))) (goodIn_m tffX12_close_nul qfX12_close_nul)
set_option maxRecDepth 20000 in
theorem glX_wish : GoodIn lw_tbl (wsV RL 50 RX10 yX10_wish vfX10_wish) := goodIn_app (goodIn_m (mem_c (ws := [.methodLink RL 50 yX10_wish, .instanceMethod yX10_wish, .selects RX10 yX10_wish yX10_wish, .initialized RX10]) [(3, 157), (3, 158), (3, 159), (1, 1)] (by decide +kernel)) (gd_dec (by decide +kernel))) (goodIn_m tffX10_wish qfX10_wish)
set_option maxRecDepth 20000 in
theorem glM_wish : GoodIn lw_tbl (wsV RL 54 RX12 yX12_wish vfX12_wish) := goodIn_app (goodIn_m (mem_c (ws := [.methodLink RL 54 yX12_wish, .instanceMethod yX12_wish, .selects RX12 yX12_wish yX12_wish, .initialized RX12]) [(7, 73), (7, 74), (7, 75), (1, 9)] (by decide +kernel)) (gd_dec (by decide +kernel))) (goodIn_m tffX12_wish qfX12_wish)
set_option maxRecDepth 20000 in
theorem glM_wish_nul : GoodIn lw_tbl (wsV RL 54 RX12 yX12_wish vfX12_wish_nul) := goodIn_app (goodIn_m (mem_c (ws := [.methodLink RL 54 yX12_wish, .instanceMethod yX12_wish, .selects RX12 yX12_wish yX12_wish, .initialized RX12]) [(7, 73), (7, 74), (7, 75), (1, 9)] (by decide +kernel)) (gd_dec (by decide +kernel))) (goodIn_m tffX12_wish_nul qfX12_wish_nul)
set_option maxRecDepth 20000 in
theorem glX_takes : GoodIn lw_tbl (wsV RL 55 RX10 yX10_takes vfX10_takes) := goodIn_app (goodIn_m (mem_c (ws := [.methodLink RL 55 yX10_takes, .instanceMethod yX10_takes, .selects RX10 yX10_takes yX10_takes, .initialized RX10]) [(3, 189), (3, 190), (3, 191), (1, 1)] (by decide +kernel)) (gd_dec (by decide +kernel))) (goodIn_m tffX10_takes qfX10_takes)
set_option maxRecDepth 20000 in
theorem glM_takes : GoodIn lw_tbl (wsV RL 59 RX12 yX12_takes vfX12_takes) := goodIn_app (goodIn_m (mem_c (ws := [.methodLink RL 59 yX12_takes, .instanceMethod yX12_takes, .selects RX12 yX12_takes yX12_takes, .initialized RX12]) [(7, 93), (7, 94), (7, 95), (1, 9)] (by decide +kernel)) (gd_dec (by decide +kernel))) (goodIn_m tffX12_takes qfX12_takes)
set_option maxRecDepth 20000 in
theorem glM_takes_nul : GoodIn lw_tbl (wsV RL 59 RX12 yX12_takes vfX12_takes_nul) := goodIn_app (goodIn_m (mem_c (ws := [.methodLink RL 59 yX12_takes, .instanceMethod yX12_takes, .selects RX12 yX12_takes yX12_takes, .initialized RX12]) [(7, 93), (7, 94), (7, 95), (1, 9)] (by decide +kernel)) (gd_dec (by decide +kernel))) (goodIn_m tffX12_takes_nul qfX12_takes_nul)
set_option maxRecDepth 20000 in
theorem glX_nothing : GoodIn lw_tbl (wsV RL 60 RX10 yX10_nothing vfX10_nothing) := goodIn_app (goodIn_m (mem_c (ws := [.methodLink RL 60 yX10_nothing, .instanceMethod yX10_nothing, .selects RX10 yX10_nothing yX10_nothing, .initialized RX10]) [(3, 206), (3, 207), (3, 208), (1, 1)] (by decide +kernel)) (gd_dec (by decide +kernel))) (goodIn_m tffX10_nothing qfX10_nothing)
set_option maxRecDepth 20000 in
theorem glM_nothing : GoodIn lw_tbl (wsV RL 64 RX12 yX12_nothing vfX12_nothing) := goodIn_app (goodIn_m (mem_c (ws := [.methodLink RL 64 yX12_nothing, .instanceMethod yX12_nothing, .selects RX12 yX12_nothing yX12_nothing, .initialized RX12]) [(7, 121), (7, 122), (7, 123), (1, 9)] (by decide +kernel)) (gd_dec (by decide +kernel))) (goodIn_m tffX12_nothing qfX12_nothing)
set_option maxRecDepth 20000 in
theorem glM_nothing_nul : GoodIn lw_tbl (wsV RL 64 RX12 yX12_nothing vfX12_nothing_nul) := goodIn_app (goodIn_m (mem_c (ws := [.methodLink RL 64 yX12_nothing, .instanceMethod yX12_nothing, .selects RX12 yX12_nothing yX12_nothing, .initialized RX12]) [(7, 121), (7, 122), (7, 123), (1, 9)] (by decide +kernel)) (gd_dec (by decide +kernel))) (goodIn_m tffX12_nothing_nul qfX12_nothing_nul)
set_option maxRecDepth 20000 in
theorem glX_mean : GoodIn lw_tbl (wsV RL 65 RX10 yX10_mean vfX10_mean) := goodIn_app (goodIn_m (mem_c (ws := [.methodLink RL 65 yX10_mean, .instanceMethod yX10_mean, .selects RX10 yX10_mean yX10_mean, .initialized RX10]) [(3, 210), (3, 211), (3, 212), (1, 1)] (by decide +kernel)) (gd_dec (by decide +kernel))) (goodIn_m tffX10_mean qfX10_mean)
set_option maxRecDepth 20000 in
theorem glM_mean : GoodIn lw_tbl (wsV RL 68 RX12 yX12_mean vfX12_mean) := goodIn_app (goodIn_m (mem_c (ws := [.methodLink RL 68 yX12_mean, .instanceMethod yX12_mean, .selects RX12 yX12_mean yX12_mean, .initialized RX12]) [(7, 129), (7, 130), (7, 131), (1, 9)] (by decide +kernel)) (gd_dec (by decide +kernel))) (goodIn_m tffX12_mean qfX12_mean)
set_option maxRecDepth 20000 in
theorem glM_mean_nul : GoodIn lw_tbl (wsV RL 68 RX12 yX12_mean vfX12_mean_nul) := goodIn_app (goodIn_m (mem_c (ws := [.methodLink RL 68 yX12_mean, .instanceMethod yX12_mean, .selects RX12 yX12_mean yX12_mean, .initialized RX12]) [(7, 129), (7, 130), (7, 131), (1, 9)] (by decide +kernel)) (gd_dec (by decide +kernel))) (goodIn_m tffX12_mean_nul qfX12_mean_nul)
set_option maxRecDepth 20000 in
theorem glX_likeliest : GoodIn lw_tbl (wsV RL 69 RX10 yX10_likeliest vfX10_likeliest) := goodIn_app (goodIn_m (mem_c (ws := [.methodLink RL 69 yX10_likeliest, .instanceMethod yX10_likeliest, .selects RX10 yX10_likeliest yX10_likeliest, .initialized RX10]) [(3, 218), (3, 219), (3, 220), (1, 1)] (by decide +kernel)) (gd_dec (by decide +kernel))) (goodIn_m tffX10_likeliest qfX10_likeliest)
set_option maxRecDepth 20000 in
theorem glM_likeliest : GoodIn lw_tbl (wsV RL 73 RX12 yX12_likeliest vfX12_likeliest) := goodIn_app (goodIn_m (mem_c (ws := [.methodLink RL 73 yX12_likeliest, .instanceMethod yX12_likeliest, .selects RX12 yX12_likeliest yX12_likeliest, .initialized RX12]) [(7, 137), (7, 138), (7, 139), (1, 9)] (by decide +kernel)) (gd_dec (by decide +kernel))) (goodIn_m tffX12_likeliest qfX12_likeliest)
set_option maxRecDepth 20000 in
theorem glM_likeliest_nul : GoodIn lw_tbl (wsV RL 73 RX12 yX12_likeliest vfX12_likeliest_nul) := goodIn_app (goodIn_m (mem_c (ws := [.methodLink RL 73 yX12_likeliest, .instanceMethod yX12_likeliest, .selects RX12 yX12_likeliest yX12_likeliest, .initialized RX12]) [(7, 137), (7, 138), (7, 139), (1, 9)] (by decide +kernel)) (gd_dec (by decide +kernel))) (goodIn_m tffX12_likeliest_nul qfX12_likeliest_nul)
set_option maxRecDepth 20000 in
theorem glX_surest : GoodIn lw_tbl (wsV RL 74 RX10 yX10_surest vfX10_surest) := goodIn_app (goodIn_m (mem_c (ws := [.methodLink RL 74 yX10_surest, .instanceMethod yX10_surest, .selects RX10 yX10_surest yX10_surest, .initialized RX10]) [(3, 225), (3, 226), (3, 227), (1, 1)] (by decide +kernel)) (gd_dec (by decide +kernel))) (goodIn_m tffX10_surest qfX10_surest)
set_option maxRecDepth 20000 in
theorem glM_surest : GoodIn lw_tbl (wsV RL 77 RX12 yX12_surest vfX12_surest) := goodIn_app (goodIn_m (mem_c (ws := [.methodLink RL 77 yX12_surest, .instanceMethod yX12_surest, .selects RX12 yX12_surest yX12_surest, .initialized RX12]) [(7, 141), (7, 142), (7, 143), (1, 9)] (by decide +kernel)) (gd_dec (by decide +kernel))) (goodIn_m tffX12_surest qfX12_surest)
set_option maxRecDepth 20000 in
theorem glM_surest_nul : GoodIn lw_tbl (wsV RL 77 RX12 yX12_surest vfX12_surest_nul) := goodIn_app (goodIn_m (mem_c (ws := [.methodLink RL 77 yX12_surest, .instanceMethod yX12_surest, .selects RX12 yX12_surest yX12_surest, .initialized RX12]) [(7, 141), (7, 142), (7, 143), (1, 9)] (by decide +kernel)) (gd_dec (by decide +kernel))) (goodIn_m tffX12_surest_nul qfX12_surest_nul)
set_option maxRecDepth 20000 in
theorem glX_surestOdds : GoodIn lw_tbl (wsV RL 78 RX10 yX10_surestOdds vfX10_surestOdds) := goodIn_app (goodIn_m (mem_c (ws := [.methodLink RL 78 yX10_surestOdds, .instanceMethod yX10_surestOdds, .selects RX10 yX10_surestOdds yX10_surestOdds, .initialized RX10]) [(4, 6), (4, 7), (4, 8), (1, 1)] (by decide +kernel)) (gd_dec (by decide +kernel))) (goodIn_m tffX10_surestOdds qfX10_surestOdds)
set_option maxRecDepth 20000 in
theorem glM_surestOdds : GoodIn lw_tbl (wsV RL 82 RX12 yX12_surestOdds vfX12_surestOdds) := goodIn_app (goodIn_m (mem_c (ws := [.methodLink RL 82 yX12_surestOdds, .instanceMethod yX12_surestOdds, .selects RX12 yX12_surestOdds yX12_surestOdds, .initialized RX12]) [(7, 161), (7, 162), (7, 163), (1, 9)] (by decide +kernel)) (gd_dec (by decide +kernel))) (goodIn_m tffX12_surestOdds qfX12_surestOdds)
set_option maxRecDepth 20000 in
theorem glM_surestOdds_nul : GoodIn lw_tbl (wsV RL 82 RX12 yX12_surestOdds vfX12_surestOdds_nul) := goodIn_app (goodIn_m (mem_c (ws := [.methodLink RL 82 yX12_surestOdds, .instanceMethod yX12_surestOdds, .selects RX12 yX12_surestOdds yX12_surestOdds, .initialized RX12]) [(7, 161), (7, 162), (7, 163), (1, 9)] (by decide +kernel)) (gd_dec (by decide +kernel))) (goodIn_m tffX12_surestOdds_nul qfX12_surestOdds_nul)
set_option maxRecDepth 20000 in
theorem glX_best : GoodIn lw_tbl (wsV RL 83 RX10 yX10_best vfX10_best) := goodIn_app (goodIn_m (mem_c (ws := [.methodLink RL 83 yX10_best, .instanceMethod yX10_best, .selects RX10 yX10_best yX10_best, .initialized RX10]) [(4, 10), (4, 11), (4, 12), (1, 1)] (by decide +kernel)) (gd_dec (by decide +kernel))) (goodIn_m tffX10_best qfX10_best)
set_option maxRecDepth 20000 in
theorem glM_best : GoodIn lw_tbl (wsV RL 86 RX12 yX12_best vfX12_best) := goodIn_app (goodIn_m (mem_c (ws := [.methodLink RL 86 yX12_best, .instanceMethod yX12_best, .selects RX12 yX12_best yX12_best, .initialized RX12]) [(7, 165), (7, 166), (7, 167), (1, 9)] (by decide +kernel)) (gd_dec (by decide +kernel))) (goodIn_m tffX12_best qfX12_best)
set_option maxRecDepth 20000 in
theorem glM_best_nul : GoodIn lw_tbl (wsV RL 86 RX12 yX12_best vfX12_best_nul) := goodIn_app (goodIn_m (mem_c (ws := [.methodLink RL 86 yX12_best, .instanceMethod yX12_best, .selects RX12 yX12_best yX12_best, .initialized RX12]) [(7, 165), (7, 166), (7, 167), (1, 9)] (by decide +kernel)) (gd_dec (by decide +kernel))) (goodIn_m tffX12_best_nul qfX12_best_nul)
set_option maxRecDepth 20000 in
theorem glX_bestBait : GoodIn lw_tbl (wsV RL 87 RX10 yX10_bestBait vfX10_bestBait) := goodIn_app (goodIn_m (mem_c (ws := [.methodLink RL 87 yX10_bestBait, .instanceMethod yX10_bestBait, .selects RX10 yX10_bestBait yX10_bestBait, .initialized RX10]) [(4, 18), (4, 19), (4, 20), (1, 1)] (by decide +kernel)) (gd_dec (by decide +kernel))) (goodIn_m tffX10_bestBait qfX10_bestBait)
set_option maxRecDepth 20000 in
theorem glM_bestBait : GoodIn lw_tbl (wsV RL 90 RX12 yX12_bestBait vfX12_bestBait) := goodIn_app (goodIn_m (mem_c (ws := [.methodLink RL 90 yX12_bestBait, .instanceMethod yX12_bestBait, .selects RX12 yX12_bestBait yX12_bestBait, .initialized RX12]) [(7, 169), (7, 170), (7, 171), (1, 9)] (by decide +kernel)) (gd_dec (by decide +kernel))) (goodIn_m tffX12_bestBait qfX12_bestBait)
set_option maxRecDepth 20000 in
theorem glM_bestBait_nul : GoodIn lw_tbl (wsV RL 90 RX12 yX12_bestBait vfX12_bestBait_nul) := goodIn_app (goodIn_m (mem_c (ws := [.methodLink RL 90 yX12_bestBait, .instanceMethod yX12_bestBait, .selects RX12 yX12_bestBait yX12_bestBait, .initialized RX12]) [(7, 169), (7, 170), (7, 171), (1, 9)] (by decide +kernel)) (gd_dec (by decide +kernel))) (goodIn_m tffX12_bestBait_nul qfX12_bestBait_nul)
set_option maxRecDepth 20000 in
theorem glX_hungerFor : GoodIn lw_tbl (wsV RL 91 RX10 yX10_hungerFor vfX10_hungerFor) := goodIn_app (goodIn_m (mem_c (ws := [.methodLink RL 91 yX10_hungerFor, .instanceMethod yX10_hungerFor, .selects RX10 yX10_hungerFor yX10_hungerFor, .initialized RX10]) [(4, 26), (4, 27), (4, 28), (1, 1)] (by decide +kernel)) (gd_dec (by decide +kernel))) (goodIn_m tffX10_hungerFor qfX10_hungerFor)
set_option maxRecDepth 20000 in
theorem glM_hungerFor : GoodIn lw_tbl (wsV RL 94 RX12 yX12_hungerFor vfX12_hungerFor) := goodIn_app (goodIn_m (mem_c (ws := [.methodLink RL 94 yX12_hungerFor, .instanceMethod yX12_hungerFor, .selects RX12 yX12_hungerFor yX12_hungerFor, .initialized RX12]) [(7, 173), (7, 174), (7, 175), (1, 9)] (by decide +kernel)) (gd_dec (by decide +kernel))) (goodIn_m tffX12_hungerFor qfX12_hungerFor)
set_option maxRecDepth 20000 in
theorem glM_hungerFor_nul : GoodIn lw_tbl (wsV RL 94 RX12 yX12_hungerFor vfX12_hungerFor_nul) := goodIn_app (goodIn_m (mem_c (ws := [.methodLink RL 94 yX12_hungerFor, .instanceMethod yX12_hungerFor, .selects RX12 yX12_hungerFor yX12_hungerFor, .initialized RX12]) [(7, 173), (7, 174), (7, 175), (1, 9)] (by decide +kernel)) (gd_dec (by decide +kernel))) (goodIn_m tffX12_hungerFor_nul qfX12_hungerFor_nul)
set_option maxRecDepth 20000 in
theorem glX_freeSpots : GoodIn lw_tbl (wsV RL 95 RX10 yX10_freeSpots vfX10_freeSpots) := goodIn_app (goodIn_m (mem_c (ws := [.methodLink RL 95 yX10_freeSpots, .instanceMethod yX10_freeSpots, .selects RX10 yX10_freeSpots yX10_freeSpots, .initialized RX10]) [(4, 31), (4, 32), (4, 33), (1, 1)] (by decide +kernel)) (gd_dec (by decide +kernel))) (goodIn_m tffX10_freeSpots qfX10_freeSpots)
set_option maxRecDepth 20000 in
theorem glM_freeSpots : GoodIn lw_tbl (wsV RL 98 RX12 yX12_freeSpots vfX12_freeSpots) := goodIn_app (goodIn_m (mem_c (ws := [.methodLink RL 98 yX12_freeSpots, .instanceMethod yX12_freeSpots, .selects RX12 yX12_freeSpots yX12_freeSpots, .initialized RX12]) [(7, 182), (7, 183), (7, 184), (1, 9)] (by decide +kernel)) (gd_dec (by decide +kernel))) (goodIn_m tffX12_freeSpots qfX12_freeSpots)
set_option maxRecDepth 20000 in
theorem glM_freeSpots_nul : GoodIn lw_tbl (wsV RL 98 RX12 yX12_freeSpots vfX12_freeSpots_nul) := goodIn_app (goodIn_m (mem_c (ws := [.methodLink RL 98 yX12_freeSpots, .instanceMethod yX12_freeSpots, .selects RX12 yX12_freeSpots yX12_freeSpots, .initialized RX12]) [(7, 182), (7, 183), (7, 184), (1, 9)] (by decide +kernel)) (gd_dec (by decide +kernel))) (goodIn_m tffX12_freeSpots_nul qfX12_freeSpots_nul)
set_option maxRecDepth 20000 in
theorem glX_tangles : GoodIn lw_tbl (wsV RL 99 RX10 yX10_tangles vfX10_tangles) := goodIn_app (goodIn_m (mem_c (ws := [.methodLink RL 99 yX10_tangles, .instanceMethod yX10_tangles, .selects RX10 yX10_tangles yX10_tangles, .initialized RX10]) [(4, 35), (4, 36), (4, 37), (1, 1)] (by decide +kernel)) (gd_dec (by decide +kernel))) (goodIn_m tffX10_tangles qfX10_tangles)
set_option maxRecDepth 20000 in
theorem glM_tangles : GoodIn lw_tbl (wsV RL 102 RX12 yX12_tangles vfX12_tangles) := goodIn_app (goodIn_m (mem_c (ws := [.methodLink RL 102 yX12_tangles, .instanceMethod yX12_tangles, .selects RX12 yX12_tangles yX12_tangles, .initialized RX12]) [(7, 178), (7, 179), (7, 180), (1, 9)] (by decide +kernel)) (gd_dec (by decide +kernel))) (goodIn_m tffX12_tangles qfX12_tangles)
set_option maxRecDepth 20000 in
theorem glM_tangles_nul : GoodIn lw_tbl (wsV RL 102 RX12 yX12_tangles vfX12_tangles_nul) := goodIn_app (goodIn_m (mem_c (ws := [.methodLink RL 102 yX12_tangles, .instanceMethod yX12_tangles, .selects RX12 yX12_tangles yX12_tangles, .initialized RX12]) [(7, 178), (7, 179), (7, 180), (1, 9)] (by decide +kernel)) (gd_dec (by decide +kernel))) (goodIn_m tffX12_tangles_nul qfX12_tangles_nul)
set_option maxRecDepth 20000 in
theorem glX_seatings : GoodIn lw_tbl (wsV RL 103 RX10 yX10_seatings vfX10_seatings) := goodIn_app (goodIn_m (mem_c (ws := [.methodLink RL 103 yX10_seatings, .instanceMethod yX10_seatings, .selects RX10 yX10_seatings yX10_seatings, .initialized RX10]) [(4, 40), (4, 41), (4, 42), (1, 1)] (by decide +kernel)) (gd_dec (by decide +kernel))) (goodIn_m tffX10_seatings qfX10_seatings)
set_option maxRecDepth 20000 in
theorem glM_seatings : GoodIn lw_tbl (wsV RL 106 RX12 yX12_seatings vfX12_seatings) := goodIn_app (goodIn_m (mem_c (ws := [.methodLink RL 106 yX12_seatings, .instanceMethod yX12_seatings, .selects RX12 yX12_seatings yX12_seatings, .initialized RX12]) [(7, 186), (7, 187), (7, 188), (1, 9)] (by decide +kernel)) (gd_dec (by decide +kernel))) (goodIn_m tffX12_seatings qfX12_seatings)
set_option maxRecDepth 20000 in
theorem glM_seatings_nul : GoodIn lw_tbl (wsV RL 106 RX12 yX12_seatings vfX12_seatings_nul) := goodIn_app (goodIn_m (mem_c (ws := [.methodLink RL 106 yX12_seatings, .instanceMethod yX12_seatings, .selects RX12 yX12_seatings yX12_seatings, .initialized RX12]) [(7, 186), (7, 187), (7, 188), (1, 9)] (by decide +kernel)) (gd_dec (by decide +kernel))) (goodIn_m tffX12_seatings_nul qfX12_seatings_nul)
set_option maxRecDepth 20000 in
theorem glX_seat : GoodIn lw_tbl (wsV RL 107 RX10 yX10_seat vfX10_seat) := goodIn_app (goodIn_m (mem_c (ws := [.methodLink RL 107 yX10_seat, .instanceMethod yX10_seat, .selects RX10 yX10_seat yX10_seat, .initialized RX10]) [(4, 68), (4, 69), (4, 70), (1, 1)] (by decide +kernel)) (gd_dec (by decide +kernel))) (goodIn_m tffX10_seat qfX10_seat)
set_option maxRecDepth 20000 in
theorem glM_seat : GoodIn lw_tbl (wsV RL 110 RX12 yX12_seat vfX12_seat) := goodIn_app (goodIn_m (mem_c (ws := [.methodLink RL 110 yX12_seat, .instanceMethod yX12_seat, .selects RX12 yX12_seat yX12_seat, .initialized RX12]) [(7, 213), (7, 214), (7, 215), (1, 9)] (by decide +kernel)) (gd_dec (by decide +kernel))) (goodIn_m tffX12_seat qfX12_seat)
set_option maxRecDepth 20000 in
theorem glM_seat_nul : GoodIn lw_tbl (wsV RL 110 RX12 yX12_seat vfX12_seat_nul) := goodIn_app (goodIn_m (mem_c (ws := [.methodLink RL 110 yX12_seat, .instanceMethod yX12_seat, .selects RX12 yX12_seat yX12_seat, .initialized RX12]) [(7, 213), (7, 214), (7, 215), (1, 9)] (by decide +kernel)) (gd_dec (by decide +kernel))) (goodIn_m tffX12_seat_nul qfX12_seat_nul)
set_option maxRecDepth 20000 in
theorem glX_mostSeated : GoodIn lw_tbl (wsV RL 111 RX10 yX10_mostSeated vfX10_mostSeated) := goodIn_app (goodIn_m (mem_c (ws := [.methodLink RL 111 yX10_mostSeated, .instanceMethod yX10_mostSeated, .selects RX10 yX10_mostSeated yX10_mostSeated, .initialized RX10]) [(4, 72), (4, 73), (4, 74), (1, 1)] (by decide +kernel)) (gd_dec (by decide +kernel))) (goodIn_m tffX10_mostSeated qfX10_mostSeated)
set_option maxRecDepth 20000 in
theorem glM_mostSeated : GoodIn lw_tbl (wsV RL 114 RX12 yX12_mostSeated vfX12_mostSeated) := goodIn_app (goodIn_m (mem_c (ws := [.methodLink RL 114 yX12_mostSeated, .instanceMethod yX12_mostSeated, .selects RX12 yX12_mostSeated yX12_mostSeated, .initialized RX12]) [(7, 217), (7, 218), (7, 219), (1, 9)] (by decide +kernel)) (gd_dec (by decide +kernel))) (goodIn_m tffX12_mostSeated qfX12_mostSeated)
set_option maxRecDepth 20000 in
theorem glM_mostSeated_nul : GoodIn lw_tbl (wsV RL 114 RX12 yX12_mostSeated vfX12_mostSeated_nul) := goodIn_app (goodIn_m (mem_c (ws := [.methodLink RL 114 yX12_mostSeated, .instanceMethod yX12_mostSeated, .selects RX12 yX12_mostSeated yX12_mostSeated, .initialized RX12]) [(7, 217), (7, 218), (7, 219), (1, 9)] (by decide +kernel)) (gd_dec (by decide +kernel))) (goodIn_m tffX12_mostSeated_nul qfX12_mostSeated_nul)
set_option maxRecDepth 20000 in
theorem glX_darks : GoodIn lw_tbl (wsV RL 115 RX10 yX10_darks vfX10_darks) := goodIn_app (goodIn_m (mem_c (ws := [.methodLink RL 115 yX10_darks, .instanceMethod yX10_darks, .selects RX10 yX10_darks yX10_darks, .initialized RX10]) [(4, 82), (4, 83), (4, 84), (1, 1)] (by decide +kernel)) (gd_dec (by decide +kernel))) (goodIn_m tffX10_darks qfX10_darks)
set_option maxRecDepth 20000 in
theorem glM_darks : GoodIn lw_tbl (wsV RL 118 RX12 yX12_darks vfX12_darks) := goodIn_app (goodIn_m (mem_c (ws := [.methodLink RL 118 yX12_darks, .instanceMethod yX12_darks, .selects RX12 yX12_darks yX12_darks, .initialized RX12]) [(7, 224), (7, 225), (7, 226), (1, 9)] (by decide +kernel)) (gd_dec (by decide +kernel))) (goodIn_m tffX12_darks qfX12_darks)
set_option maxRecDepth 20000 in
theorem glM_darks_nul : GoodIn lw_tbl (wsV RL 118 RX12 yX12_darks vfX12_darks_nul) := goodIn_app (goodIn_m (mem_c (ws := [.methodLink RL 118 yX12_darks, .instanceMethod yX12_darks, .selects RX12 yX12_darks yX12_darks, .initialized RX12]) [(7, 224), (7, 225), (7, 226), (1, 9)] (by decide +kernel)) (gd_dec (by decide +kernel))) (goodIn_m tffX12_darks_nul qfX12_darks_nul)
set_option maxRecDepth 20000 in
theorem glX_darkAt : GoodIn lw_tbl (wsV RL 119 RX10 yX10_darkAt vfX10_darkAt) := goodIn_app (goodIn_m (mem_c (ws := [.methodLink RL 119 yX10_darkAt, .instanceMethod yX10_darkAt, .selects RX10 yX10_darkAt yX10_darkAt, .initialized RX10]) [(4, 106), (4, 107), (4, 108), (1, 1)] (by decide +kernel)) (gd_dec (by decide +kernel))) (goodIn_m tffX10_darkAt qfX10_darkAt)
set_option maxRecDepth 20000 in
theorem glM_darkAt : GoodIn lw_tbl (wsV RL 122 RX12 yX12_darkAt vfX12_darkAt) := goodIn_app (goodIn_m (mem_c (ws := [.methodLink RL 122 yX12_darkAt, .instanceMethod yX12_darkAt, .selects RX12 yX12_darkAt yX12_darkAt, .initialized RX12]) [(8, 4), (8, 5), (8, 6), (1, 9)] (by decide +kernel)) (gd_dec (by decide +kernel))) (goodIn_m tffX12_darkAt qfX12_darkAt)
set_option maxRecDepth 20000 in
theorem glM_darkAt_nul : GoodIn lw_tbl (wsV RL 122 RX12 yX12_darkAt vfX12_darkAt_nul) := goodIn_app (goodIn_m (mem_c (ws := [.methodLink RL 122 yX12_darkAt, .instanceMethod yX12_darkAt, .selects RX12 yX12_darkAt yX12_darkAt, .initialized RX12]) [(8, 4), (8, 5), (8, 6), (1, 9)] (by decide +kernel)) (gd_dec (by decide +kernel))) (goodIn_m tffX12_darkAt_nul qfX12_darkAt_nul)
set_option maxRecDepth 20000 in
theorem glX_darkSpots : GoodIn lw_tbl (wsV RL 123 RX10 yX10_darkSpots vfX10_darkSpots) := goodIn_app (goodIn_m (mem_c (ws := [.methodLink RL 123 yX10_darkSpots, .instanceMethod yX10_darkSpots, .selects RX10 yX10_darkSpots yX10_darkSpots, .initialized RX10]) [(4, 110), (4, 111), (4, 112), (1, 1)] (by decide +kernel)) (gd_dec (by decide +kernel))) (goodIn_m tffX10_darkSpots qfX10_darkSpots)
set_option maxRecDepth 20000 in
theorem glM_darkSpots : GoodIn lw_tbl (wsV RL 126 RX12 yX12_darkSpots vfX12_darkSpots) := goodIn_app (goodIn_m (mem_c (ws := [.methodLink RL 126 yX12_darkSpots, .instanceMethod yX12_darkSpots, .selects RX12 yX12_darkSpots yX12_darkSpots, .initialized RX12]) [(8, 8), (8, 9), (8, 10), (1, 9)] (by decide +kernel)) (gd_dec (by decide +kernel))) (goodIn_m tffX12_darkSpots qfX12_darkSpots)
set_option maxRecDepth 20000 in
theorem glM_darkSpots_nul : GoodIn lw_tbl (wsV RL 126 RX12 yX12_darkSpots vfX12_darkSpots_nul) := goodIn_app (goodIn_m (mem_c (ws := [.methodLink RL 126 yX12_darkSpots, .instanceMethod yX12_darkSpots, .selects RX12 yX12_darkSpots yX12_darkSpots, .initialized RX12]) [(8, 8), (8, 9), (8, 10), (1, 9)] (by decide +kernel)) (gd_dec (by decide +kernel))) (goodIn_m tffX12_darkSpots_nul qfX12_darkSpots_nul)
set_option maxRecDepth 20000 in
theorem glX_ask : GoodIn lw_tbl (wsV RL 127 RX10 yX10_ask vfX10_ask) := goodIn_app (goodIn_m (mem_c (ws := [.methodLink RL 127 yX10_ask, .instanceMethod yX10_ask, .selects RX10 yX10_ask yX10_ask, .initialized RX10]) [(4, 114), (4, 115), (4, 116), (1, 1)] (by decide +kernel)) (gd_dec (by decide +kernel))) (goodIn_m tffX10_ask qfX10_ask)
set_option maxRecDepth 20000 in
theorem glM_ask : GoodIn lw_tbl (wsV RL 130 RX12 yX12_ask vfX12_ask) := goodIn_app (goodIn_m (mem_c (ws := [.methodLink RL 130 yX12_ask, .instanceMethod yX12_ask, .selects RX12 yX12_ask yX12_ask, .initialized RX12]) [(8, 12), (8, 13), (8, 14), (1, 9)] (by decide +kernel)) (gd_dec (by decide +kernel))) (goodIn_m tffX12_ask qfX12_ask)
set_option maxRecDepth 20000 in
theorem glM_ask_nul : GoodIn lw_tbl (wsV RL 130 RX12 yX12_ask vfX12_ask_nul) := goodIn_app (goodIn_m (mem_c (ws := [.methodLink RL 130 yX12_ask, .instanceMethod yX12_ask, .selects RX12 yX12_ask yX12_ask, .initialized RX12]) [(8, 12), (8, 13), (8, 14), (1, 9)] (by decide +kernel)) (gd_dec (by decide +kernel))) (goodIn_m tffX12_ask_nul qfX12_ask_nul)
set_option maxRecDepth 20000 in
theorem glX_askLeaves : GoodIn lw_tbl (wsV RL 131 RX10 yX10_askLeaves vfX10_askLeaves) := goodIn_app (goodIn_m (mem_c (ws := [.methodLink RL 131 yX10_askLeaves, .instanceMethod yX10_askLeaves, .selects RX10 yX10_askLeaves yX10_askLeaves, .initialized RX10]) [(4, 127), (4, 128), (4, 129), (1, 1)] (by decide +kernel)) (gd_dec (by decide +kernel))) (goodIn_m tffX10_askLeaves qfX10_askLeaves)
set_option maxRecDepth 20000 in
theorem glM_askLeaves : GoodIn lw_tbl (wsV RL 134 RX12 yX12_askLeaves vfX12_askLeaves) := goodIn_app (goodIn_m (mem_c (ws := [.methodLink RL 134 yX12_askLeaves, .instanceMethod yX12_askLeaves, .selects RX12 yX12_askLeaves yX12_askLeaves, .initialized RX12]) [(8, 25), (8, 26), (8, 27), (1, 9)] (by decide +kernel)) (gd_dec (by decide +kernel))) (goodIn_m tffX12_askLeaves qfX12_askLeaves)
set_option maxRecDepth 20000 in
theorem glM_askLeaves_nul : GoodIn lw_tbl (wsV RL 134 RX12 yX12_askLeaves vfX12_askLeaves_nul) := goodIn_app (goodIn_m (mem_c (ws := [.methodLink RL 134 yX12_askLeaves, .instanceMethod yX12_askLeaves, .selects RX12 yX12_askLeaves yX12_askLeaves, .initialized RX12]) [(8, 25), (8, 26), (8, 27), (1, 9)] (by decide +kernel)) (gd_dec (by decide +kernel))) (goodIn_m tffX12_askLeaves_nul qfX12_askLeaves_nul)
set_option maxRecDepth 20000 in
theorem glX_judge : GoodIn lw_tbl (wsV RL 135 RX10 yX10_judge vfX10_judge) := goodIn_app (goodIn_m (mem_c (ws := [.methodLink RL 135 yX10_judge, .instanceMethod yX10_judge, .selects RX10 yX10_judge yX10_judge, .initialized RX10]) [(4, 132), (4, 133), (4, 134), (1, 1)] (by decide +kernel)) (gd_dec (by decide +kernel))) (goodIn_m tffX10_judge qfX10_judge)
set_option maxRecDepth 20000 in
theorem glM_judge : GoodIn lw_tbl (wsV RL 138 RX12 yX12_judge vfX12_judge) := goodIn_app (goodIn_m (mem_c (ws := [.methodLink RL 138 yX12_judge, .instanceMethod yX12_judge, .selects RX12 yX12_judge yX12_judge, .initialized RX12]) [(8, 29), (8, 30), (8, 31), (1, 9)] (by decide +kernel)) (gd_dec (by decide +kernel))) (goodIn_m tffX12_judge qfX12_judge)
set_option maxRecDepth 20000 in
theorem glM_judge_nul : GoodIn lw_tbl (wsV RL 138 RX12 yX12_judge vfX12_judge_nul) := goodIn_app (goodIn_m (mem_c (ws := [.methodLink RL 138 yX12_judge, .instanceMethod yX12_judge, .selects RX12 yX12_judge yX12_judge, .initialized RX12]) [(8, 29), (8, 30), (8, 31), (1, 9)] (by decide +kernel)) (gd_dec (by decide +kernel))) (goodIn_m tffX12_judge_nul qfX12_judge_nul)
set_option maxRecDepth 20000 in
theorem glX_worth : GoodIn lw_tbl (wsV RL 139 RX10 yX10_worth vfX10_worth) := goodIn_app (goodIn_m (mem_c (ws := [.methodLink RL 139 yX10_worth, .instanceMethod yX10_worth, .selects RX10 yX10_worth yX10_worth, .initialized RX10]) [(4, 136), (4, 137), (4, 138), (1, 1)] (by decide +kernel)) (gd_dec (by decide +kernel))) (goodIn_m tffX10_worth qfX10_worth)
set_option maxRecDepth 20000 in
theorem glM_worth : GoodIn lw_tbl (wsV RL 142 RX12 yX12_worth vfX12_worth) := goodIn_app (goodIn_m (mem_c (ws := [.methodLink RL 142 yX12_worth, .instanceMethod yX12_worth, .selects RX12 yX12_worth yX12_worth, .initialized RX12]) [(8, 33), (8, 34), (8, 35), (1, 9)] (by decide +kernel)) (gd_dec (by decide +kernel))) (goodIn_m tffX12_worth qfX12_worth)
set_option maxRecDepth 20000 in
theorem glM_worth_nul : GoodIn lw_tbl (wsV RL 142 RX12 yX12_worth vfX12_worth_nul) := goodIn_app (goodIn_m (mem_c (ws := [.methodLink RL 142 yX12_worth, .instanceMethod yX12_worth, .selects RX12 yX12_worth yX12_worth, .initialized RX12]) [(8, 33), (8, 34), (8, 35), (1, 9)] (by decide +kernel)) (gd_dec (by decide +kernel))) (goodIn_m tffX12_worth_nul qfX12_worth_nul)
set_option maxRecDepth 20000 in
theorem glX_load : GoodIn lw_tbl (wsV RL 143 RX10 yX10_load vfX10_load) := goodIn_app (goodIn_m (mem_c (ws := [.methodLink RL 143 yX10_load, .instanceMethod yX10_load, .selects RX10 yX10_load yX10_load, .initialized RX10]) [(4, 141), (4, 142), (4, 143), (1, 1)] (by decide +kernel)) (gd_dec (by decide +kernel))) (goodIn_m tffX10_load qfX10_load)
set_option maxRecDepth 20000 in
theorem glM_load : GoodIn lw_tbl (wsV RL 146 RX12 yX12_load vfX12_load) := goodIn_app (goodIn_m (mem_c (ws := [.methodLink RL 146 yX12_load, .instanceMethod yX12_load, .selects RX12 yX12_load yX12_load, .initialized RX12]) [(8, 37), (8, 38), (8, 39), (1, 9)] (by decide +kernel)) (gd_dec (by decide +kernel))) (goodIn_m tffX12_load qfX12_load)
set_option maxRecDepth 20000 in
theorem glM_load_nul : GoodIn lw_tbl (wsV RL 146 RX12 yX12_load vfX12_load_nul) := goodIn_app (goodIn_m (mem_c (ws := [.methodLink RL 146 yX12_load, .instanceMethod yX12_load, .selects RX12 yX12_load yX12_load, .initialized RX12]) [(8, 37), (8, 38), (8, 39), (1, 9)] (by decide +kernel)) (gd_dec (by decide +kernel))) (goodIn_m tffX12_load_nul qfX12_load_nul)
set_option maxRecDepth 20000 in
theorem glX_loadWorth : GoodIn lw_tbl (wsV RL 147 RX10 yX10_loadWorth vfX10_loadWorth) := goodIn_app (goodIn_m (mem_c (ws := [.methodLink RL 147 yX10_loadWorth, .instanceMethod yX10_loadWorth, .selects RX10 yX10_loadWorth yX10_loadWorth, .initialized RX10]) [(4, 156), (4, 157), (4, 158), (1, 1)] (by decide +kernel)) (gd_dec (by decide +kernel))) (goodIn_m tffX10_loadWorth qfX10_loadWorth)
set_option maxRecDepth 20000 in
theorem glM_loadWorth : GoodIn lw_tbl (wsV RL 150 RX12 yX12_loadWorth vfX12_loadWorth) := goodIn_app (goodIn_m (mem_c (ws := [.methodLink RL 150 yX12_loadWorth, .instanceMethod yX12_loadWorth, .selects RX12 yX12_loadWorth yX12_loadWorth, .initialized RX12]) [(8, 53), (8, 54), (8, 55), (1, 9)] (by decide +kernel)) (gd_dec (by decide +kernel))) (goodIn_m tffX12_loadWorth qfX12_loadWorth)
set_option maxRecDepth 20000 in
theorem glM_loadWorth_nul : GoodIn lw_tbl (wsV RL 150 RX12 yX12_loadWorth vfX12_loadWorth_nul) := goodIn_app (goodIn_m (mem_c (ws := [.methodLink RL 150 yX12_loadWorth, .instanceMethod yX12_loadWorth, .selects RX12 yX12_loadWorth yX12_loadWorth, .initialized RX12]) [(8, 53), (8, 54), (8, 55), (1, 9)] (by decide +kernel)) (gd_dec (by decide +kernel))) (goodIn_m tffX12_loadWorth_nul qfX12_loadWorth_nul)
set_option maxRecDepth 20000 in
theorem glX_bestDay : GoodIn lw_tbl (wsV RL 151 RX10 yX10_bestDay vfX10_bestDay) := goodIn_app (goodIn_m (mem_c (ws := [.methodLink RL 151 yX10_bestDay, .instanceMethod yX10_bestDay, .selects RX10 yX10_bestDay yX10_bestDay, .initialized RX10]) [(4, 161), (4, 162), (4, 163), (1, 1)] (by decide +kernel)) (gd_dec (by decide +kernel))) (goodIn_m tffX10_bestDay qfX10_bestDay)
set_option maxRecDepth 20000 in
theorem glM_bestDay : GoodIn lw_tbl (wsV RL 154 RX12 yX12_bestDay vfX12_bestDay) := goodIn_app (goodIn_m (mem_c (ws := [.methodLink RL 154 yX12_bestDay, .instanceMethod yX12_bestDay, .selects RX12 yX12_bestDay yX12_bestDay, .initialized RX12]) [(8, 57), (8, 58), (8, 59), (1, 9)] (by decide +kernel)) (gd_dec (by decide +kernel))) (goodIn_m tffX12_bestDay qfX12_bestDay)
set_option maxRecDepth 20000 in
theorem glM_bestDay_nul : GoodIn lw_tbl (wsV RL 154 RX12 yX12_bestDay vfX12_bestDay_nul) := goodIn_app (goodIn_m (mem_c (ws := [.methodLink RL 154 yX12_bestDay, .instanceMethod yX12_bestDay, .selects RX12 yX12_bestDay yX12_bestDay, .initialized RX12]) [(8, 57), (8, 58), (8, 59), (1, 9)] (by decide +kernel)) (gd_dec (by decide +kernel))) (goodIn_m tffX12_bestDay_nul qfX12_bestDay_nul)
set_option maxRecDepth 20000 in
theorem glX_hooks : GoodIn lw_tbl (wsV RL 155 RX10 yX10_hooks vfX10_hooks) := goodIn_app (goodIn_m (mem_c (ws := [.methodLink RL 155 yX10_hooks, .instanceMethod yX10_hooks, .selects RX10 yX10_hooks yX10_hooks, .initialized RX10]) [(4, 166), (4, 167), (4, 168), (1, 1)] (by decide +kernel)) (gd_dec (by decide +kernel))) (goodIn_m tffX10_hooks qfX10_hooks)
set_option maxRecDepth 20000 in
theorem glM_hooks : GoodIn lw_tbl (wsV RL 159 RX12 yX12_hooks vfX12_hooks) := goodIn_app (goodIn_m (mem_c (ws := [.methodLink RL 159 yX12_hooks, .instanceMethod yX12_hooks, .selects RX12 yX12_hooks yX12_hooks, .initialized RX12]) [(8, 61), (8, 62), (8, 63), (1, 9)] (by decide +kernel)) (gd_dec (by decide +kernel))) (goodIn_m tffX12_hooks qfX12_hooks)
set_option maxRecDepth 20000 in
theorem glM_hooks_nul : GoodIn lw_tbl (wsV RL 159 RX12 yX12_hooks vfX12_hooks_nul) := goodIn_app (goodIn_m (mem_c (ws := [.methodLink RL 159 yX12_hooks, .instanceMethod yX12_hooks, .selects RX12 yX12_hooks yX12_hooks, .initialized RX12]) [(8, 61), (8, 62), (8, 63), (1, 9)] (by decide +kernel)) (gd_dec (by decide +kernel))) (goodIn_m tffX12_hooks_nul qfX12_hooks_nul)
set_option maxRecDepth 20000 in
theorem glX_lines : GoodIn lw_tbl (wsV RL 160 RX10 yX10_lines vfX10_lines) := goodIn_app (goodIn_m (mem_c (ws := [.methodLink RL 160 yX10_lines, .instanceMethod yX10_lines, .selects RX10 yX10_lines yX10_lines, .initialized RX10]) [(4, 174), (4, 175), (4, 176), (1, 1)] (by decide +kernel)) (gd_dec (by decide +kernel))) (goodIn_m tffX10_lines qfX10_lines)
set_option maxRecDepth 20000 in
theorem glM_lines : GoodIn lw_tbl (wsV RL 164 RX12 yX12_lines vfX12_lines) := goodIn_app (goodIn_m (mem_c (ws := [.methodLink RL 164 yX12_lines, .instanceMethod yX12_lines, .selects RX12 yX12_lines yX12_lines, .initialized RX12]) [(8, 65), (8, 66), (8, 67), (1, 9)] (by decide +kernel)) (gd_dec (by decide +kernel))) (goodIn_m tffX12_lines qfX12_lines)
set_option maxRecDepth 20000 in
theorem glM_lines_nul : GoodIn lw_tbl (wsV RL 164 RX12 yX12_lines vfX12_lines_nul) := goodIn_app (goodIn_m (mem_c (ws := [.methodLink RL 164 yX12_lines, .instanceMethod yX12_lines, .selects RX12 yX12_lines yX12_lines, .initialized RX12]) [(8, 65), (8, 66), (8, 67), (1, 9)] (by decide +kernel)) (gd_dec (by decide +kernel))) (goodIn_m tffX12_lines_nul qfX12_lines_nul)
set_option maxRecDepth 20000 in
theorem glX_rests : GoodIn lw_tbl (wsV RL 165 RX10 yX10_rests vfX10_rests) := goodIn_app (goodIn_m (mem_c (ws := [.methodLink RL 165 yX10_rests, .instanceMethod yX10_rests, .selects RX10 yX10_rests yX10_rests, .initialized RX10]) [(4, 181), (4, 182), (4, 183), (1, 1)] (by decide +kernel)) (gd_dec (by decide +kernel))) (goodIn_m tffX10_rests qfX10_rests)
set_option maxRecDepth 20000 in
theorem glM_rests : GoodIn lw_tbl (wsV RL 168 RX12 yX12_rests vfX12_rests) := goodIn_app (goodIn_m (mem_c (ws := [.methodLink RL 168 yX12_rests, .instanceMethod yX12_rests, .selects RX12 yX12_rests yX12_rests, .initialized RX12]) [(8, 76), (8, 77), (8, 78), (1, 9)] (by decide +kernel)) (gd_dec (by decide +kernel))) (goodIn_m tffX12_rests qfX12_rests)
set_option maxRecDepth 20000 in
theorem glM_rests_nul : GoodIn lw_tbl (wsV RL 168 RX12 yX12_rests vfX12_rests_nul) := goodIn_app (goodIn_m (mem_c (ws := [.methodLink RL 168 yX12_rests, .instanceMethod yX12_rests, .selects RX12 yX12_rests yX12_rests, .initialized RX12]) [(8, 76), (8, 77), (8, 78), (1, 9)] (by decide +kernel)) (gd_dec (by decide +kernel))) (goodIn_m tffX12_rests_nul qfX12_rests_nul)
set_option maxRecDepth 20000 in
theorem glX_rest : GoodIn lw_tbl (wsV RL 169 RX10 yX10_rest vfX10_rest) := goodIn_app (goodIn_m (mem_c (ws := [.methodLink RL 169 yX10_rest, .instanceMethod yX10_rest, .selects RX10 yX10_rest yX10_rest, .initialized RX10]) [(4, 192), (4, 193), (4, 194), (1, 1)] (by decide +kernel)) (gd_dec (by decide +kernel))) (goodIn_m tffX10_rest qfX10_rest)
set_option maxRecDepth 20000 in
theorem glM_rest : GoodIn lw_tbl (wsV RL 172 RX12 yX12_rest vfX12_rest) := goodIn_app (goodIn_m (mem_c (ws := [.methodLink RL 172 yX12_rest, .instanceMethod yX12_rest, .selects RX12 yX12_rest yX12_rest, .initialized RX12]) [(8, 87), (8, 88), (8, 89), (1, 9)] (by decide +kernel)) (gd_dec (by decide +kernel))) (goodIn_m tffX12_rest qfX12_rest)
set_option maxRecDepth 20000 in
theorem glM_rest_nul : GoodIn lw_tbl (wsV RL 172 RX12 yX12_rest vfX12_rest_nul) := goodIn_app (goodIn_m (mem_c (ws := [.methodLink RL 172 yX12_rest, .instanceMethod yX12_rest, .selects RX12 yX12_rest yX12_rest, .initialized RX12]) [(8, 87), (8, 88), (8, 89), (1, 9)] (by decide +kernel)) (gd_dec (by decide +kernel))) (goodIn_m tffX12_rest_nul qfX12_rest_nul)
set_option maxRecDepth 20000 in
theorem glX_landed : GoodIn lw_tbl (wsV RL 173 RX10 yX10_landed vfX10_landed) := goodIn_app (goodIn_m (mem_c (ws := [.methodLink RL 173 yX10_landed, .instanceMethod yX10_landed, .selects RX10 yX10_landed yX10_landed, .initialized RX10]) [(4, 196), (4, 197), (4, 198), (1, 1)] (by decide +kernel)) (gd_dec (by decide +kernel))) (goodIn_m tffX10_landed qfX10_landed)
set_option maxRecDepth 20000 in
theorem glM_landed : GoodIn lw_tbl (wsV RL 176 RX12 yX12_landed vfX12_landed) := goodIn_app (goodIn_m (mem_c (ws := [.methodLink RL 176 yX12_landed, .instanceMethod yX12_landed, .selects RX12 yX12_landed yX12_landed, .initialized RX12]) [(8, 91), (8, 92), (8, 93), (1, 9)] (by decide +kernel)) (gd_dec (by decide +kernel))) (goodIn_m tffX12_landed qfX12_landed)
set_option maxRecDepth 20000 in
theorem glM_landed_nul : GoodIn lw_tbl (wsV RL 176 RX12 yX12_landed vfX12_landed_nul) := goodIn_app (goodIn_m (mem_c (ws := [.methodLink RL 176 yX12_landed, .instanceMethod yX12_landed, .selects RX12 yX12_landed yX12_landed, .initialized RX12]) [(8, 91), (8, 92), (8, 93), (1, 9)] (by decide +kernel)) (gd_dec (by decide +kernel))) (goodIn_m tffX12_landed_nul qfX12_landed_nul)
set_option maxRecDepth 20000 in
theorem glX_landedIn : GoodIn lw_tbl (wsV RL 177 RX10 yX10_landedIn vfX10_landedIn) := goodIn_app (goodIn_m (mem_c (ws := [.methodLink RL 177 yX10_landedIn, .instanceMethod yX10_landedIn, .selects RX10 yX10_landedIn yX10_landedIn, .initialized RX10]) [(5, 10), (5, 11), (5, 12), (1, 1)] (by decide +kernel)) (gd_dec (by decide +kernel))) (goodIn_m tffX10_landedIn qfX10_landedIn)
set_option maxRecDepth 20000 in
theorem glM_landedIn : GoodIn lw_tbl (wsV RL 180 RX12 yX12_landedIn vfX12_landedIn) := goodIn_app (goodIn_m (mem_c (ws := [.methodLink RL 180 yX12_landedIn, .instanceMethod yX12_landedIn, .selects RX12 yX12_landedIn yX12_landedIn, .initialized RX12]) [(8, 119), (8, 120), (8, 121), (1, 9)] (by decide +kernel)) (gd_dec (by decide +kernel))) (goodIn_m tffX12_landedIn qfX12_landedIn)
set_option maxRecDepth 20000 in
theorem glM_landedIn_nul : GoodIn lw_tbl (wsV RL 180 RX12 yX12_landedIn vfX12_landedIn_nul) := goodIn_app (goodIn_m (mem_c (ws := [.methodLink RL 180 yX12_landedIn, .instanceMethod yX12_landedIn, .selects RX12 yX12_landedIn yX12_landedIn, .initialized RX12]) [(8, 119), (8, 120), (8, 121), (1, 9)] (by decide +kernel)) (gd_dec (by decide +kernel))) (goodIn_m tffX12_landedIn_nul qfX12_landedIn_nul)
set_option maxRecDepth 20000 in
theorem glX_crabs : GoodIn lw_tbl (wsV RL 181 RX10 yX10_crabs vfX10_crabs) := goodIn_app (goodIn_m (mem_c (ws := [.methodLink RL 181 yX10_crabs, .instanceMethod yX10_crabs, .selects RX10 yX10_crabs yX10_crabs, .initialized RX10]) [(5, 14), (5, 15), (5, 16), (1, 1)] (by decide +kernel)) (gd_dec (by decide +kernel))) (goodIn_m tffX10_crabs qfX10_crabs)
set_option maxRecDepth 20000 in
theorem glM_crabs : GoodIn lw_tbl (wsV RL 184 RX12 yX12_crabs vfX12_crabs) := goodIn_app (goodIn_m (mem_c (ws := [.methodLink RL 184 yX12_crabs, .instanceMethod yX12_crabs, .selects RX12 yX12_crabs yX12_crabs, .initialized RX12]) [(8, 123), (8, 124), (8, 125), (1, 9)] (by decide +kernel)) (gd_dec (by decide +kernel))) (goodIn_m tffX12_crabs qfX12_crabs)
set_option maxRecDepth 20000 in
theorem glM_crabs_nul : GoodIn lw_tbl (wsV RL 184 RX12 yX12_crabs vfX12_crabs_nul) := goodIn_app (goodIn_m (mem_c (ws := [.methodLink RL 184 yX12_crabs, .instanceMethod yX12_crabs, .selects RX12 yX12_crabs yX12_crabs, .initialized RX12]) [(8, 123), (8, 124), (8, 125), (1, 9)] (by decide +kernel)) (gd_dec (by decide +kernel))) (goodIn_m tffX12_crabs_nul qfX12_crabs_nul)
set_option maxRecDepth 20000 in
theorem glX_let : GoodIn lw_tbl (wsV RL 185 RX10 yX10_let vfX10_let) := goodIn_app (goodIn_m (mem_c (ws := [.methodLink RL 185 yX10_let, .instanceMethod yX10_let, .selects RX10 yX10_let yX10_let, .initialized RX10]) [(5, 18), (5, 19), (5, 20), (1, 1)] (by decide +kernel)) (gd_dec (by decide +kernel))) (goodIn_m tffX10_let qfX10_let)
set_option maxRecDepth 20000 in
theorem glM_let : GoodIn lw_tbl (wsV RL 189 RX12 yX12_let vfX12_let) := goodIn_app (goodIn_m (mem_c (ws := [.methodLink RL 189 yX12_let, .instanceMethod yX12_let, .selects RX12 yX12_let yX12_let, .initialized RX12]) [(8, 127), (8, 128), (8, 129), (1, 9)] (by decide +kernel)) (gd_dec (by decide +kernel))) (goodIn_m tffX12_let qfX12_let)
set_option maxRecDepth 20000 in
theorem glM_let_nul : GoodIn lw_tbl (wsV RL 189 RX12 yX12_let vfX12_let_nul) := goodIn_app (goodIn_m (mem_c (ws := [.methodLink RL 189 yX12_let, .instanceMethod yX12_let, .selects RX12 yX12_let yX12_let, .initialized RX12]) [(8, 127), (8, 128), (8, 129), (1, 9)] (by decide +kernel)) (gd_dec (by decide +kernel))) (goodIn_m tffX12_let_nul qfX12_let_nul)
set_option maxRecDepth 20000 in
theorem glX_drawIn : GoodIn lw_tbl (wsV RL 190 RX10 yX10_drawIn vfX10_drawIn) := goodIn_app (goodIn_m (mem_c (ws := [.methodLink RL 190 yX10_drawIn, .instanceMethod yX10_drawIn, .selects RX10 yX10_drawIn yX10_drawIn, .initialized RX10]) [(5, 31), (5, 32), (5, 33), (1, 1)] (by decide +kernel)) (gd_dec (by decide +kernel))) (goodIn_m tffX10_drawIn qfX10_drawIn)
set_option maxRecDepth 20000 in
theorem glM_drawIn : GoodIn lw_tbl (wsV RL 194 RX12 yX12_drawIn vfX12_drawIn) := goodIn_app (goodIn_m (mem_c (ws := [.methodLink RL 194 yX12_drawIn, .instanceMethod yX12_drawIn, .selects RX12 yX12_drawIn yX12_drawIn, .initialized RX12]) [(8, 143), (8, 144), (8, 145), (1, 9)] (by decide +kernel)) (gd_dec (by decide +kernel))) (goodIn_m tffX12_drawIn qfX12_drawIn)
set_option maxRecDepth 20000 in
theorem glM_drawIn_nul : GoodIn lw_tbl (wsV RL 194 RX12 yX12_drawIn vfX12_drawIn_nul) := goodIn_app (goodIn_m (mem_c (ws := [.methodLink RL 194 yX12_drawIn, .instanceMethod yX12_drawIn, .selects RX12 yX12_drawIn yX12_drawIn, .initialized RX12]) [(8, 143), (8, 144), (8, 145), (1, 9)] (by decide +kernel)) (gd_dec (by decide +kernel))) (goodIn_m tffX12_drawIn_nul qfX12_drawIn_nul)
set_option maxRecDepth 20000 in
theorem glX_sell : GoodIn lw_tbl (wsV RL 195 RX10 yX10_sell vfX10_sell) := goodIn_app (goodIn_m (mem_c (ws := [.methodLink RL 195 yX10_sell, .instanceMethod yX10_sell, .selects RX10 yX10_sell yX10_sell, .initialized RX10]) [(5, 35), (5, 36), (5, 37), (1, 1)] (by decide +kernel)) (gd_dec (by decide +kernel))) (goodIn_m tffX10_sell qfX10_sell)
set_option maxRecDepth 20000 in
theorem glM_sell : GoodIn lw_tbl (wsV RL 198 RX12 yX12_sell vfX12_sell) := goodIn_app (goodIn_m (mem_c (ws := [.methodLink RL 198 yX12_sell, .instanceMethod yX12_sell, .selects RX12 yX12_sell yX12_sell, .initialized RX12]) [(8, 147), (8, 148), (8, 149), (1, 9)] (by decide +kernel)) (gd_dec (by decide +kernel))) (goodIn_m tffX12_sell qfX12_sell)
set_option maxRecDepth 20000 in
theorem glM_sell_nul : GoodIn lw_tbl (wsV RL 198 RX12 yX12_sell vfX12_sell_nul) := goodIn_app (goodIn_m (mem_c (ws := [.methodLink RL 198 yX12_sell, .instanceMethod yX12_sell, .selects RX12 yX12_sell yX12_sell, .initialized RX12]) [(8, 147), (8, 148), (8, 149), (1, 9)] (by decide +kernel)) (gd_dec (by decide +kernel))) (goodIn_m tffX12_sell_nul qfX12_sell_nul)
set_option maxRecDepth 20000 in
theorem glX_day : GoodIn lw_tbl (wsV RL 199 RX10 yX10_day vfX10_day) := goodIn_app (goodIn_m (mem_c (ws := [.methodLink RL 199 yX10_day, .instanceMethod yX10_day, .selects RX10 yX10_day yX10_day, .initialized RX10]) [(5, 39), (5, 40), (5, 41), (1, 1)] (by decide +kernel)) (gd_dec (by decide +kernel))) (goodIn_m tffX10_day qfX10_day)
set_option maxRecDepth 20000 in
theorem glM_day : GoodIn lw_tbl (wsV RL 202 RX12 yX12_day vfX12_day) := goodIn_app (goodIn_m (mem_c (ws := [.methodLink RL 202 yX12_day, .instanceMethod yX12_day, .selects RX12 yX12_day yX12_day, .initialized RX12]) [(8, 151), (8, 152), (8, 153), (1, 9)] (by decide +kernel)) (gd_dec (by decide +kernel))) (goodIn_m tffX12_day qfX12_day)
set_option maxRecDepth 20000 in
theorem glM_day_nul : GoodIn lw_tbl (wsV RL 202 RX12 yX12_day vfX12_day_nul) := goodIn_app (goodIn_m (mem_c (ws := [.methodLink RL 202 yX12_day, .instanceMethod yX12_day, .selects RX12 yX12_day yX12_day, .initialized RX12]) [(8, 151), (8, 152), (8, 153), (1, 9)] (by decide +kernel)) (gd_dec (by decide +kernel))) (goodIn_m tffX12_day_nul qfX12_day_nul)
set_option maxRecDepth 20000 in
theorem glX_seed : GoodIn lw_tbl (wsV RL 203 RX10 yX10_seed vfX10_seed) := goodIn_app (goodIn_m (mem_c (ws := [.methodLink RL 203 yX10_seed, .instanceMethod yX10_seed, .selects RX10 yX10_seed yX10_seed, .initialized RX10]) [(5, 44), (5, 45), (5, 46), (1, 1)] (by decide +kernel)) (gd_dec (by decide +kernel))) (goodIn_m tffX10_seed qfX10_seed)
set_option maxRecDepth 20000 in
theorem glM_seed : GoodIn lw_tbl (wsV RL 206 RX12 yX12_seed vfX12_seed) := goodIn_app (goodIn_m (mem_c (ws := [.methodLink RL 206 yX12_seed, .instanceMethod yX12_seed, .selects RX12 yX12_seed yX12_seed, .initialized RX12]) [(8, 155), (8, 156), (8, 157), (1, 9)] (by decide +kernel)) (gd_dec (by decide +kernel))) (goodIn_m tffX12_seed qfX12_seed)
set_option maxRecDepth 20000 in
theorem glM_seed_nul : GoodIn lw_tbl (wsV RL 206 RX12 yX12_seed vfX12_seed_nul) := goodIn_app (goodIn_m (mem_c (ws := [.methodLink RL 206 yX12_seed, .instanceMethod yX12_seed, .selects RX12 yX12_seed yX12_seed, .initialized RX12]) [(8, 155), (8, 156), (8, 157), (1, 9)] (by decide +kernel)) (gd_dec (by decide +kernel))) (goodIn_m tffX12_seed_nul qfX12_seed_nul)
set_option maxRecDepth 20000 in
theorem glX_undo : GoodIn lw_tbl (wsV RL 207 RX10 yX10_undo vfX10_undo) := goodIn_app (goodIn_m (mem_c (ws := [.methodLink RL 207 yX10_undo, .instanceMethod yX10_undo, .selects RX10 yX10_undo yX10_undo, .initialized RX10]) [(5, 48), (5, 49), (5, 50), (1, 1)] (by decide +kernel)) (gd_dec (by decide +kernel))) (goodIn_m tffX10_undo qfX10_undo)
set_option maxRecDepth 20000 in
theorem glM_undo : GoodIn lw_tbl (wsV RL 211 RX12 yX12_undo vfX12_undo) := goodIn_app (goodIn_m (mem_c (ws := [.methodLink RL 211 yX12_undo, .instanceMethod yX12_undo, .selects RX12 yX12_undo yX12_undo, .initialized RX12]) [(8, 159), (8, 160), (8, 161), (1, 9)] (by decide +kernel)) (gd_dec (by decide +kernel))) (goodIn_m tffX12_undo qfX12_undo)
set_option maxRecDepth 20000 in
theorem glM_undo_nul : GoodIn lw_tbl (wsV RL 211 RX12 yX12_undo vfX12_undo_nul) := goodIn_app (goodIn_m (mem_c (ws := [.methodLink RL 211 yX12_undo, .instanceMethod yX12_undo, .selects RX12 yX12_undo yX12_undo, .initialized RX12]) [(8, 159), (8, 160), (8, 161), (1, 9)] (by decide +kernel)) (gd_dec (by decide +kernel))) (goodIn_m tffX12_undo_nul qfX12_undo_nul)
set_option maxRecDepth 20000 in
theorem glX_mark : GoodIn lw_tbl (wsV RL 212 RX10 yX10_mark vfX10_mark) := goodIn_app (goodIn_m (mem_c (ws := [.methodLink RL 212 yX10_mark, .instanceMethod yX10_mark, .selects RX10 yX10_mark yX10_mark, .initialized RX10]) [(5, 56), (5, 57), (5, 58), (1, 1)] (by decide +kernel)) (gd_dec (by decide +kernel))) (goodIn_m tffX10_mark qfX10_mark)
set_option maxRecDepth 20000 in
theorem glM_mark : GoodIn lw_tbl (wsV RL 215 RX12 yX12_mark vfX12_mark) := goodIn_app (goodIn_m (mem_c (ws := [.methodLink RL 215 yX12_mark, .instanceMethod yX12_mark, .selects RX12 yX12_mark yX12_mark, .initialized RX12]) [(8, 163), (8, 164), (8, 165), (1, 9)] (by decide +kernel)) (gd_dec (by decide +kernel))) (goodIn_m tffX12_mark qfX12_mark)
set_option maxRecDepth 20000 in
theorem glM_mark_nul : GoodIn lw_tbl (wsV RL 215 RX12 yX12_mark vfX12_mark_nul) := goodIn_app (goodIn_m (mem_c (ws := [.methodLink RL 215 yX12_mark, .instanceMethod yX12_mark, .selects RX12 yX12_mark yX12_mark, .initialized RX12]) [(8, 163), (8, 164), (8, 165), (1, 9)] (by decide +kernel)) (gd_dec (by decide +kernel))) (goodIn_m tffX12_mark_nul qfX12_mark_nul)
set_option maxRecDepth 20000 in
theorem glX_back : GoodIn lw_tbl (wsV RL 216 RX10 yX10_back vfX10_back) := goodIn_app (goodIn_m (mem_c (ws := [.methodLink RL 216 yX10_back, .instanceMethod yX10_back, .selects RX10 yX10_back yX10_back, .initialized RX10]) [(5, 64), (5, 65), (5, 66), (1, 1)] (by decide +kernel)) (gd_dec (by decide +kernel))) (goodIn_m tffX10_back qfX10_back)
set_option maxRecDepth 20000 in
theorem glM_back : GoodIn lw_tbl (wsV RL 219 RX12 yX12_back vfX12_back) := goodIn_app (goodIn_m (mem_c (ws := [.methodLink RL 219 yX12_back, .instanceMethod yX12_back, .selects RX12 yX12_back yX12_back, .initialized RX12]) [(8, 167), (8, 168), (8, 169), (1, 9)] (by decide +kernel)) (gd_dec (by decide +kernel))) (goodIn_m tffX12_back qfX12_back)
set_option maxRecDepth 20000 in
theorem glM_back_nul : GoodIn lw_tbl (wsV RL 219 RX12 yX12_back vfX12_back_nul) := goodIn_app (goodIn_m (mem_c (ws := [.methodLink RL 219 yX12_back, .instanceMethod yX12_back, .selects RX12 yX12_back yX12_back, .initialized RX12]) [(8, 167), (8, 168), (8, 169), (1, 9)] (by decide +kernel)) (gd_dec (by decide +kernel))) (goodIn_m tffX12_back_nul qfX12_back_nul)
set_option maxRecDepth 20000 in
theorem glM_led : GoodIn lw_tbl (wsV RL 225 RX12 yX12_led vfX12_led) := goodIn_app (goodIn_m (mem_c (ws := [.methodLink RL 225 yX12_led, .instanceMethod yX12_led, .selects RX12 yX12_led yX12_led, .initialized RX12]) [(8, 171), (8, 172), (8, 173), (1, 9)] (by decide +kernel)) (gd_dec (by decide +kernel))) (goodIn_m tffX12_led qfX12_led)
set_option maxRecDepth 20000 in
theorem glM_led_nul : GoodIn lw_tbl (wsV RL 225 RX12 yX12_led vfX12_led_nul) := goodIn_app (goodIn_m (mem_c (ws := [.methodLink RL 225 yX12_led, .instanceMethod yX12_led, .selects RX12 yX12_led yX12_led, .initialized RX12]) [(8, 171), (8, 172), (8, 173), (1, 9)] (by decide +kernel)) (gd_dec (by decide +kernel))) (goodIn_m tffX12_led_nul qfX12_led_nul)
set_option maxRecDepth 20000 in
theorem glX_size : GoodIn lw_tbl (wsV RL 226 RX10 yX10_size vfX10_size) := goodIn_app (goodIn_m (mem_c (ws := [.methodLink RL 226 yX10_size, .instanceMethod yX10_size, .selects RX10 yX10_size yX10_size, .initialized RX10]) [(5, 73), (5, 74), (5, 75), (1, 1)] (by decide +kernel)) (gd_dec (by decide +kernel))) (goodIn_m tffX10_size qfX10_size)
set_option maxRecDepth 20000 in
theorem glM_size : GoodIn lw_tbl (wsV RL 229 RX12 yX12_size vfX12_size) := goodIn_app (goodIn_m (mem_c (ws := [.methodLink RL 229 yX12_size, .instanceMethod yX12_size, .selects RX12 yX12_size yX12_size, .initialized RX12]) [(8, 175), (8, 176), (8, 177), (1, 9)] (by decide +kernel)) (gd_dec (by decide +kernel))) (goodIn_m tffX12_size qfX12_size)
set_option maxRecDepth 20000 in
theorem glM_size_nul : GoodIn lw_tbl (wsV RL 229 RX12 yX12_size vfX12_size_nul) := goodIn_app (goodIn_m (mem_c (ws := [.methodLink RL 229 yX12_size, .instanceMethod yX12_size, .selects RX12 yX12_size yX12_size, .initialized RX12]) [(8, 175), (8, 176), (8, 177), (1, 9)] (by decide +kernel)) (gd_dec (by decide +kernel))) (goodIn_m tffX12_size_nul qfX12_size_nul)
set_option maxRecDepth 20000 in
theorem glX_trouble : GoodIn lw_tbl (wsV RL 230 RX10 yX10_trouble vfX10_trouble) := goodIn_app (goodIn_m (mem_c (ws := [.methodLink RL 230 yX10_trouble, .instanceMethod yX10_trouble, .selects RX10 yX10_trouble yX10_trouble, .initialized RX10]) [(5, 77), (5, 78), (5, 79), (1, 1)] (by decide +kernel)) (gd_dec (by decide +kernel))) (goodIn_m tffX10_trouble qfX10_trouble)
set_option maxRecDepth 20000 in
theorem glM_trouble : GoodIn lw_tbl (wsV RL 233 RX12 yX12_trouble vfX12_trouble) := goodIn_app (goodIn_m (mem_c (ws := [.methodLink RL 233 yX12_trouble, .instanceMethod yX12_trouble, .selects RX12 yX12_trouble yX12_trouble, .initialized RX12]) [(8, 179), (8, 180), (8, 181), (1, 9)] (by decide +kernel)) (gd_dec (by decide +kernel))) (goodIn_m tffX12_trouble qfX12_trouble)

set_option maxRecDepth 20000 in
theorem glX_feed : GoodIn lw_tbl (wsV RL 19 RX10 yX10_feed vfX10_feed) := goodIn_app (goodIn_r [.methodLink RL 19 yX10_feed, .instanceMethod yX10_feed, .selects RX10 yX10_feed yX10_feed, .initialized RX10] [454, 455, 456, 106] (by decide +kernel) (by decide +kernel)) (goodIn_m tffX10_feed qfX10_feed)
set_option maxRecDepth 20000 in
theorem glM_feed : GoodIn lw_tbl (wsV RL 23 RX12 yX12_feed vfX12_feed) := goodIn_app (goodIn_r [.methodLink RL 23 yX12_feed, .instanceMethod yX12_feed, .selects RX12 yX12_feed yX12_feed, .initialized RX12] [1316, 1317, 1318, 114] (by decide +kernel) (by decide +kernel)) (goodIn_m tffX12_feed qfX12_feed)
set_option maxRecDepth 20000 in
theorem glX_pier : GoodIn lw_tbl (wsV RL 24 RX10 yX10_pier vfX10_pier) := goodIn_app (goodIn_r [.methodLink RL 24 yX10_pier, .instanceMethod yX10_pier, .selects RX10 yX10_pier yX10_pier, .initialized RX10] [462, 463, 464, 106] (by decide +kernel) (by decide +kernel)) (goodIn_m tffX10_pier qfX10_pier)
set_option maxRecDepth 20000 in
theorem glM_pier_r : GoodIn lw_tbl (wsV RL 27 RX12 yX12_pier vfX12_pier_r) := goodIn_app (goodIn_r [.methodLink RL 27 yX12_pier, .instanceMethod yX12_pier, .selects RX12 yX12_pier yX12_pier, .initialized RX12] [1320, 1321, 1322, 114] (by decide +kernel) (by decide +kernel)) (goodIn_m tffX12_pier_r qfX12_pier_r)
set_option maxRecDepth 20000 in
theorem glM_pier_f : GoodIn lw_tbl (wsV RL 27 RX12 yX12_pier vfX12_pier_f) := goodIn_app (goodIn_r [.methodLink RL 27 yX12_pier, .instanceMethod yX12_pier, .selects RX12 yX12_pier yX12_pier, .initialized RX12] [1320, 1321, 1322, 114] (by decide +kernel) (by decide +kernel)) (goodIn_m tffX12_pier_f qfX12_pier_f)
set_option maxRecDepth 20000 in
theorem glM_pier_o : GoodIn lw_tbl (wsV RL 27 RX12 yX12_pier vfX12_pier_o) := goodIn_app (goodIn_r [.methodLink RL 27 yX12_pier, .instanceMethod yX12_pier, .selects RX12 yX12_pier yX12_pier, .initialized RX12] [1320, 1321, 1322, 114] (by decide +kernel) (by decide +kernel)) (goodIn_m tffX12_pier_o qfX12_pier_o)
set_option maxRecDepth 20000 in
theorem glX_fault : GoodIn lw_tbl (wsV RL 28 RX10 yX10_fault vfX10_fault) := goodIn_app (goodIn_r [.methodLink RL 28 yX10_fault, .instanceMethod yX10_fault, .selects RX10 yX10_fault yX10_fault, .initialized RX10] [657, 658, 659, 106] (by decide +kernel) (by decide +kernel)) (goodIn_m tffX10_fault qfX10_fault)
set_option maxRecDepth 20000 in
theorem glM_fault : GoodIn lw_tbl (wsV RL 32 RX12 yX12_fault vfX12_fault) := goodIn_app (goodIn_r [.methodLink RL 32 yX12_fault, .instanceMethod yX12_fault, .selects RX12 yX12_fault yX12_fault, .initialized RX12] [1559, 1560, 1561, 114] (by decide +kernel) (by decide +kernel)) (goodIn_m tffX12_fault qfX12_fault)
set_option maxRecDepth 20000 in
theorem glX_where : GoodIn lw_tbl (wsV RL 33 RX10 yX10_where vfX10_where) := goodIn_app (goodIn_r [.methodLink RL 33 yX10_where, .instanceMethod yX10_where, .selects RX10 yX10_where yX10_where, .initialized RX10] [661, 662, 663, 106] (by decide +kernel) (by decide +kernel)) (goodIn_m tffX10_where qfX10_where)
set_option maxRecDepth 20000 in
theorem glM_where : GoodIn lw_tbl (wsV RL 36 RX12 yX12_where vfX12_where) := goodIn_app (goodIn_r [.methodLink RL 36 yX12_where, .instanceMethod yX12_where, .selects RX12 yX12_where yX12_where, .initialized RX12] [1563, 1564, 1565, 114] (by decide +kernel) (by decide +kernel)) (goodIn_m tffX12_where qfX12_where)
set_option maxRecDepth 20000 in
theorem glX_answer : GoodIn lw_tbl (wsV RL 37 RX10 yX10_answer vfX10_answer) := goodIn_app (goodIn_r [.methodLink RL 37 yX10_answer, .instanceMethod yX10_answer, .selects RX10 yX10_answer yX10_answer, .initialized RX10] [665, 666, 667, 106] (by decide +kernel) (by decide +kernel)) (goodIn_m tffX10_answer qfX10_answer)
set_option maxRecDepth 20000 in
theorem glM_answer : GoodIn lw_tbl (wsV RL 41 RX12 yX12_answer vfX12_answer) := goodIn_app (goodIn_r [.methodLink RL 41 yX12_answer, .instanceMethod yX12_answer, .selects RX12 yX12_answer yX12_answer, .initialized RX12] [1567, 1568, 1569, 114] (by decide +kernel) (by decide +kernel)) (goodIn_m tffX12_answer qfX12_answer)
set_option maxRecDepth 20000 in
theorem glM_answer_nul : GoodIn lw_tbl (wsV RL 41 RX12 yX12_answer vfX12_answer_nul) := goodIn_app (goodIn_r [.methodLink RL 41 yX12_answer, .instanceMethod yX12_answer, .selects RX12 yX12_answer yX12_answer, .initialized RX12] [1567, 1568, 1569, 114] (by decide +kernel) (by decide +kernel)) (goodIn_m tffX12_answer_nul qfX12_answer_nul)
set_option maxRecDepth 20000 in
theorem glX_asker : GoodIn lw_tbl (wsV RL 42 RX10 yX10_asker vfX10_asker) := goodIn_app (goodIn_r [.methodLink RL 42 yX10_asker, .instanceMethod yX10_asker, .selects RX10 yX10_asker yX10_asker, .initialized RX10] [689, 690, 691, 106] (by decide +kernel) (by decide +kernel)) (goodIn_m tffX10_asker qfX10_asker)
set_option maxRecDepth 20000 in
theorem glM_asker : GoodIn lw_tbl (wsV RL 45 RX12 yX12_asker vfX12_asker) := goodIn_app (goodIn_r [.methodLink RL 45 yX12_asker, .instanceMethod yX12_asker, .selects RX12 yX12_asker yX12_asker, .initialized RX12] [1579, 1580, 1581, 114] (by decide +kernel) (by decide +kernel)) (goodIn_m tffX12_asker qfX12_asker)
set_option maxRecDepth 20000 in
theorem glM_asker_nul : GoodIn lw_tbl (wsV RL 45 RX12 yX12_asker vfX12_asker_nul) := goodIn_app (goodIn_r [.methodLink RL 45 yX12_asker, .instanceMethod yX12_asker, .selects RX12 yX12_asker yX12_asker, .initialized RX12] [1579, 1580, 1581, 114] (by decide +kernel) (by decide +kernel)) (goodIn_m tffX12_asker_nul qfX12_asker_nul)
set_option maxRecDepth 20000 in
theorem glX_close : GoodIn lw_tbl (wsV RL 46 RX10 yX10_close vfX10_close) := goodIn_app (goodIn_r [.methodLink RL 46 yX10_close, .instanceMethod yX10_close, .selects RX10 yX10_close yX10_close, .initialized RX10] [726, 727, 728, 106] (by decide +kernel) (by decide +kernel)) (goodIn_m tffX10_close qfX10_close)
set_option maxRecDepth 20000 in
theorem glM_close : GoodIn lw_tbl (wsV RL 49 RX12 yX12_close vfX12_close) := goodIn_app (goodIn_r [.methodLink RL 49 yX12_close, .instanceMethod yX12_close, .selects RX12 yX12_close yX12_close, .initialized RX12] [1610, 1611, 1612, 114] (by decide +kernel) (by decide +kernel)) (goodIn_m tffX12_close qfX12_close)
set_option maxRecDepth 20000 in
theorem glM_close_nul : GoodIn lw_tbl (wsV RL 49 RX12 yX12_close vfX12_close_nul) := goodIn_app (goodIn_r [.methodLink RL 49 yX12_close, .instanceMethod yX12_close, .selects RX12 yX12_close yX12_close, .initialized RX12] [1610, 1611, 1612, 114] (by decide +kernel) (by decide +kernel)) (goodIn_m tffX12_close_nul qfX12_close_nul)
set_option maxRecDepth 20000 in
theorem glX_wish : GoodIn lw_tbl (wsV RL 50 RX10 yX10_wish vfX10_wish) := goodIn_app (goodIn_r [.methodLink RL 50 yX10_wish, .instanceMethod yX10_wish, .selects RX10 yX10_wish yX10_wish, .initialized RX10] [742, 743, 744, 106] (by decide +kernel) (by decide +kernel)) (goodIn_m tffX10_wish qfX10_wish)
set_option maxRecDepth 20000 in
theorem glM_wish : GoodIn lw_tbl (wsV RL 54 RX12 yX12_wish vfX12_wish) := goodIn_app (goodIn_r [.methodLink RL 54 yX12_wish, .instanceMethod yX12_wish, .selects RX12 yX12_wish yX12_wish, .initialized RX12] [1618, 1619, 1620, 114] (by decide +kernel) (by decide +kernel)) (goodIn_m tffX12_wish qfX12_wish)
set_option maxRecDepth 20000 in
theorem glM_wish_nul : GoodIn lw_tbl (wsV RL 54 RX12 yX12_wish vfX12_wish_nul) := goodIn_app (goodIn_r [.methodLink RL 54 yX12_wish, .instanceMethod yX12_wish, .selects RX12 yX12_wish yX12_wish, .initialized RX12] [1618, 1619, 1620, 114] (by decide +kernel) (by decide +kernel)) (goodIn_m tffX12_wish_nul qfX12_wish_nul)
set_option maxRecDepth 20000 in
theorem glX_takes : GoodIn lw_tbl (wsV RL 55 RX10 yX10_takes vfX10_takes) := goodIn_app (goodIn_r [.methodLink RL 55 yX10_takes, .instanceMethod yX10_takes, .selects RX10 yX10_takes yX10_takes, .initialized RX10] [774, 775, 776, 106] (by decide +kernel) (by decide +kernel)) (goodIn_m tffX10_takes qfX10_takes)
set_option maxRecDepth 20000 in
theorem glM_takes : GoodIn lw_tbl (wsV RL 59 RX12 yX12_takes vfX12_takes) := goodIn_app (goodIn_r [.methodLink RL 59 yX12_takes, .instanceMethod yX12_takes, .selects RX12 yX12_takes yX12_takes, .initialized RX12] [1638, 1639, 1640, 114] (by decide +kernel) (by decide +kernel)) (goodIn_m tffX12_takes qfX12_takes)
set_option maxRecDepth 20000 in
theorem glM_takes_nul : GoodIn lw_tbl (wsV RL 59 RX12 yX12_takes vfX12_takes_nul) := goodIn_app (goodIn_r [.methodLink RL 59 yX12_takes, .instanceMethod yX12_takes, .selects RX12 yX12_takes yX12_takes, .initialized RX12] [1638, 1639, 1640, 114] (by decide +kernel) (by decide +kernel)) (goodIn_m tffX12_takes_nul qfX12_takes_nul)
set_option maxRecDepth 20000 in
theorem glX_nothing : GoodIn lw_tbl (wsV RL 60 RX10 yX10_nothing vfX10_nothing) := goodIn_app (goodIn_r [.methodLink RL 60 yX10_nothing, .instanceMethod yX10_nothing, .selects RX10 yX10_nothing yX10_nothing, .initialized RX10] [791, 792, 793, 106] (by decide +kernel) (by decide +kernel)) (goodIn_m tffX10_nothing qfX10_nothing)
set_option maxRecDepth 20000 in
theorem glM_nothing : GoodIn lw_tbl (wsV RL 64 RX12 yX12_nothing vfX12_nothing) := goodIn_app (goodIn_r [.methodLink RL 64 yX12_nothing, .instanceMethod yX12_nothing, .selects RX12 yX12_nothing yX12_nothing, .initialized RX12] [1666, 1667, 1668, 114] (by decide +kernel) (by decide +kernel)) (goodIn_m tffX12_nothing qfX12_nothing)
set_option maxRecDepth 20000 in
theorem glM_nothing_nul : GoodIn lw_tbl (wsV RL 64 RX12 yX12_nothing vfX12_nothing_nul) := goodIn_app (goodIn_r [.methodLink RL 64 yX12_nothing, .instanceMethod yX12_nothing, .selects RX12 yX12_nothing yX12_nothing, .initialized RX12] [1666, 1667, 1668, 114] (by decide +kernel) (by decide +kernel)) (goodIn_m tffX12_nothing_nul qfX12_nothing_nul)
set_option maxRecDepth 20000 in
theorem glX_mean : GoodIn lw_tbl (wsV RL 65 RX10 yX10_mean vfX10_mean) := goodIn_app (goodIn_r [.methodLink RL 65 yX10_mean, .instanceMethod yX10_mean, .selects RX10 yX10_mean yX10_mean, .initialized RX10] [795, 796, 797, 106] (by decide +kernel) (by decide +kernel)) (goodIn_m tffX10_mean qfX10_mean)
set_option maxRecDepth 20000 in
theorem glM_mean : GoodIn lw_tbl (wsV RL 68 RX12 yX12_mean vfX12_mean) := goodIn_app (goodIn_r [.methodLink RL 68 yX12_mean, .instanceMethod yX12_mean, .selects RX12 yX12_mean yX12_mean, .initialized RX12] [1674, 1675, 1676, 114] (by decide +kernel) (by decide +kernel)) (goodIn_m tffX12_mean qfX12_mean)
set_option maxRecDepth 20000 in
theorem glM_mean_nul : GoodIn lw_tbl (wsV RL 68 RX12 yX12_mean vfX12_mean_nul) := goodIn_app (goodIn_r [.methodLink RL 68 yX12_mean, .instanceMethod yX12_mean, .selects RX12 yX12_mean yX12_mean, .initialized RX12] [1674, 1675, 1676, 114] (by decide +kernel) (by decide +kernel)) (goodIn_m tffX12_mean_nul qfX12_mean_nul)
set_option maxRecDepth 20000 in
theorem glX_likeliest : GoodIn lw_tbl (wsV RL 69 RX10 yX10_likeliest vfX10_likeliest) := goodIn_app (goodIn_r [.methodLink RL 69 yX10_likeliest, .instanceMethod yX10_likeliest, .selects RX10 yX10_likeliest yX10_likeliest, .initialized RX10] [803, 804, 805, 106] (by decide +kernel) (by decide +kernel)) (goodIn_m tffX10_likeliest qfX10_likeliest)
set_option maxRecDepth 20000 in
theorem glM_likeliest : GoodIn lw_tbl (wsV RL 73 RX12 yX12_likeliest vfX12_likeliest) := goodIn_app (goodIn_r [.methodLink RL 73 yX12_likeliest, .instanceMethod yX12_likeliest, .selects RX12 yX12_likeliest yX12_likeliest, .initialized RX12] [1682, 1683, 1684, 114] (by decide +kernel) (by decide +kernel)) (goodIn_m tffX12_likeliest qfX12_likeliest)
set_option maxRecDepth 20000 in
theorem glM_likeliest_nul : GoodIn lw_tbl (wsV RL 73 RX12 yX12_likeliest vfX12_likeliest_nul) := goodIn_app (goodIn_r [.methodLink RL 73 yX12_likeliest, .instanceMethod yX12_likeliest, .selects RX12 yX12_likeliest yX12_likeliest, .initialized RX12] [1682, 1683, 1684, 114] (by decide +kernel) (by decide +kernel)) (goodIn_m tffX12_likeliest_nul qfX12_likeliest_nul)
set_option maxRecDepth 20000 in
theorem glX_surest : GoodIn lw_tbl (wsV RL 74 RX10 yX10_surest vfX10_surest) := goodIn_app (goodIn_r [.methodLink RL 74 yX10_surest, .instanceMethod yX10_surest, .selects RX10 yX10_surest yX10_surest, .initialized RX10] [810, 811, 812, 106] (by decide +kernel) (by decide +kernel)) (goodIn_m tffX10_surest qfX10_surest)
set_option maxRecDepth 20000 in
theorem glM_surest : GoodIn lw_tbl (wsV RL 77 RX12 yX12_surest vfX12_surest) := goodIn_app (goodIn_r [.methodLink RL 77 yX12_surest, .instanceMethod yX12_surest, .selects RX12 yX12_surest yX12_surest, .initialized RX12] [1686, 1687, 1688, 114] (by decide +kernel) (by decide +kernel)) (goodIn_m tffX12_surest qfX12_surest)
set_option maxRecDepth 20000 in
theorem glM_surest_nul : GoodIn lw_tbl (wsV RL 77 RX12 yX12_surest vfX12_surest_nul) := goodIn_app (goodIn_r [.methodLink RL 77 yX12_surest, .instanceMethod yX12_surest, .selects RX12 yX12_surest yX12_surest, .initialized RX12] [1686, 1687, 1688, 114] (by decide +kernel) (by decide +kernel)) (goodIn_m tffX12_surest_nul qfX12_surest_nul)
set_option maxRecDepth 20000 in
theorem glX_surestOdds : GoodIn lw_tbl (wsV RL 78 RX10 yX10_surestOdds vfX10_surestOdds) := goodIn_app (goodIn_r [.methodLink RL 78 yX10_surestOdds, .instanceMethod yX10_surestOdds, .selects RX10 yX10_surestOdds yX10_surestOdds, .initialized RX10] [831, 832, 833, 106] (by decide +kernel) (by decide +kernel)) (goodIn_m tffX10_surestOdds qfX10_surestOdds)
set_option maxRecDepth 20000 in
theorem glM_surestOdds : GoodIn lw_tbl (wsV RL 82 RX12 yX12_surestOdds vfX12_surestOdds) := goodIn_app (goodIn_r [.methodLink RL 82 yX12_surestOdds, .instanceMethod yX12_surestOdds, .selects RX12 yX12_surestOdds yX12_surestOdds, .initialized RX12] [1706, 1707, 1708, 114] (by decide +kernel) (by decide +kernel)) (goodIn_m tffX12_surestOdds qfX12_surestOdds)
set_option maxRecDepth 20000 in
theorem glM_surestOdds_nul : GoodIn lw_tbl (wsV RL 82 RX12 yX12_surestOdds vfX12_surestOdds_nul) := goodIn_app (goodIn_r [.methodLink RL 82 yX12_surestOdds, .instanceMethod yX12_surestOdds, .selects RX12 yX12_surestOdds yX12_surestOdds, .initialized RX12] [1706, 1707, 1708, 114] (by decide +kernel) (by decide +kernel)) (goodIn_m tffX12_surestOdds_nul qfX12_surestOdds_nul)
set_option maxRecDepth 20000 in
theorem glX_best : GoodIn lw_tbl (wsV RL 83 RX10 yX10_best vfX10_best) := goodIn_app (goodIn_r [.methodLink RL 83 yX10_best, .instanceMethod yX10_best, .selects RX10 yX10_best yX10_best, .initialized RX10] [835, 836, 837, 106] (by decide +kernel) (by decide +kernel)) (goodIn_m tffX10_best qfX10_best)
set_option maxRecDepth 20000 in
theorem glM_best : GoodIn lw_tbl (wsV RL 86 RX12 yX12_best vfX12_best) := goodIn_app (goodIn_r [.methodLink RL 86 yX12_best, .instanceMethod yX12_best, .selects RX12 yX12_best yX12_best, .initialized RX12] [1710, 1711, 1712, 114] (by decide +kernel) (by decide +kernel)) (goodIn_m tffX12_best qfX12_best)
set_option maxRecDepth 20000 in
theorem glM_best_nul : GoodIn lw_tbl (wsV RL 86 RX12 yX12_best vfX12_best_nul) := goodIn_app (goodIn_r [.methodLink RL 86 yX12_best, .instanceMethod yX12_best, .selects RX12 yX12_best yX12_best, .initialized RX12] [1710, 1711, 1712, 114] (by decide +kernel) (by decide +kernel)) (goodIn_m tffX12_best_nul qfX12_best_nul)
set_option maxRecDepth 20000 in
theorem glX_bestBait : GoodIn lw_tbl (wsV RL 87 RX10 yX10_bestBait vfX10_bestBait) := goodIn_app (goodIn_r [.methodLink RL 87 yX10_bestBait, .instanceMethod yX10_bestBait, .selects RX10 yX10_bestBait yX10_bestBait, .initialized RX10] [843, 844, 845, 106] (by decide +kernel) (by decide +kernel)) (goodIn_m tffX10_bestBait qfX10_bestBait)
set_option maxRecDepth 20000 in
theorem glM_bestBait : GoodIn lw_tbl (wsV RL 90 RX12 yX12_bestBait vfX12_bestBait) := goodIn_app (goodIn_r [.methodLink RL 90 yX12_bestBait, .instanceMethod yX12_bestBait, .selects RX12 yX12_bestBait yX12_bestBait, .initialized RX12] [1714, 1715, 1716, 114] (by decide +kernel) (by decide +kernel)) (goodIn_m tffX12_bestBait qfX12_bestBait)
set_option maxRecDepth 20000 in
theorem glM_bestBait_nul : GoodIn lw_tbl (wsV RL 90 RX12 yX12_bestBait vfX12_bestBait_nul) := goodIn_app (goodIn_r [.methodLink RL 90 yX12_bestBait, .instanceMethod yX12_bestBait, .selects RX12 yX12_bestBait yX12_bestBait, .initialized RX12] [1714, 1715, 1716, 114] (by decide +kernel) (by decide +kernel)) (goodIn_m tffX12_bestBait_nul qfX12_bestBait_nul)
set_option maxRecDepth 20000 in
theorem glX_hungerFor : GoodIn lw_tbl (wsV RL 91 RX10 yX10_hungerFor vfX10_hungerFor) := goodIn_app (goodIn_r [.methodLink RL 91 yX10_hungerFor, .instanceMethod yX10_hungerFor, .selects RX10 yX10_hungerFor yX10_hungerFor, .initialized RX10] [851, 852, 853, 106] (by decide +kernel) (by decide +kernel)) (goodIn_m tffX10_hungerFor qfX10_hungerFor)
set_option maxRecDepth 20000 in
theorem glM_hungerFor : GoodIn lw_tbl (wsV RL 94 RX12 yX12_hungerFor vfX12_hungerFor) := goodIn_app (goodIn_r [.methodLink RL 94 yX12_hungerFor, .instanceMethod yX12_hungerFor, .selects RX12 yX12_hungerFor yX12_hungerFor, .initialized RX12] [1718, 1719, 1720, 114] (by decide +kernel) (by decide +kernel)) (goodIn_m tffX12_hungerFor qfX12_hungerFor)
set_option maxRecDepth 20000 in
theorem glM_hungerFor_nul : GoodIn lw_tbl (wsV RL 94 RX12 yX12_hungerFor vfX12_hungerFor_nul) := goodIn_app (goodIn_r [.methodLink RL 94 yX12_hungerFor, .instanceMethod yX12_hungerFor, .selects RX12 yX12_hungerFor yX12_hungerFor, .initialized RX12] [1718, 1719, 1720, 114] (by decide +kernel) (by decide +kernel)) (goodIn_m tffX12_hungerFor_nul qfX12_hungerFor_nul)
set_option maxRecDepth 20000 in
theorem glX_freeSpots : GoodIn lw_tbl (wsV RL 95 RX10 yX10_freeSpots vfX10_freeSpots) := goodIn_app (goodIn_r [.methodLink RL 95 yX10_freeSpots, .instanceMethod yX10_freeSpots, .selects RX10 yX10_freeSpots yX10_freeSpots, .initialized RX10] [856, 857, 858, 106] (by decide +kernel) (by decide +kernel)) (goodIn_m tffX10_freeSpots qfX10_freeSpots)
set_option maxRecDepth 20000 in
theorem glM_freeSpots : GoodIn lw_tbl (wsV RL 98 RX12 yX12_freeSpots vfX12_freeSpots) := goodIn_app (goodIn_r [.methodLink RL 98 yX12_freeSpots, .instanceMethod yX12_freeSpots, .selects RX12 yX12_freeSpots yX12_freeSpots, .initialized RX12] [1727, 1728, 1729, 114] (by decide +kernel) (by decide +kernel)) (goodIn_m tffX12_freeSpots qfX12_freeSpots)
set_option maxRecDepth 20000 in
theorem glM_freeSpots_nul : GoodIn lw_tbl (wsV RL 98 RX12 yX12_freeSpots vfX12_freeSpots_nul) := goodIn_app (goodIn_r [.methodLink RL 98 yX12_freeSpots, .instanceMethod yX12_freeSpots, .selects RX12 yX12_freeSpots yX12_freeSpots, .initialized RX12] [1727, 1728, 1729, 114] (by decide +kernel) (by decide +kernel)) (goodIn_m tffX12_freeSpots_nul qfX12_freeSpots_nul)
set_option maxRecDepth 20000 in
theorem glX_tangles : GoodIn lw_tbl (wsV RL 99 RX10 yX10_tangles vfX10_tangles) := goodIn_app (goodIn_r [.methodLink RL 99 yX10_tangles, .instanceMethod yX10_tangles, .selects RX10 yX10_tangles yX10_tangles, .initialized RX10] [860, 861, 862, 106] (by decide +kernel) (by decide +kernel)) (goodIn_m tffX10_tangles qfX10_tangles)
set_option maxRecDepth 20000 in
theorem glM_tangles : GoodIn lw_tbl (wsV RL 102 RX12 yX12_tangles vfX12_tangles) := goodIn_app (goodIn_r [.methodLink RL 102 yX12_tangles, .instanceMethod yX12_tangles, .selects RX12 yX12_tangles yX12_tangles, .initialized RX12] [1723, 1724, 1725, 114] (by decide +kernel) (by decide +kernel)) (goodIn_m tffX12_tangles qfX12_tangles)
set_option maxRecDepth 20000 in
theorem glM_tangles_nul : GoodIn lw_tbl (wsV RL 102 RX12 yX12_tangles vfX12_tangles_nul) := goodIn_app (goodIn_r [.methodLink RL 102 yX12_tangles, .instanceMethod yX12_tangles, .selects RX12 yX12_tangles yX12_tangles, .initialized RX12] [1723, 1724, 1725, 114] (by decide +kernel) (by decide +kernel)) (goodIn_m tffX12_tangles_nul qfX12_tangles_nul)
set_option maxRecDepth 20000 in
theorem glX_seatings : GoodIn lw_tbl (wsV RL 103 RX10 yX10_seatings vfX10_seatings) := goodIn_app (goodIn_r [.methodLink RL 103 yX10_seatings, .instanceMethod yX10_seatings, .selects RX10 yX10_seatings yX10_seatings, .initialized RX10] [865, 866, 867, 106] (by decide +kernel) (by decide +kernel)) (goodIn_m tffX10_seatings qfX10_seatings)
set_option maxRecDepth 20000 in
theorem glM_seatings : GoodIn lw_tbl (wsV RL 106 RX12 yX12_seatings vfX12_seatings) := goodIn_app (goodIn_r [.methodLink RL 106 yX12_seatings, .instanceMethod yX12_seatings, .selects RX12 yX12_seatings yX12_seatings, .initialized RX12] [1731, 1732, 1733, 114] (by decide +kernel) (by decide +kernel)) (goodIn_m tffX12_seatings qfX12_seatings)
set_option maxRecDepth 20000 in
theorem glM_seatings_nul : GoodIn lw_tbl (wsV RL 106 RX12 yX12_seatings vfX12_seatings_nul) := goodIn_app (goodIn_r [.methodLink RL 106 yX12_seatings, .instanceMethod yX12_seatings, .selects RX12 yX12_seatings yX12_seatings, .initialized RX12] [1731, 1732, 1733, 114] (by decide +kernel) (by decide +kernel)) (goodIn_m tffX12_seatings_nul qfX12_seatings_nul)
set_option maxRecDepth 20000 in
theorem glX_seat : GoodIn lw_tbl (wsV RL 107 RX10 yX10_seat vfX10_seat) := goodIn_app (goodIn_r [.methodLink RL 107 yX10_seat, .instanceMethod yX10_seat, .selects RX10 yX10_seat yX10_seat, .initialized RX10] [893, 894, 895, 106] (by decide +kernel) (by decide +kernel)) (goodIn_m tffX10_seat qfX10_seat)
set_option maxRecDepth 20000 in
theorem glM_seat : GoodIn lw_tbl (wsV RL 110 RX12 yX12_seat vfX12_seat) := goodIn_app (goodIn_r [.methodLink RL 110 yX12_seat, .instanceMethod yX12_seat, .selects RX12 yX12_seat yX12_seat, .initialized RX12] [1758, 1759, 1760, 114] (by decide +kernel) (by decide +kernel)) (goodIn_m tffX12_seat qfX12_seat)
set_option maxRecDepth 20000 in
theorem glM_seat_nul : GoodIn lw_tbl (wsV RL 110 RX12 yX12_seat vfX12_seat_nul) := goodIn_app (goodIn_r [.methodLink RL 110 yX12_seat, .instanceMethod yX12_seat, .selects RX12 yX12_seat yX12_seat, .initialized RX12] [1758, 1759, 1760, 114] (by decide +kernel) (by decide +kernel)) (goodIn_m tffX12_seat_nul qfX12_seat_nul)
set_option maxRecDepth 20000 in
theorem glX_mostSeated : GoodIn lw_tbl (wsV RL 111 RX10 yX10_mostSeated vfX10_mostSeated) := goodIn_app (goodIn_r [.methodLink RL 111 yX10_mostSeated, .instanceMethod yX10_mostSeated, .selects RX10 yX10_mostSeated yX10_mostSeated, .initialized RX10] [897, 898, 899, 106] (by decide +kernel) (by decide +kernel)) (goodIn_m tffX10_mostSeated qfX10_mostSeated)
set_option maxRecDepth 20000 in
theorem glM_mostSeated : GoodIn lw_tbl (wsV RL 114 RX12 yX12_mostSeated vfX12_mostSeated) := goodIn_app (goodIn_r [.methodLink RL 114 yX12_mostSeated, .instanceMethod yX12_mostSeated, .selects RX12 yX12_mostSeated yX12_mostSeated, .initialized RX12] [1762, 1763, 1764, 114] (by decide +kernel) (by decide +kernel)) (goodIn_m tffX12_mostSeated qfX12_mostSeated)
set_option maxRecDepth 20000 in
theorem glM_mostSeated_nul : GoodIn lw_tbl (wsV RL 114 RX12 yX12_mostSeated vfX12_mostSeated_nul) := goodIn_app (goodIn_r [.methodLink RL 114 yX12_mostSeated, .instanceMethod yX12_mostSeated, .selects RX12 yX12_mostSeated yX12_mostSeated, .initialized RX12] [1762, 1763, 1764, 114] (by decide +kernel) (by decide +kernel)) (goodIn_m tffX12_mostSeated_nul qfX12_mostSeated_nul)
set_option maxRecDepth 20000 in
theorem glX_darks : GoodIn lw_tbl (wsV RL 115 RX10 yX10_darks vfX10_darks) := goodIn_app (goodIn_r [.methodLink RL 115 yX10_darks, .instanceMethod yX10_darks, .selects RX10 yX10_darks yX10_darks, .initialized RX10] [907, 908, 909, 106] (by decide +kernel) (by decide +kernel)) (goodIn_m tffX10_darks qfX10_darks)
set_option maxRecDepth 20000 in
theorem glM_darks : GoodIn lw_tbl (wsV RL 118 RX12 yX12_darks vfX12_darks) := goodIn_app (goodIn_r [.methodLink RL 118 yX12_darks, .instanceMethod yX12_darks, .selects RX12 yX12_darks yX12_darks, .initialized RX12] [1769, 1770, 1771, 114] (by decide +kernel) (by decide +kernel)) (goodIn_m tffX12_darks qfX12_darks)
set_option maxRecDepth 20000 in
theorem glM_darks_nul : GoodIn lw_tbl (wsV RL 118 RX12 yX12_darks vfX12_darks_nul) := goodIn_app (goodIn_r [.methodLink RL 118 yX12_darks, .instanceMethod yX12_darks, .selects RX12 yX12_darks yX12_darks, .initialized RX12] [1769, 1770, 1771, 114] (by decide +kernel) (by decide +kernel)) (goodIn_m tffX12_darks_nul qfX12_darks_nul)
set_option maxRecDepth 20000 in
theorem glX_darkAt : GoodIn lw_tbl (wsV RL 119 RX10 yX10_darkAt vfX10_darkAt) := goodIn_app (goodIn_r [.methodLink RL 119 yX10_darkAt, .instanceMethod yX10_darkAt, .selects RX10 yX10_darkAt yX10_darkAt, .initialized RX10] [931, 932, 933, 106] (by decide +kernel) (by decide +kernel)) (goodIn_m tffX10_darkAt qfX10_darkAt)
set_option maxRecDepth 20000 in
theorem glM_darkAt : GoodIn lw_tbl (wsV RL 122 RX12 yX12_darkAt vfX12_darkAt) := goodIn_app (goodIn_r [.methodLink RL 122 yX12_darkAt, .instanceMethod yX12_darkAt, .selects RX12 yX12_darkAt yX12_darkAt, .initialized RX12] [1789, 1790, 1791, 114] (by decide +kernel) (by decide +kernel)) (goodIn_m tffX12_darkAt qfX12_darkAt)
set_option maxRecDepth 20000 in
theorem glM_darkAt_nul : GoodIn lw_tbl (wsV RL 122 RX12 yX12_darkAt vfX12_darkAt_nul) := goodIn_app (goodIn_r [.methodLink RL 122 yX12_darkAt, .instanceMethod yX12_darkAt, .selects RX12 yX12_darkAt yX12_darkAt, .initialized RX12] [1789, 1790, 1791, 114] (by decide +kernel) (by decide +kernel)) (goodIn_m tffX12_darkAt_nul qfX12_darkAt_nul)
set_option maxRecDepth 20000 in
theorem glX_darkSpots : GoodIn lw_tbl (wsV RL 123 RX10 yX10_darkSpots vfX10_darkSpots) := goodIn_app (goodIn_r [.methodLink RL 123 yX10_darkSpots, .instanceMethod yX10_darkSpots, .selects RX10 yX10_darkSpots yX10_darkSpots, .initialized RX10] [935, 936, 937, 106] (by decide +kernel) (by decide +kernel)) (goodIn_m tffX10_darkSpots qfX10_darkSpots)
set_option maxRecDepth 20000 in
theorem glM_darkSpots : GoodIn lw_tbl (wsV RL 126 RX12 yX12_darkSpots vfX12_darkSpots) := goodIn_app (goodIn_r [.methodLink RL 126 yX12_darkSpots, .instanceMethod yX12_darkSpots, .selects RX12 yX12_darkSpots yX12_darkSpots, .initialized RX12] [1793, 1794, 1795, 114] (by decide +kernel) (by decide +kernel)) (goodIn_m tffX12_darkSpots qfX12_darkSpots)
set_option maxRecDepth 20000 in
theorem glM_darkSpots_nul : GoodIn lw_tbl (wsV RL 126 RX12 yX12_darkSpots vfX12_darkSpots_nul) := goodIn_app (goodIn_r [.methodLink RL 126 yX12_darkSpots, .instanceMethod yX12_darkSpots, .selects RX12 yX12_darkSpots yX12_darkSpots, .initialized RX12] [1793, 1794, 1795, 114] (by decide +kernel) (by decide +kernel)) (goodIn_m tffX12_darkSpots_nul qfX12_darkSpots_nul)
set_option maxRecDepth 20000 in
theorem glX_ask : GoodIn lw_tbl (wsV RL 127 RX10 yX10_ask vfX10_ask) := goodIn_app (goodIn_r [.methodLink RL 127 yX10_ask, .instanceMethod yX10_ask, .selects RX10 yX10_ask yX10_ask, .initialized RX10] [939, 940, 941, 106] (by decide +kernel) (by decide +kernel)) (goodIn_m tffX10_ask qfX10_ask)
set_option maxRecDepth 20000 in
theorem glM_ask : GoodIn lw_tbl (wsV RL 130 RX12 yX12_ask vfX12_ask) := goodIn_app (goodIn_r [.methodLink RL 130 yX12_ask, .instanceMethod yX12_ask, .selects RX12 yX12_ask yX12_ask, .initialized RX12] [1797, 1798, 1799, 114] (by decide +kernel) (by decide +kernel)) (goodIn_m tffX12_ask qfX12_ask)
set_option maxRecDepth 20000 in
theorem glM_ask_nul : GoodIn lw_tbl (wsV RL 130 RX12 yX12_ask vfX12_ask_nul) := goodIn_app (goodIn_r [.methodLink RL 130 yX12_ask, .instanceMethod yX12_ask, .selects RX12 yX12_ask yX12_ask, .initialized RX12] [1797, 1798, 1799, 114] (by decide +kernel) (by decide +kernel)) (goodIn_m tffX12_ask_nul qfX12_ask_nul)
set_option maxRecDepth 20000 in
theorem glX_askLeaves : GoodIn lw_tbl (wsV RL 131 RX10 yX10_askLeaves vfX10_askLeaves) := goodIn_app (goodIn_r [.methodLink RL 131 yX10_askLeaves, .instanceMethod yX10_askLeaves, .selects RX10 yX10_askLeaves yX10_askLeaves, .initialized RX10] [952, 953, 954, 106] (by decide +kernel) (by decide +kernel)) (goodIn_m tffX10_askLeaves qfX10_askLeaves)
set_option maxRecDepth 20000 in
theorem glM_askLeaves : GoodIn lw_tbl (wsV RL 134 RX12 yX12_askLeaves vfX12_askLeaves) := goodIn_app (goodIn_r [.methodLink RL 134 yX12_askLeaves, .instanceMethod yX12_askLeaves, .selects RX12 yX12_askLeaves yX12_askLeaves, .initialized RX12] [1810, 1811, 1812, 114] (by decide +kernel) (by decide +kernel)) (goodIn_m tffX12_askLeaves qfX12_askLeaves)
set_option maxRecDepth 20000 in
theorem glM_askLeaves_nul : GoodIn lw_tbl (wsV RL 134 RX12 yX12_askLeaves vfX12_askLeaves_nul) := goodIn_app (goodIn_r [.methodLink RL 134 yX12_askLeaves, .instanceMethod yX12_askLeaves, .selects RX12 yX12_askLeaves yX12_askLeaves, .initialized RX12] [1810, 1811, 1812, 114] (by decide +kernel) (by decide +kernel)) (goodIn_m tffX12_askLeaves_nul qfX12_askLeaves_nul)
set_option maxRecDepth 20000 in
theorem glX_judge : GoodIn lw_tbl (wsV RL 135 RX10 yX10_judge vfX10_judge) := goodIn_app (goodIn_r [.methodLink RL 135 yX10_judge, .instanceMethod yX10_judge, .selects RX10 yX10_judge yX10_judge, .initialized RX10] [957, 958, 959, 106] (by decide +kernel) (by decide +kernel)) (goodIn_m tffX10_judge qfX10_judge)
set_option maxRecDepth 20000 in
theorem glM_judge : GoodIn lw_tbl (wsV RL 138 RX12 yX12_judge vfX12_judge) := goodIn_app (goodIn_r [.methodLink RL 138 yX12_judge, .instanceMethod yX12_judge, .selects RX12 yX12_judge yX12_judge, .initialized RX12] [1814, 1815, 1816, 114] (by decide +kernel) (by decide +kernel)) (goodIn_m tffX12_judge qfX12_judge)
set_option maxRecDepth 20000 in
theorem glM_judge_nul : GoodIn lw_tbl (wsV RL 138 RX12 yX12_judge vfX12_judge_nul) := goodIn_app (goodIn_r [.methodLink RL 138 yX12_judge, .instanceMethod yX12_judge, .selects RX12 yX12_judge yX12_judge, .initialized RX12] [1814, 1815, 1816, 114] (by decide +kernel) (by decide +kernel)) (goodIn_m tffX12_judge_nul qfX12_judge_nul)
set_option maxRecDepth 20000 in
theorem glX_worth : GoodIn lw_tbl (wsV RL 139 RX10 yX10_worth vfX10_worth) := goodIn_app (goodIn_r [.methodLink RL 139 yX10_worth, .instanceMethod yX10_worth, .selects RX10 yX10_worth yX10_worth, .initialized RX10] [961, 962, 963, 106] (by decide +kernel) (by decide +kernel)) (goodIn_m tffX10_worth qfX10_worth)
set_option maxRecDepth 20000 in
theorem glM_worth : GoodIn lw_tbl (wsV RL 142 RX12 yX12_worth vfX12_worth) := goodIn_app (goodIn_r [.methodLink RL 142 yX12_worth, .instanceMethod yX12_worth, .selects RX12 yX12_worth yX12_worth, .initialized RX12] [1818, 1819, 1820, 114] (by decide +kernel) (by decide +kernel)) (goodIn_m tffX12_worth qfX12_worth)
set_option maxRecDepth 20000 in
theorem glM_worth_nul : GoodIn lw_tbl (wsV RL 142 RX12 yX12_worth vfX12_worth_nul) := goodIn_app (goodIn_r [.methodLink RL 142 yX12_worth, .instanceMethod yX12_worth, .selects RX12 yX12_worth yX12_worth, .initialized RX12] [1818, 1819, 1820, 114] (by decide +kernel) (by decide +kernel)) (goodIn_m tffX12_worth_nul qfX12_worth_nul)
set_option maxRecDepth 20000 in
theorem glX_load : GoodIn lw_tbl (wsV RL 143 RX10 yX10_load vfX10_load) := goodIn_app (goodIn_r [.methodLink RL 143 yX10_load, .instanceMethod yX10_load, .selects RX10 yX10_load yX10_load, .initialized RX10] [966, 967, 968, 106] (by decide +kernel) (by decide +kernel)) (goodIn_m tffX10_load qfX10_load)
set_option maxRecDepth 20000 in
theorem glM_load : GoodIn lw_tbl (wsV RL 146 RX12 yX12_load vfX12_load) := goodIn_app (goodIn_r [.methodLink RL 146 yX12_load, .instanceMethod yX12_load, .selects RX12 yX12_load yX12_load, .initialized RX12] [1822, 1823, 1824, 114] (by decide +kernel) (by decide +kernel)) (goodIn_m tffX12_load qfX12_load)
set_option maxRecDepth 20000 in
theorem glM_load_nul : GoodIn lw_tbl (wsV RL 146 RX12 yX12_load vfX12_load_nul) := goodIn_app (goodIn_r [.methodLink RL 146 yX12_load, .instanceMethod yX12_load, .selects RX12 yX12_load yX12_load, .initialized RX12] [1822, 1823, 1824, 114] (by decide +kernel) (by decide +kernel)) (goodIn_m tffX12_load_nul qfX12_load_nul)
set_option maxRecDepth 20000 in
theorem glX_loadWorth : GoodIn lw_tbl (wsV RL 147 RX10 yX10_loadWorth vfX10_loadWorth) := goodIn_app (goodIn_r [.methodLink RL 147 yX10_loadWorth, .instanceMethod yX10_loadWorth, .selects RX10 yX10_loadWorth yX10_loadWorth, .initialized RX10] [981, 982, 983, 106] (by decide +kernel) (by decide +kernel)) (goodIn_m tffX10_loadWorth qfX10_loadWorth)
set_option maxRecDepth 20000 in
theorem glM_loadWorth : GoodIn lw_tbl (wsV RL 150 RX12 yX12_loadWorth vfX12_loadWorth) := goodIn_app (goodIn_r [.methodLink RL 150 yX12_loadWorth, .instanceMethod yX12_loadWorth, .selects RX12 yX12_loadWorth yX12_loadWorth, .initialized RX12] [1838, 1839, 1840, 114] (by decide +kernel) (by decide +kernel)) (goodIn_m tffX12_loadWorth qfX12_loadWorth)
set_option maxRecDepth 20000 in
theorem glM_loadWorth_nul : GoodIn lw_tbl (wsV RL 150 RX12 yX12_loadWorth vfX12_loadWorth_nul) := goodIn_app (goodIn_r [.methodLink RL 150 yX12_loadWorth, .instanceMethod yX12_loadWorth, .selects RX12 yX12_loadWorth yX12_loadWorth, .initialized RX12] [1838, 1839, 1840, 114] (by decide +kernel) (by decide +kernel)) (goodIn_m tffX12_loadWorth_nul qfX12_loadWorth_nul)
set_option maxRecDepth 20000 in
theorem glX_bestDay : GoodIn lw_tbl (wsV RL 151 RX10 yX10_bestDay vfX10_bestDay) := goodIn_app (goodIn_r [.methodLink RL 151 yX10_bestDay, .instanceMethod yX10_bestDay, .selects RX10 yX10_bestDay yX10_bestDay, .initialized RX10] [986, 987, 988, 106] (by decide +kernel) (by decide +kernel)) (goodIn_m tffX10_bestDay qfX10_bestDay)
set_option maxRecDepth 20000 in
theorem glM_bestDay : GoodIn lw_tbl (wsV RL 154 RX12 yX12_bestDay vfX12_bestDay) := goodIn_app (goodIn_r [.methodLink RL 154 yX12_bestDay, .instanceMethod yX12_bestDay, .selects RX12 yX12_bestDay yX12_bestDay, .initialized RX12] [1842, 1843, 1844, 114] (by decide +kernel) (by decide +kernel)) (goodIn_m tffX12_bestDay qfX12_bestDay)
set_option maxRecDepth 20000 in
theorem glM_bestDay_nul : GoodIn lw_tbl (wsV RL 154 RX12 yX12_bestDay vfX12_bestDay_nul) := goodIn_app (goodIn_r [.methodLink RL 154 yX12_bestDay, .instanceMethod yX12_bestDay, .selects RX12 yX12_bestDay yX12_bestDay, .initialized RX12] [1842, 1843, 1844, 114] (by decide +kernel) (by decide +kernel)) (goodIn_m tffX12_bestDay_nul qfX12_bestDay_nul)
set_option maxRecDepth 20000 in
theorem glX_hooks : GoodIn lw_tbl (wsV RL 155 RX10 yX10_hooks vfX10_hooks) := goodIn_app (goodIn_r [.methodLink RL 155 yX10_hooks, .instanceMethod yX10_hooks, .selects RX10 yX10_hooks yX10_hooks, .initialized RX10] [991, 992, 993, 106] (by decide +kernel) (by decide +kernel)) (goodIn_m tffX10_hooks qfX10_hooks)
set_option maxRecDepth 20000 in
theorem glM_hooks : GoodIn lw_tbl (wsV RL 159 RX12 yX12_hooks vfX12_hooks) := goodIn_app (goodIn_r [.methodLink RL 159 yX12_hooks, .instanceMethod yX12_hooks, .selects RX12 yX12_hooks yX12_hooks, .initialized RX12] [1846, 1847, 1848, 114] (by decide +kernel) (by decide +kernel)) (goodIn_m tffX12_hooks qfX12_hooks)
set_option maxRecDepth 20000 in
theorem glM_hooks_nul : GoodIn lw_tbl (wsV RL 159 RX12 yX12_hooks vfX12_hooks_nul) := goodIn_app (goodIn_r [.methodLink RL 159 yX12_hooks, .instanceMethod yX12_hooks, .selects RX12 yX12_hooks yX12_hooks, .initialized RX12] [1846, 1847, 1848, 114] (by decide +kernel) (by decide +kernel)) (goodIn_m tffX12_hooks_nul qfX12_hooks_nul)
set_option maxRecDepth 20000 in
theorem glX_lines : GoodIn lw_tbl (wsV RL 160 RX10 yX10_lines vfX10_lines) := goodIn_app (goodIn_r [.methodLink RL 160 yX10_lines, .instanceMethod yX10_lines, .selects RX10 yX10_lines yX10_lines, .initialized RX10] [999, 1000, 1001, 106] (by decide +kernel) (by decide +kernel)) (goodIn_m tffX10_lines qfX10_lines)
set_option maxRecDepth 20000 in
theorem glM_lines : GoodIn lw_tbl (wsV RL 164 RX12 yX12_lines vfX12_lines) := goodIn_app (goodIn_r [.methodLink RL 164 yX12_lines, .instanceMethod yX12_lines, .selects RX12 yX12_lines yX12_lines, .initialized RX12] [1850, 1851, 1852, 114] (by decide +kernel) (by decide +kernel)) (goodIn_m tffX12_lines qfX12_lines)
set_option maxRecDepth 20000 in
theorem glM_lines_nul : GoodIn lw_tbl (wsV RL 164 RX12 yX12_lines vfX12_lines_nul) := goodIn_app (goodIn_r [.methodLink RL 164 yX12_lines, .instanceMethod yX12_lines, .selects RX12 yX12_lines yX12_lines, .initialized RX12] [1850, 1851, 1852, 114] (by decide +kernel) (by decide +kernel)) (goodIn_m tffX12_lines_nul qfX12_lines_nul)
set_option maxRecDepth 20000 in
theorem glX_rests : GoodIn lw_tbl (wsV RL 165 RX10 yX10_rests vfX10_rests) := goodIn_app (goodIn_r [.methodLink RL 165 yX10_rests, .instanceMethod yX10_rests, .selects RX10 yX10_rests yX10_rests, .initialized RX10] [1006, 1007, 1008, 106] (by decide +kernel) (by decide +kernel)) (goodIn_m tffX10_rests qfX10_rests)
set_option maxRecDepth 20000 in
theorem glM_rests : GoodIn lw_tbl (wsV RL 168 RX12 yX12_rests vfX12_rests) := goodIn_app (goodIn_r [.methodLink RL 168 yX12_rests, .instanceMethod yX12_rests, .selects RX12 yX12_rests yX12_rests, .initialized RX12] [1861, 1862, 1863, 114] (by decide +kernel) (by decide +kernel)) (goodIn_m tffX12_rests qfX12_rests)
set_option maxRecDepth 20000 in
theorem glM_rests_nul : GoodIn lw_tbl (wsV RL 168 RX12 yX12_rests vfX12_rests_nul) := goodIn_app (goodIn_r [.methodLink RL 168 yX12_rests, .instanceMethod yX12_rests, .selects RX12 yX12_rests yX12_rests, .initialized RX12] [1861, 1862, 1863, 114] (by decide +kernel) (by decide +kernel)) (goodIn_m tffX12_rests_nul qfX12_rests_nul)
set_option maxRecDepth 20000 in
theorem glX_rest : GoodIn lw_tbl (wsV RL 169 RX10 yX10_rest vfX10_rest) := goodIn_app (goodIn_r [.methodLink RL 169 yX10_rest, .instanceMethod yX10_rest, .selects RX10 yX10_rest yX10_rest, .initialized RX10] [1017, 1018, 1019, 106] (by decide +kernel) (by decide +kernel)) (goodIn_m tffX10_rest qfX10_rest)
set_option maxRecDepth 20000 in
theorem glM_rest : GoodIn lw_tbl (wsV RL 172 RX12 yX12_rest vfX12_rest) := goodIn_app (goodIn_r [.methodLink RL 172 yX12_rest, .instanceMethod yX12_rest, .selects RX12 yX12_rest yX12_rest, .initialized RX12] [1872, 1873, 1874, 114] (by decide +kernel) (by decide +kernel)) (goodIn_m tffX12_rest qfX12_rest)
set_option maxRecDepth 20000 in
theorem glM_rest_nul : GoodIn lw_tbl (wsV RL 172 RX12 yX12_rest vfX12_rest_nul) := goodIn_app (goodIn_r [.methodLink RL 172 yX12_rest, .instanceMethod yX12_rest, .selects RX12 yX12_rest yX12_rest, .initialized RX12] [1872, 1873, 1874, 114] (by decide +kernel) (by decide +kernel)) (goodIn_m tffX12_rest_nul qfX12_rest_nul)
set_option maxRecDepth 20000 in
theorem glX_landed : GoodIn lw_tbl (wsV RL 173 RX10 yX10_landed vfX10_landed) := goodIn_app (goodIn_r [.methodLink RL 173 yX10_landed, .instanceMethod yX10_landed, .selects RX10 yX10_landed yX10_landed, .initialized RX10] [1021, 1022, 1023, 106] (by decide +kernel) (by decide +kernel)) (goodIn_m tffX10_landed qfX10_landed)
set_option maxRecDepth 20000 in
theorem glM_landed : GoodIn lw_tbl (wsV RL 176 RX12 yX12_landed vfX12_landed) := goodIn_app (goodIn_r [.methodLink RL 176 yX12_landed, .instanceMethod yX12_landed, .selects RX12 yX12_landed yX12_landed, .initialized RX12] [1876, 1877, 1878, 114] (by decide +kernel) (by decide +kernel)) (goodIn_m tffX12_landed qfX12_landed)
set_option maxRecDepth 20000 in
theorem glM_landed_nul : GoodIn lw_tbl (wsV RL 176 RX12 yX12_landed vfX12_landed_nul) := goodIn_app (goodIn_r [.methodLink RL 176 yX12_landed, .instanceMethod yX12_landed, .selects RX12 yX12_landed yX12_landed, .initialized RX12] [1876, 1877, 1878, 114] (by decide +kernel) (by decide +kernel)) (goodIn_m tffX12_landed_nul qfX12_landed_nul)
set_option maxRecDepth 20000 in
theorem glX_landedIn : GoodIn lw_tbl (wsV RL 177 RX10 yX10_landedIn vfX10_landedIn) := goodIn_app (goodIn_r [.methodLink RL 177 yX10_landedIn, .instanceMethod yX10_landedIn, .selects RX10 yX10_landedIn yX10_landedIn, .initialized RX10] [1075, 1076, 1077, 106] (by decide +kernel) (by decide +kernel)) (goodIn_m tffX10_landedIn qfX10_landedIn)
set_option maxRecDepth 20000 in
theorem glM_landedIn : GoodIn lw_tbl (wsV RL 180 RX12 yX12_landedIn vfX12_landedIn) := goodIn_app (goodIn_r [.methodLink RL 180 yX12_landedIn, .instanceMethod yX12_landedIn, .selects RX12 yX12_landedIn yX12_landedIn, .initialized RX12] [1904, 1905, 1906, 114] (by decide +kernel) (by decide +kernel)) (goodIn_m tffX12_landedIn qfX12_landedIn)
set_option maxRecDepth 20000 in
theorem glM_landedIn_nul : GoodIn lw_tbl (wsV RL 180 RX12 yX12_landedIn vfX12_landedIn_nul) := goodIn_app (goodIn_r [.methodLink RL 180 yX12_landedIn, .instanceMethod yX12_landedIn, .selects RX12 yX12_landedIn yX12_landedIn, .initialized RX12] [1904, 1905, 1906, 114] (by decide +kernel) (by decide +kernel)) (goodIn_m tffX12_landedIn_nul qfX12_landedIn_nul)
set_option maxRecDepth 20000 in
theorem glX_crabs : GoodIn lw_tbl (wsV RL 181 RX10 yX10_crabs vfX10_crabs) := goodIn_app (goodIn_r [.methodLink RL 181 yX10_crabs, .instanceMethod yX10_crabs, .selects RX10 yX10_crabs yX10_crabs, .initialized RX10] [1079, 1080, 1081, 106] (by decide +kernel) (by decide +kernel)) (goodIn_m tffX10_crabs qfX10_crabs)
set_option maxRecDepth 20000 in
theorem glM_crabs : GoodIn lw_tbl (wsV RL 184 RX12 yX12_crabs vfX12_crabs) := goodIn_app (goodIn_r [.methodLink RL 184 yX12_crabs, .instanceMethod yX12_crabs, .selects RX12 yX12_crabs yX12_crabs, .initialized RX12] [1908, 1909, 1910, 114] (by decide +kernel) (by decide +kernel)) (goodIn_m tffX12_crabs qfX12_crabs)
set_option maxRecDepth 20000 in
theorem glM_crabs_nul : GoodIn lw_tbl (wsV RL 184 RX12 yX12_crabs vfX12_crabs_nul) := goodIn_app (goodIn_r [.methodLink RL 184 yX12_crabs, .instanceMethod yX12_crabs, .selects RX12 yX12_crabs yX12_crabs, .initialized RX12] [1908, 1909, 1910, 114] (by decide +kernel) (by decide +kernel)) (goodIn_m tffX12_crabs_nul qfX12_crabs_nul)
set_option maxRecDepth 20000 in
theorem glX_let : GoodIn lw_tbl (wsV RL 185 RX10 yX10_let vfX10_let) := goodIn_app (goodIn_r [.methodLink RL 185 yX10_let, .instanceMethod yX10_let, .selects RX10 yX10_let yX10_let, .initialized RX10] [1083, 1084, 1085, 106] (by decide +kernel) (by decide +kernel)) (goodIn_m tffX10_let qfX10_let)
set_option maxRecDepth 20000 in
theorem glM_let : GoodIn lw_tbl (wsV RL 189 RX12 yX12_let vfX12_let) := goodIn_app (goodIn_r [.methodLink RL 189 yX12_let, .instanceMethod yX12_let, .selects RX12 yX12_let yX12_let, .initialized RX12] [1912, 1913, 1914, 114] (by decide +kernel) (by decide +kernel)) (goodIn_m tffX12_let qfX12_let)
set_option maxRecDepth 20000 in
theorem glM_let_nul : GoodIn lw_tbl (wsV RL 189 RX12 yX12_let vfX12_let_nul) := goodIn_app (goodIn_r [.methodLink RL 189 yX12_let, .instanceMethod yX12_let, .selects RX12 yX12_let yX12_let, .initialized RX12] [1912, 1913, 1914, 114] (by decide +kernel) (by decide +kernel)) (goodIn_m tffX12_let_nul qfX12_let_nul)
set_option maxRecDepth 20000 in
theorem glX_drawIn : GoodIn lw_tbl (wsV RL 190 RX10 yX10_drawIn vfX10_drawIn) := goodIn_app (goodIn_r [.methodLink RL 190 yX10_drawIn, .instanceMethod yX10_drawIn, .selects RX10 yX10_drawIn yX10_drawIn, .initialized RX10] [1096, 1097, 1098, 106] (by decide +kernel) (by decide +kernel)) (goodIn_m tffX10_drawIn qfX10_drawIn)
set_option maxRecDepth 20000 in
theorem glM_drawIn : GoodIn lw_tbl (wsV RL 194 RX12 yX12_drawIn vfX12_drawIn) := goodIn_app (goodIn_r [.methodLink RL 194 yX12_drawIn, .instanceMethod yX12_drawIn, .selects RX12 yX12_drawIn yX12_drawIn, .initialized RX12] [1928, 1929, 1930, 114] (by decide +kernel) (by decide +kernel)) (goodIn_m tffX12_drawIn qfX12_drawIn)
set_option maxRecDepth 20000 in
theorem glM_drawIn_nul : GoodIn lw_tbl (wsV RL 194 RX12 yX12_drawIn vfX12_drawIn_nul) := goodIn_app (goodIn_r [.methodLink RL 194 yX12_drawIn, .instanceMethod yX12_drawIn, .selects RX12 yX12_drawIn yX12_drawIn, .initialized RX12] [1928, 1929, 1930, 114] (by decide +kernel) (by decide +kernel)) (goodIn_m tffX12_drawIn_nul qfX12_drawIn_nul)
set_option maxRecDepth 20000 in
theorem glX_sell : GoodIn lw_tbl (wsV RL 195 RX10 yX10_sell vfX10_sell) := goodIn_app (goodIn_r [.methodLink RL 195 yX10_sell, .instanceMethod yX10_sell, .selects RX10 yX10_sell yX10_sell, .initialized RX10] [1100, 1101, 1102, 106] (by decide +kernel) (by decide +kernel)) (goodIn_m tffX10_sell qfX10_sell)
set_option maxRecDepth 20000 in
theorem glM_sell : GoodIn lw_tbl (wsV RL 198 RX12 yX12_sell vfX12_sell) := goodIn_app (goodIn_r [.methodLink RL 198 yX12_sell, .instanceMethod yX12_sell, .selects RX12 yX12_sell yX12_sell, .initialized RX12] [1932, 1933, 1934, 114] (by decide +kernel) (by decide +kernel)) (goodIn_m tffX12_sell qfX12_sell)
set_option maxRecDepth 20000 in
theorem glM_sell_nul : GoodIn lw_tbl (wsV RL 198 RX12 yX12_sell vfX12_sell_nul) := goodIn_app (goodIn_r [.methodLink RL 198 yX12_sell, .instanceMethod yX12_sell, .selects RX12 yX12_sell yX12_sell, .initialized RX12] [1932, 1933, 1934, 114] (by decide +kernel) (by decide +kernel)) (goodIn_m tffX12_sell_nul qfX12_sell_nul)
set_option maxRecDepth 20000 in
theorem glX_day : GoodIn lw_tbl (wsV RL 199 RX10 yX10_day vfX10_day) := goodIn_app (goodIn_r [.methodLink RL 199 yX10_day, .instanceMethod yX10_day, .selects RX10 yX10_day yX10_day, .initialized RX10] [1104, 1105, 1106, 106] (by decide +kernel) (by decide +kernel)) (goodIn_m tffX10_day qfX10_day)
set_option maxRecDepth 20000 in
theorem glM_day : GoodIn lw_tbl (wsV RL 202 RX12 yX12_day vfX12_day) := goodIn_app (goodIn_r [.methodLink RL 202 yX12_day, .instanceMethod yX12_day, .selects RX12 yX12_day yX12_day, .initialized RX12] [1936, 1937, 1938, 114] (by decide +kernel) (by decide +kernel)) (goodIn_m tffX12_day qfX12_day)
set_option maxRecDepth 20000 in
theorem glM_day_nul : GoodIn lw_tbl (wsV RL 202 RX12 yX12_day vfX12_day_nul) := goodIn_app (goodIn_r [.methodLink RL 202 yX12_day, .instanceMethod yX12_day, .selects RX12 yX12_day yX12_day, .initialized RX12] [1936, 1937, 1938, 114] (by decide +kernel) (by decide +kernel)) (goodIn_m tffX12_day_nul qfX12_day_nul)
set_option maxRecDepth 20000 in
theorem glX_seed : GoodIn lw_tbl (wsV RL 203 RX10 yX10_seed vfX10_seed) := goodIn_app (goodIn_r [.methodLink RL 203 yX10_seed, .instanceMethod yX10_seed, .selects RX10 yX10_seed yX10_seed, .initialized RX10] [1109, 1110, 1111, 106] (by decide +kernel) (by decide +kernel)) (goodIn_m tffX10_seed qfX10_seed)
set_option maxRecDepth 20000 in
theorem glM_seed : GoodIn lw_tbl (wsV RL 206 RX12 yX12_seed vfX12_seed) := goodIn_app (goodIn_r [.methodLink RL 206 yX12_seed, .instanceMethod yX12_seed, .selects RX12 yX12_seed yX12_seed, .initialized RX12] [1940, 1941, 1942, 114] (by decide +kernel) (by decide +kernel)) (goodIn_m tffX12_seed qfX12_seed)
set_option maxRecDepth 20000 in
theorem glM_seed_nul : GoodIn lw_tbl (wsV RL 206 RX12 yX12_seed vfX12_seed_nul) := goodIn_app (goodIn_r [.methodLink RL 206 yX12_seed, .instanceMethod yX12_seed, .selects RX12 yX12_seed yX12_seed, .initialized RX12] [1940, 1941, 1942, 114] (by decide +kernel) (by decide +kernel)) (goodIn_m tffX12_seed_nul qfX12_seed_nul)
set_option maxRecDepth 20000 in
theorem glX_undo : GoodIn lw_tbl (wsV RL 207 RX10 yX10_undo vfX10_undo) := goodIn_app (goodIn_r [.methodLink RL 207 yX10_undo, .instanceMethod yX10_undo, .selects RX10 yX10_undo yX10_undo, .initialized RX10] [1113, 1114, 1115, 106] (by decide +kernel) (by decide +kernel)) (goodIn_m tffX10_undo qfX10_undo)
set_option maxRecDepth 20000 in
theorem glM_undo : GoodIn lw_tbl (wsV RL 211 RX12 yX12_undo vfX12_undo) := goodIn_app (goodIn_r [.methodLink RL 211 yX12_undo, .instanceMethod yX12_undo, .selects RX12 yX12_undo yX12_undo, .initialized RX12] [1944, 1945, 1946, 114] (by decide +kernel) (by decide +kernel)) (goodIn_m tffX12_undo qfX12_undo)
set_option maxRecDepth 20000 in
theorem glM_undo_nul : GoodIn lw_tbl (wsV RL 211 RX12 yX12_undo vfX12_undo_nul) := goodIn_app (goodIn_r [.methodLink RL 211 yX12_undo, .instanceMethod yX12_undo, .selects RX12 yX12_undo yX12_undo, .initialized RX12] [1944, 1945, 1946, 114] (by decide +kernel) (by decide +kernel)) (goodIn_m tffX12_undo_nul qfX12_undo_nul)
set_option maxRecDepth 20000 in
theorem glX_mark : GoodIn lw_tbl (wsV RL 212 RX10 yX10_mark vfX10_mark) := goodIn_app (goodIn_r [.methodLink RL 212 yX10_mark, .instanceMethod yX10_mark, .selects RX10 yX10_mark yX10_mark, .initialized RX10] [1121, 1122, 1123, 106] (by decide +kernel) (by decide +kernel)) (goodIn_m tffX10_mark qfX10_mark)
set_option maxRecDepth 20000 in
theorem glM_mark : GoodIn lw_tbl (wsV RL 215 RX12 yX12_mark vfX12_mark) := goodIn_app (goodIn_r [.methodLink RL 215 yX12_mark, .instanceMethod yX12_mark, .selects RX12 yX12_mark yX12_mark, .initialized RX12] [1948, 1949, 1950, 114] (by decide +kernel) (by decide +kernel)) (goodIn_m tffX12_mark qfX12_mark)
set_option maxRecDepth 20000 in
theorem glM_mark_nul : GoodIn lw_tbl (wsV RL 215 RX12 yX12_mark vfX12_mark_nul) := goodIn_app (goodIn_r [.methodLink RL 215 yX12_mark, .instanceMethod yX12_mark, .selects RX12 yX12_mark yX12_mark, .initialized RX12] [1948, 1949, 1950, 114] (by decide +kernel) (by decide +kernel)) (goodIn_m tffX12_mark_nul qfX12_mark_nul)
set_option maxRecDepth 20000 in
theorem glX_back : GoodIn lw_tbl (wsV RL 216 RX10 yX10_back vfX10_back) := goodIn_app (goodIn_r [.methodLink RL 216 yX10_back, .instanceMethod yX10_back, .selects RX10 yX10_back yX10_back, .initialized RX10] [1129, 1130, 1131, 106] (by decide +kernel) (by decide +kernel)) (goodIn_m tffX10_back qfX10_back)
set_option maxRecDepth 20000 in
theorem glM_back : GoodIn lw_tbl (wsV RL 219 RX12 yX12_back vfX12_back) := goodIn_app (goodIn_r [.methodLink RL 219 yX12_back, .instanceMethod yX12_back, .selects RX12 yX12_back yX12_back, .initialized RX12] [1952, 1953, 1954, 114] (by decide +kernel) (by decide +kernel)) (goodIn_m tffX12_back qfX12_back)
set_option maxRecDepth 20000 in
theorem glM_back_nul : GoodIn lw_tbl (wsV RL 219 RX12 yX12_back vfX12_back_nul) := goodIn_app (goodIn_r [.methodLink RL 219 yX12_back, .instanceMethod yX12_back, .selects RX12 yX12_back yX12_back, .initialized RX12] [1952, 1953, 1954, 114] (by decide +kernel) (by decide +kernel)) (goodIn_m tffX12_back_nul qfX12_back_nul)
set_option maxRecDepth 20000 in
theorem glM_led : GoodIn lw_tbl (wsV RL 225 RX12 yX12_led vfX12_led) := goodIn_app (goodIn_r [.methodLink RL 225 yX12_led, .instanceMethod yX12_led, .selects RX12 yX12_led yX12_led, .initialized RX12] [1956, 1957, 1958, 114] (by decide +kernel) (by decide +kernel)) (goodIn_m tffX12_led qfX12_led)
set_option maxRecDepth 20000 in
theorem glM_led_nul : GoodIn lw_tbl (wsV RL 225 RX12 yX12_led vfX12_led_nul) := goodIn_app (goodIn_r [.methodLink RL 225 yX12_led, .instanceMethod yX12_led, .selects RX12 yX12_led yX12_led, .initialized RX12] [1956, 1957, 1958, 114] (by decide +kernel) (by decide +kernel)) (goodIn_m tffX12_led_nul qfX12_led_nul)
set_option maxRecDepth 20000 in
theorem glX_size : GoodIn lw_tbl (wsV RL 226 RX10 yX10_size vfX10_size) := goodIn_app (goodIn_r [.methodLink RL 226 yX10_size, .instanceMethod yX10_size, .selects RX10 yX10_size yX10_size, .initialized RX10] [1138, 1139, 1140, 106] (by decide +kernel) (by decide +kernel)) (goodIn_m tffX10_size qfX10_size)
set_option maxRecDepth 20000 in
theorem glM_size : GoodIn lw_tbl (wsV RL 229 RX12 yX12_size vfX12_size) := goodIn_app (goodIn_r [.methodLink RL 229 yX12_size, .instanceMethod yX12_size, .selects RX12 yX12_size yX12_size, .initialized RX12] [1960, 1961, 1962, 114] (by decide +kernel) (by decide +kernel)) (goodIn_m tffX12_size qfX12_size)
set_option maxRecDepth 20000 in
theorem glM_size_nul : GoodIn lw_tbl (wsV RL 229 RX12 yX12_size vfX12_size_nul) := goodIn_app (goodIn_r [.methodLink RL 229 yX12_size, .instanceMethod yX12_size, .selects RX12 yX12_size yX12_size, .initialized RX12] [1960, 1961, 1962, 114] (by decide +kernel) (by decide +kernel)) (goodIn_m tffX12_size_nul qfX12_size_nul)
set_option maxRecDepth 20000 in
theorem glX_trouble : GoodIn lw_tbl (wsV RL 230 RX10 yX10_trouble vfX10_trouble) := goodIn_app (goodIn_r [.methodLink RL 230 yX10_trouble, .instanceMethod yX10_trouble, .selects RX10 yX10_trouble yX10_trouble, .initialized RX10] [1142, 1143, 1144, 106] (by decide +kernel) (by decide +kernel)) (goodIn_m tffX10_trouble qfX10_trouble)
set_option maxRecDepth 20000 in
theorem glM_trouble : GoodIn lw_tbl (wsV RL 233 RX12 yX12_trouble vfX12_trouble) := goodIn_app (goodIn_r [.methodLink RL 233 yX12_trouble, .instanceMethod yX12_trouble, .selects RX12 yX12_trouble yX12_trouble, .initialized RX12] [1964, 1965, 1966, 114] (by decide +kernel) (by decide +kernel)) (goodIn_m tffX12_trouble qfX12_trouble)

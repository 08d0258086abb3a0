set_option maxRecDepth 20000 in
theorem ggL_law_X7_busy : GoodIn wsL_law wsX7_busy := goodIn_r _ [511, 512, 383, 381, 133, 134, 5, 135, 639, 640, 641, 642, 643, 644, 645, 646, 647, 648, 649, 650, 651, 652, 653, 654, 655, 656, 657, 658, 659, 660, 661, 662, 663, 664, 665, 666, 667, 668, 669, 670, 671, 672, 673, 674, 675, 676, 677, 678, 679, 680, 681, 682, 683, 684, 685, 686, 687, 688] (by decide +kernel) (by decide +kernel)
set_option maxRecDepth 20000 in
theorem gL_law_X7_busy : GoodIn wsL_law (wsV RL 40 RX7 yX7_busy wsX7_busy) := goodIn_app (goodIn_of _ (by decide +kernel)) ggL_law_X7_busy
set_option maxRecDepth 20000 in
theorem gL_law_X6_ofSender : GoodIn wsL_law (wsV RL 41 RX6 yX6_ofSender wsX6_ofSender) := goodIn_app (goodIn_of _ (by decide +kernel)) ggL_law_X6_ofSender
set_option maxRecDepth 20000 in
theorem gL_law_X7_ofSender : GoodIn wsL_law (wsV RL 44 RX7 yX7_ofSender wsX7_ofSender) := goodIn_app (goodIn_of _ (by decide +kernel)) ggL_law_X7_ofSender
set_option maxRecDepth 20000 in
theorem gL_law_X6_sample : GoodIn wsL_law (wsV RL 45 RX6 yX6_sample wsX6_sample) := goodIn_app (goodIn_of _ (by decide +kernel)) ggL_law_X6_sample
set_option maxRecDepth 20000 in
theorem gL_law_X7_sample : GoodIn wsL_law (wsV RL 48 RX7 yX7_sample wsX7_sample) := goodIn_app (goodIn_of _ (by decide +kernel)) ggL_law_X7_sample
set_option maxRecDepth 20000 in
theorem gL_law_X6_best : GoodIn wsL_law (wsV RL 49 RX6 yX6_best wsX6_best) := goodIn_app (goodIn_of _ (by decide +kernel)) ggL_law_X6_best
set_option maxRecDepth 20000 in
theorem gL_law_X7_best : GoodIn wsL_law (wsV RL 52 RX7 yX7_best wsX7_best) := goodIn_app (goodIn_of _ (by decide +kernel)) ggL_law_X7_best
set_option maxRecDepth 20000 in
theorem gL_law_X6_letter : GoodIn wsL_law (wsV RL 53 RX6 yX6_letter wsX6_letter) := goodIn_app (goodIn_of _ (by decide +kernel)) ggL_law_X6_letter
set_option maxRecDepth 20000 in
theorem gL_law_X7_letter : GoodIn wsL_law (wsV RL 56 RX7 yX7_letter wsX7_letter) := goodIn_app (goodIn_of _ (by decide +kernel)) ggL_law_X7_letter
set_option maxRecDepth 20000 in
theorem ggL_law_X6_phase : GoodIn wsL_law wsX6_phase := goodIn_r _ [585, 517, 518, 586, 172, 587, 152, 153, 154, 2, 155, 19, 20, 126, 127, 128, 701, 702, 703, 704, 705, 706, 707, 708, 709, 710, 711, 712, 713, 714, 715, 716, 732, 733, 734, 735, 736, 737, 738, 739, 740, 741, 742, 743, 633, 634, 635, 636, 637, 638] (by decide +kernel) (by decide +kernel)
set_option maxRecDepth 20000 in
theorem gL_law_X6_phase : GoodIn wsL_law (wsV RL 57 RX6 yX6_phase wsX6_phase) := goodIn_app (goodIn_of _ (by decide +kernel)) ggL_law_X6_phase
set_option maxRecDepth 20000 in
theorem ggL_law_X7_phase : GoodIn wsL_law wsX7_phase := goodIn_r _ [591, 108, 109, 381, 110, 161, 162, 5, 163, 133, 134, 135, 639, 640, 641, 642, 643, 644, 645, 646, 647, 648, 649, 650, 651, 652, 653, 654, 655, 656, 657, 658, 659, 660, 661, 662, 663, 664, 665, 666, 667, 668, 669, 670, 671, 672, 673, 674, 675, 676, 677, 678, 679, 680, 681, 682, 683, 684, 685, 686, 687, 688] (by decide +kernel) (by decide +kernel)
set_option maxRecDepth 20000 in
theorem gL_law_X7_phase : GoodIn wsL_law (wsV RL 60 RX7 yX7_phase wsX7_phase) := goodIn_app (goodIn_of _ (by decide +kernel)) ggL_law_X7_phase
set_option maxRecDepth 20000 in
theorem gL_law_X6_model : GoodIn wsL_law (wsV RL 61 RX6 yX6_model wsX6_model) := goodIn_app (goodIn_of _ (by decide +kernel)) ggL_law_X6_model
set_option maxRecDepth 20000 in
theorem gL_law_X7_model : GoodIn wsL_law (wsV RL 64 RX7 yX7_model wsX7_model) := goodIn_app (goodIn_of _ (by decide +kernel)) ggL_law_X7_model
set_option maxRecDepth 20000 in
theorem gL_law_X6_turn : GoodIn wsL_law (wsV RL 65 RX6 yX6_turn wsX6_turn) := goodIn_app (goodIn_of _ (by decide +kernel)) ggL_law_X6_turn
set_option maxRecDepth 20000 in
theorem gL_law_X7_turn : GoodIn wsL_law (wsV RL 68 RX7 yX7_turn wsX7_turn) := goodIn_app (goodIn_of _ (by decide +kernel)) ggL_law_X7_turn
set_option maxRecDepth 20000 in
theorem ggL_law_X6_many : GoodIn wsL_law wsX6_many := goodIn_r _ [627, 172, 19, 521, 20, 525, 517, 628, 174, 633, 634, 635, 636, 637, 638, 701, 702, 703, 704, 705, 706, 707, 708, 709, 710, 711, 712, 713, 714, 715, 716, 732, 733, 734, 735, 736, 737, 738, 739, 740, 741, 742, 743] (by decide +kernel) (by decide +kernel)
set_option maxRecDepth 20000 in
theorem gL_law_X6_many : GoodIn wsL_law (wsV RL 69 RX6 yX6_many wsX6_many) := goodIn_app (goodIn_of _ (by decide +kernel)) ggL_law_X6_many
set_option maxRecDepth 20000 in
theorem ggL_law_X7_many : GoodIn wsL_law wsX7_many := goodIn_r _ [632, 381, 375, 103, 116, 383, 639, 640, 641, 642, 643, 644, 645, 646, 647, 648, 649, 650, 651, 652, 653, 654, 655, 656, 657, 658, 659, 660, 661, 662, 663, 664, 665, 666, 667, 668, 669, 670, 671, 672, 673, 674, 675, 676, 677, 678, 679, 680, 681, 682, 683, 684, 685, 686, 687, 688] (by decide +kernel) (by decide +kernel)
set_option maxRecDepth 20000 in
theorem gL_law_X7_many : GoodIn wsL_law (wsV RL 72 RX7 yX7_many wsX7_many) := goodIn_app (goodIn_of _ (by decide +kernel)) ggL_law_X7_many

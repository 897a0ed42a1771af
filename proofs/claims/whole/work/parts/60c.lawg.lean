set_option maxRecDepth 20000 in
theorem ggL_law_X7_classSetting : GoodIn wsL_law wsX7_classSetting := goodIn_r _ [544, 167, 202, 203, 5, 204, 169, 170, 171, 208, 209, 210, 211, 99, 808, 809, 810, 811, 812, 813, 814, 815, 816] (by decide +kernel) (by decide +kernel)
set_option maxRecDepth 20000 in
theorem gL_law_X7_classSetting : GoodIn wsL_law (wsV RL 60 RX7 yX7_classSetting wsX7_classSetting) := goodIn_app (goodIn_of _ (by decide +kernel)) ggL_law_X7_classSetting
set_option maxRecDepth 20000 in
theorem ggL_law_X6_clock : GoodIn wsL_law wsX6_clock := goodIn_r _ [548, 15, 549, 804, 805, 806, 807, 817, 818, 819, 820, 821, 822, 823, 824, 825, 826, 827] (by decide +kernel) (by decide +kernel)
set_option maxRecDepth 20000 in
theorem gL_law_X6_clock : GoodIn wsL_law (wsV RL 61 RX6 yX6_clock wsX6_clock) := goodIn_app (goodIn_of _ (by decide +kernel)) ggL_law_X6_clock
set_option maxRecDepth 20000 in
theorem ggL_law_X7_clock : GoodIn wsL_law wsX7_clock := goodIn_r _ [553, 99, 808, 809, 810, 811, 812, 813, 814, 815, 816] (by decide +kernel) (by decide +kernel)
set_option maxRecDepth 20000 in
theorem gL_law_X7_clock : GoodIn wsL_law (wsV RL 64 RX7 yX7_clock wsX7_clock) := goodIn_app (goodIn_of _ (by decide +kernel)) ggL_law_X7_clock
set_option maxRecDepth 20000 in
theorem ggL_law_X6_estimate : GoodIn wsL_law wsX6_estimate := goodIn_r _ [557, 15, 558, 107, 559, 223, 2, 224, 158, 159, 160, 31, 161, 54, 804, 805, 806, 807, 817, 818, 819, 820, 821, 822, 823, 824, 825, 826, 827, 835] (by decide +kernel) (by decide +kernel)
set_option maxRecDepth 20000 in
theorem gL_law_X6_estimate : GoodIn wsL_law (wsV RL 65 RX6 yX6_estimate wsX6_estimate) := goodIn_app (goodIn_of _ (by decide +kernel)) ggL_law_X6_estimate
set_option maxRecDepth 20000 in
theorem ggL_law_X7_estimate : GoodIn wsL_law wsX7_estimate := goodIn_r _ [563, 99, 167, 297, 298, 5, 299, 169, 170, 171, 808, 809, 810, 811, 812, 813, 814, 815, 816] (by decide +kernel) (by decide +kernel)
set_option maxRecDepth 20000 in
theorem gL_law_X7_estimate : GoodIn wsL_law (wsV RL 68 RX7 yX7_estimate wsX7_estimate) := goodIn_app (goodIn_of _ (by decide +kernel)) ggL_law_X7_estimate
set_option maxRecDepth 20000 in
theorem ggL_law_X6_tokens : GoodIn wsL_law wsX6_tokens := goodIn_r _ [567, 15, 568, 107, 188, 189, 2, 190, 194, 195, 196, 14, 197, 37, 38, 39, 804, 805, 806, 807, 836, 837, 838, 839, 840, 841, 842, 817, 818, 819, 820, 821, 822, 823, 824, 825, 826, 827] (by decide +kernel) (by decide +kernel)
set_option maxRecDepth 20000 in
theorem gL_law_X6_tokens : GoodIn wsL_law (wsV RL 69 RX6 yX6_tokens wsX6_tokens) := goodIn_app (goodIn_of _ (by decide +kernel)) ggL_law_X6_tokens
set_option maxRecDepth 20000 in
theorem ggL_law_X7_tokens : GoodIn wsL_law wsX7_tokens := goodIn_r _ [572, 99, 167, 202, 203, 5, 204, 169, 170, 171, 808, 809, 810, 811, 812, 813, 814, 815, 816] (by decide +kernel) (by decide +kernel)
set_option maxRecDepth 20000 in
theorem gL_law_X7_tokens : GoodIn wsL_law (wsV RL 72 RX7 yX7_tokens wsX7_tokens) := goodIn_app (goodIn_of _ (by decide +kernel)) ggL_law_X7_tokens
set_option maxRecDepth 20000 in
theorem ggL_law_X6_pass : GoodIn wsL_law wsX6_pass := goodIn_r _ [576, 15, 577, 107, 188, 189, 2, 190, 194, 195, 196, 14, 197, 37, 38, 39, 804, 805, 806, 807, 836, 837, 838, 839, 840, 841, 842, 817, 818, 819, 820, 821, 822, 823, 824, 825, 826, 827] (by decide +kernel) (by decide +kernel)
set_option maxRecDepth 20000 in
theorem gL_law_X6_pass : GoodIn wsL_law (wsV RL 73 RX6 yX6_pass wsX6_pass) := goodIn_app (goodIn_of _ (by decide +kernel)) ggL_law_X6_pass
set_option maxRecDepth 20000 in
theorem ggL_law_X7_pass : GoodIn wsL_law wsX7_pass := goodIn_r _ [581, 99, 167, 202, 203, 5, 204, 169, 170, 171, 808, 809, 810, 811, 812, 813, 814, 815, 816] (by decide +kernel) (by decide +kernel)
set_option maxRecDepth 20000 in
theorem gL_law_X7_pass : GoodIn wsL_law (wsV RL 76 RX7 yX7_pass wsX7_pass) := goodIn_app (goodIn_of _ (by decide +kernel)) ggL_law_X7_pass
set_option maxRecDepth 20000 in
theorem ggL_law_X6_queued : GoodIn wsL_law wsX6_queued := goodIn_r _ [585, 15, 586, 107, 188, 189, 2, 190, 194, 195, 196, 14, 197, 37, 38, 39, 804, 805, 806, 807, 836, 837, 838, 839, 840, 841, 842, 817, 818, 819, 820, 821, 822, 823, 824, 825, 826, 827] (by decide +kernel) (by decide +kernel)
set_option maxRecDepth 20000 in
theorem gL_law_X6_queued : GoodIn wsL_law (wsV RL 77 RX6 yX6_queued wsX6_queued) := goodIn_app (goodIn_of _ (by decide +kernel)) ggL_law_X6_queued
set_option maxRecDepth 20000 in
theorem ggL_law_X7_queued : GoodIn wsL_law wsX7_queued := goodIn_r _ [590, 99, 167, 202, 203, 5, 204, 169, 170, 171, 808, 809, 810, 811, 812, 813, 814, 815, 816] (by decide +kernel) (by decide +kernel)
set_option maxRecDepth 20000 in
theorem gL_law_X7_queued : GoodIn wsL_law (wsV RL 80 RX7 yX7_queued wsX7_queued) := goodIn_app (goodIn_of _ (by decide +kernel)) ggL_law_X7_queued
set_option maxRecDepth 20000 in
theorem ggL_law_X6_queuedAt : GoodIn wsL_law wsX6_queuedAt := goodIn_r _ [594, 107, 108, 15, 586, 595, 495, 188, 189, 2, 190, 194, 195, 196, 14, 197, 37, 38, 39, 158, 159, 160, 31, 161, 54, 804, 805, 806, 807, 836, 837, 838, 839, 840, 841, 842, 817, 818, 819, 820, 821, 822, 823, 824, 825, 826, 827, 835] (by decide +kernel) (by decide +kernel)
set_option maxRecDepth 20000 in
theorem gL_law_X6_queuedAt : GoodIn wsL_law (wsV RL 81 RX6 yX6_queuedAt wsX6_queuedAt) := goodIn_app (goodIn_of _ (by decide +kernel)) ggL_law_X6_queuedAt
set_option maxRecDepth 20000 in
theorem ggL_law_X7_queuedAt : GoodIn wsL_law wsX7_queuedAt := goodIn_r _ [599, 167, 168, 99, 336, 202, 203, 5, 204, 169, 170, 171, 328, 329, 330, 331, 808, 809, 810, 811, 812, 813, 814, 815, 816] (by decide +kernel) (by decide +kernel)
set_option maxRecDepth 20000 in
theorem gL_law_X7_queuedAt : GoodIn wsL_law (wsV RL 84 RX7 yX7_queuedAt wsX7_queuedAt) := goodIn_app (goodIn_of _ (by decide +kernel)) ggL_law_X7_queuedAt
set_option maxRecDepth 20000 in
theorem ggL_law_X6_backlog : GoodIn wsL_law wsX6_backlog := goodIn_r _ [603, 15, 107, 188, 189, 2, 190, 194, 195, 196, 14, 197, 37, 38, 39, 604, 258, 259, 260, 255, 261, 238, 262, 245, 246, 125, 247, 248, 159, 160, 31, 161, 54, 140, 141, 142, 143, 42, 41, 804, 805, 806, 807, 817, 818, 819, 820, 821, 822, 823, 824, 825, 826, 827, 836, 837, 838, 839, 840, 841, 842, 843, 844, 845, 846, 847, 848, 849, 850, 851, 852, 853, 835] (by decide +kernel) (by decide +kernel)
set_option maxRecDepth 20000 in
theorem gL_law_X6_backlog : GoodIn wsL_law (wsV RL 85 RX6 yX6_backlog wsX6_backlog) := goodIn_app (goodIn_of _ (by decide +kernel)) ggL_law_X6_backlog
set_option maxRecDepth 20000 in
theorem ggL_law_X7_backlog : GoodIn wsL_law wsX7_backlog := goodIn_r _ [608, 167, 202, 203, 5, 204, 169, 170, 171, 324, 325, 326, 327, 99, 328, 329, 330, 331, 312, 313, 314, 315, 808, 809, 810, 811, 812, 813, 814, 815, 816] (by decide +kernel) (by decide +kernel)
set_option maxRecDepth 20000 in
theorem gL_law_X7_backlog : GoodIn wsL_law (wsV RL 88 RX7 yX7_backlog wsX7_backlog) := goodIn_app (goodIn_of _ (by decide +kernel)) ggL_law_X7_backlog
set_option maxRecDepth 20000 in
theorem ggL_law_X6_worked : GoodIn wsL_law wsX6_worked := goodIn_r _ [612, 15, 613, 107, 188, 189, 2, 190, 194, 195, 196, 14, 197, 37, 38, 39, 804, 805, 806, 807, 836, 837, 838, 839, 840, 841, 842, 817, 818, 819, 820, 821, 822, 823, 824, 825, 826, 827] (by decide +kernel) (by decide +kernel)
set_option maxRecDepth 20000 in
theorem gL_law_X6_worked : GoodIn wsL_law (wsV RL 89 RX6 yX6_worked wsX6_worked) := goodIn_app (goodIn_of _ (by decide +kernel)) ggL_law_X6_worked
set_option maxRecDepth 20000 in
theorem ggL_law_X7_worked : GoodIn wsL_law wsX7_worked := goodIn_r _ [617, 99, 167, 202, 203, 5, 204, 169, 170, 171, 808, 809, 810, 811, 812, 813, 814, 815, 816] (by decide +kernel) (by decide +kernel)
set_option maxRecDepth 20000 in
theorem gL_law_X7_worked : GoodIn wsL_law (wsV RL 92 RX7 yX7_worked wsX7_worked) := goodIn_app (goodIn_of _ (by decide +kernel)) ggL_law_X7_worked
set_option maxRecDepth 20000 in
theorem ggL_law_X6_refused : GoodIn wsL_law wsX6_refused := goodIn_r _ [621, 107, 15, 622, 188, 189, 2, 190, 194, 195, 196, 14, 197, 37, 38, 39, 158, 159, 160, 31, 161, 54, 804, 805, 806, 807, 836, 837, 838, 839, 840, 841, 842, 817, 818, 819, 820, 821, 822, 823, 824, 825, 826, 827, 835] (by decide +kernel) (by decide +kernel)
set_option maxRecDepth 20000 in
theorem gL_law_X6_refused : GoodIn wsL_law (wsV RL 93 RX6 yX6_refused wsX6_refused) := goodIn_app (goodIn_of _ (by decide +kernel)) ggL_law_X6_refused
set_option maxRecDepth 20000 in
theorem ggL_law_X7_refused : GoodIn wsL_law wsX7_refused := goodIn_r _ [626, 99, 167, 202, 203, 5, 204, 169, 170, 171, 808, 809, 810, 811, 812, 813, 814, 815, 816] (by decide +kernel) (by decide +kernel)
set_option maxRecDepth 20000 in
theorem gL_law_X7_refused : GoodIn wsL_law (wsV RL 96 RX7 yX7_refused wsX7_refused) := goodIn_app (goodIn_of _ (by decide +kernel)) ggL_law_X7_refused
set_option maxRecDepth 20000 in
theorem ggL_law_X6_idle : GoodIn wsL_law wsX6_idle := goodIn_r _ [630, 15, 631, 804, 805, 806, 807, 817, 818, 819, 820, 821, 822, 823, 824, 825, 826, 827] (by decide +kernel) (by decide +kernel)
set_option maxRecDepth 20000 in
theorem gL_law_X6_idle : GoodIn wsL_law (wsV RL 97 RX6 yX6_idle wsX6_idle) := goodIn_app (goodIn_of _ (by decide +kernel)) ggL_law_X6_idle
set_option maxRecDepth 20000 in
theorem ggL_law_X7_idle : GoodIn wsL_law wsX7_idle := goodIn_r _ [635, 99, 808, 809, 810, 811, 812, 813, 814, 815, 816] (by decide +kernel) (by decide +kernel)
set_option maxRecDepth 20000 in
theorem gL_law_X7_idle : GoodIn wsL_law (wsV RL 100 RX7 yX7_idle wsX7_idle) := goodIn_app (goodIn_of _ (by decide +kernel)) ggL_law_X7_idle
set_option maxRecDepth 20000 in
theorem ggL_law_X6_workShare : GoodIn wsL_law wsX6_workShare := goodIn_r _ [639, 640, 15, 613, 188, 189, 2, 190, 194, 195, 196, 14, 197, 37, 38, 39, 804, 805, 806, 807, 836, 837, 838, 839, 840, 841, 842, 817, 818, 819, 820, 821, 822, 823, 824, 825, 826, 827] (by decide +kernel) (by decide +kernel)
set_option maxRecDepth 20000 in
theorem gL_law_X6_workShare : GoodIn wsL_law (wsV RL 101 RX6 yX6_workShare wsX6_workShare) := goodIn_app (goodIn_of _ (by decide +kernel)) ggL_law_X6_workShare
set_option maxRecDepth 20000 in
theorem ggL_law_X7_workShare : GoodIn wsL_law wsX7_workShare := goodIn_r _ [644, 645, 99, 202, 203, 5, 204, 169, 170, 171, 808, 809, 810, 811, 812, 813, 814, 815, 816] (by decide +kernel) (by decide +kernel)
set_option maxRecDepth 20000 in
theorem gL_law_X7_workShare : GoodIn wsL_law (wsV RL 105 RX7 yX7_workShare wsX7_workShare) := goodIn_app (goodIn_of _ (by decide +kernel)) ggL_law_X7_workShare

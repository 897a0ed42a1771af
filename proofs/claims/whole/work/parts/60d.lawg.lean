set_option maxRecDepth 20000 in
theorem ggL_law_X6_requests : GoodIn wsL_law wsX6_requests := goodIn_r _ [649, 15, 650, 804, 805, 806, 807, 817, 818, 819, 820, 821, 822, 823, 824, 825, 826, 827] (by decide +kernel) (by decide +kernel)
set_option maxRecDepth 20000 in
theorem gL_law_X6_requests : GoodIn wsL_law (wsV RL 106 RX6 yX6_requests wsX6_requests) := goodIn_app (goodIn_of _ (by decide +kernel)) ggL_law_X6_requests
set_option maxRecDepth 20000 in
theorem ggL_law_X7_requests : GoodIn wsL_law wsX7_requests := goodIn_r _ [654, 99, 808, 809, 810, 811, 812, 813, 814, 815, 816] (by decide +kernel) (by decide +kernel)
set_option maxRecDepth 20000 in
theorem gL_law_X7_requests : GoodIn wsL_law (wsV RL 109 RX7 yX7_requests wsX7_requests) := goodIn_app (goodIn_of _ (by decide +kernel)) ggL_law_X7_requests
set_option maxRecDepth 20000 in
theorem ggL_law_X6_state : GoodIn wsL_law wsX6_state := goodIn_r _ [658, 15, 107, 659, 660, 141, 142, 14, 143, 42, 41, 804, 805, 806, 807, 843, 844, 845, 846, 847, 848, 849, 850, 851, 852, 853, 817, 818, 819, 820, 821, 822, 823, 824, 825, 826, 827] (by decide +kernel) (by decide +kernel)
set_option maxRecDepth 20000 in
theorem gL_law_X6_state : GoodIn wsL_law (wsV RL 110 RX6 yX6_state wsX6_state) := goodIn_app (goodIn_of _ (by decide +kernel)) ggL_law_X6_state
set_option maxRecDepth 20000 in
theorem ggL_law_X7_state : GoodIn wsL_law wsX7_state := goodIn_r _ [664, 665, 666, 667, 5, 668, 167, 669, 670, 671, 672, 99, 169, 170, 171, 312, 313, 314, 315, 808, 809, 810, 811, 812, 813, 814, 815, 816] (by decide +kernel) (by decide +kernel)
set_option maxRecDepth 20000 in
theorem gL_law_X7_state : GoodIn wsL_law (wsV RL 113 RX7 yX7_state wsX7_state) := goodIn_app (goodIn_of _ (by decide +kernel)) ggL_law_X7_state
set_option maxRecDepth 20000 in
theorem ggL_law_X6_price : GoodIn wsL_law wsX6_price := goodIn_r _ [676, 15, 107, 677, 660, 141, 142, 14, 143, 42, 41, 804, 805, 806, 807, 843, 844, 845, 846, 847, 848, 849, 850, 851, 852, 853, 817, 818, 819, 820, 821, 822, 823, 824, 825, 826, 827] (by decide +kernel) (by decide +kernel)
set_option maxRecDepth 20000 in
theorem gL_law_X6_price : GoodIn wsL_law (wsV RL 114 RX6 yX6_price wsX6_price) := goodIn_app (goodIn_of _ (by decide +kernel)) ggL_law_X6_price
set_option maxRecDepth 20000 in
theorem ggL_law_X7_price : GoodIn wsL_law wsX7_price := goodIn_r _ [681, 665, 666, 667, 5, 668, 167, 669, 670, 671, 672, 99, 169, 170, 171, 312, 313, 314, 315, 808, 809, 810, 811, 812, 813, 814, 815, 816] (by decide +kernel) (by decide +kernel)
set_option maxRecDepth 20000 in
theorem gL_law_X7_price : GoodIn wsL_law (wsV RL 117 RX7 yX7_price wsX7_price) := goodIn_app (goodIn_of _ (by decide +kernel)) ggL_law_X7_price
set_option maxRecDepth 20000 in
theorem ggL_law_X6_done : GoodIn wsL_law wsX6_done := goodIn_r _ [685, 15, 107, 686, 660, 141, 142, 14, 143, 42, 41, 804, 805, 806, 807, 843, 844, 845, 846, 847, 848, 849, 850, 851, 852, 853, 817, 818, 819, 820, 821, 822, 823, 824, 825, 826, 827] (by decide +kernel) (by decide +kernel)
set_option maxRecDepth 20000 in
theorem gL_law_X6_done : GoodIn wsL_law (wsV RL 118 RX6 yX6_done wsX6_done) := goodIn_app (goodIn_of _ (by decide +kernel)) ggL_law_X6_done
set_option maxRecDepth 20000 in
theorem ggL_law_X7_done : GoodIn wsL_law wsX7_done := goodIn_r _ [690, 665, 666, 667, 5, 668, 167, 669, 670, 671, 672, 99, 169, 170, 171, 312, 313, 314, 315, 808, 809, 810, 811, 812, 813, 814, 815, 816] (by decide +kernel) (by decide +kernel)
set_option maxRecDepth 20000 in
theorem gL_law_X7_done : GoodIn wsL_law (wsV RL 121 RX7 yX7_done wsX7_done) := goodIn_app (goodIn_of _ (by decide +kernel)) ggL_law_X7_done
set_option maxRecDepth 20000 in
theorem ggL_law_X6_offers : GoodIn wsL_law wsX6_offers := goodIn_r _ [694, 15, 107, 695, 660, 141, 142, 14, 143, 42, 41, 804, 805, 806, 807, 843, 844, 845, 846, 847, 848, 849, 850, 851, 852, 853, 817, 818, 819, 820, 821, 822, 823, 824, 825, 826, 827] (by decide +kernel) (by decide +kernel)
set_option maxRecDepth 20000 in
theorem gL_law_X6_offers : GoodIn wsL_law (wsV RL 122 RX6 yX6_offers wsX6_offers) := goodIn_app (goodIn_of _ (by decide +kernel)) ggL_law_X6_offers
set_option maxRecDepth 20000 in
theorem ggL_law_X7_offers : GoodIn wsL_law wsX7_offers := goodIn_r _ [699, 665, 666, 667, 5, 668, 167, 669, 670, 671, 672, 99, 169, 170, 171, 312, 313, 314, 315, 808, 809, 810, 811, 812, 813, 814, 815, 816] (by decide +kernel) (by decide +kernel)
set_option maxRecDepth 20000 in
theorem gL_law_X7_offers : GoodIn wsL_law (wsV RL 125 RX7 yX7_offers wsX7_offers) := goodIn_app (goodIn_of _ (by decide +kernel)) ggL_law_X7_offers
set_option maxRecDepth 20000 in
theorem ggL_law_X6_reason : GoodIn wsL_law wsX6_reason := goodIn_r _ [703, 15, 107, 704, 660, 141, 142, 14, 143, 42, 41, 804, 805, 806, 807, 843, 844, 845, 846, 847, 848, 849, 850, 851, 852, 853, 817, 818, 819, 820, 821, 822, 823, 824, 825, 826, 827] (by decide +kernel) (by decide +kernel)
set_option maxRecDepth 20000 in
theorem gL_law_X6_reason : GoodIn wsL_law (wsV RL 126 RX6 yX6_reason wsX6_reason) := goodIn_app (goodIn_of _ (by decide +kernel)) ggL_law_X6_reason
set_option maxRecDepth 20000 in
theorem ggL_law_X7_reason : GoodIn wsL_law wsX7_reason := goodIn_r _ [708, 665, 666, 667, 5, 668, 167, 669, 670, 671, 672, 99, 169, 170, 171, 312, 313, 314, 315, 808, 809, 810, 811, 812, 813, 814, 815, 816] (by decide +kernel) (by decide +kernel)
set_option maxRecDepth 20000 in
theorem gL_law_X7_reason : GoodIn wsL_law (wsV RL 129 RX7 yX7_reason wsX7_reason) := goodIn_app (goodIn_of _ (by decide +kernel)) ggL_law_X7_reason
set_option maxRecDepth 20000 in
theorem ggL_law_X6_when : GoodIn wsL_law wsX6_when := goodIn_r _ [712, 15, 107, 659, 713, 495, 660, 141, 142, 14, 143, 42, 41, 804, 805, 806, 807, 843, 844, 845, 846, 847, 848, 849, 850, 851, 852, 853, 817, 818, 819, 820, 821, 822, 823, 824, 825, 826, 827] (by decide +kernel) (by decide +kernel)
set_option maxRecDepth 20000 in
theorem gL_law_X6_when : GoodIn wsL_law (wsV RL 130 RX6 yX6_when wsX6_when) := goodIn_app (goodIn_of _ (by decide +kernel)) ggL_law_X6_when
set_option maxRecDepth 20000 in
theorem ggL_law_X7_when : GoodIn wsL_law wsX7_when := goodIn_r _ [717, 665, 666, 667, 5, 668, 167, 669, 670, 671, 672, 99, 169, 170, 171, 312, 313, 314, 315, 808, 809, 810, 811, 812, 813, 814, 815, 816] (by decide +kernel) (by decide +kernel)
set_option maxRecDepth 20000 in
theorem gL_law_X7_when : GoodIn wsL_law (wsV RL 133 RX7 yX7_when wsX7_when) := goodIn_app (goodIn_of _ (by decide +kernel)) ggL_law_X7_when
set_option maxRecDepth 20000 in
theorem ggL_law_X6_wouldRefuse : GoodIn wsL_law wsX6_wouldRefuse := goodIn_r _ [721, 107, 15, 188, 189, 2, 190, 559, 223, 224, 194, 195, 196, 14, 197, 37, 38, 39, 722, 242, 243, 244, 33, 245, 246, 125, 247, 248, 159, 160, 31, 161, 54, 723, 251, 252, 253, 254, 255, 32, 256, 257, 258, 259, 260, 261, 238, 262, 140, 141, 142, 143, 42, 41, 263, 264, 804, 805, 806, 807, 817, 818, 819, 820, 821, 822, 823, 824, 825, 826, 827, 835, 836, 837, 838, 839, 840, 841, 842, 843, 844, 845, 846, 847, 848, 849, 850, 851, 852, 853] (by decide +kernel) (by decide +kernel)
set_option maxRecDepth 20000 in
theorem gL_law_X6_wouldRefuse : GoodIn wsL_law (wsV RL 134 RX6 yX6_wouldRefuse wsX6_wouldRefuse) := goodIn_app (goodIn_of _ (by decide +kernel)) ggL_law_X6_wouldRefuse
set_option maxRecDepth 20000 in
theorem ggL_law_X7_wouldRefuse : GoodIn wsL_law wsX7_wouldRefuse := goodIn_r _ [727, 167, 202, 203, 5, 204, 169, 170, 171, 297, 298, 299, 316, 317, 318, 319, 99, 320, 321, 322, 323, 208, 209, 210, 211, 324, 325, 326, 327, 328, 329, 330, 331, 312, 313, 314, 315, 808, 809, 810, 811, 812, 813, 814, 815, 816] (by decide +kernel) (by decide +kernel)
set_option maxRecDepth 20000 in
theorem gL_law_X7_wouldRefuse : GoodIn wsL_law (wsV RL 137 RX7 yX7_wouldRefuse wsX7_wouldRefuse) := goodIn_app (goodIn_of _ (by decide +kernel)) ggL_law_X7_wouldRefuse
set_option maxRecDepth 20000 in
theorem ggL_law_X6_ticksLeft : GoodIn wsL_law wsX6_ticksLeft := goodIn_r _ [731, 15, 109, 158, 159, 160, 31, 161, 54, 732, 733, 734, 2, 735, 16, 736, 495, 737, 738, 739, 740, 741, 128, 129, 14, 130, 32, 33, 37, 38, 39, 42, 43, 44, 45, 46, 131, 132, 133, 134, 135, 136, 137, 36, 138, 60, 61, 62, 63, 64, 65, 66, 139, 140, 141, 142, 143, 41, 144, 145, 146, 48, 147, 148, 149, 150, 151, 152, 153, 154, 155, 156, 157, 162, 69, 70, 71, 742, 354, 355, 356, 254, 270, 287, 249, 195, 196, 197, 248, 357, 358, 359, 360, 361, 124, 125, 126, 362, 233, 234, 235, 236, 237, 238, 239, 240, 241, 242, 243, 244, 245, 246, 247, 250, 251, 252, 253, 255, 256, 257, 258, 259, 260, 261, 262, 263, 264, 265, 266, 267, 268, 269, 271, 272, 273, 274, 275, 276, 277, 278, 279, 280, 68, 281, 282, 283, 284, 285, 286, 72, 363, 364, 365, 366, 367, 368, 369, 370, 371, 372, 373, 374, 375, 376, 377, 378, 379, 380, 381, 382, 383, 384, 385, 386, 387, 388, 804, 805, 806, 807, 817, 818, 819, 820, 821, 822, 823, 824, 825, 826, 827, 835, 836, 837, 838, 839, 840, 841, 842, 843, 844, 845, 846, 847, 848, 849, 850, 851, 852, 853] (by decide +kernel) (by decide +kernel)
set_option maxRecDepth 20000 in
theorem gL_law_X6_ticksLeft : GoodIn wsL_law (wsV RL 138 RX6 yX6_ticksLeft wsX6_ticksLeft) := goodIn_app (goodIn_of _ (by decide +kernel)) ggL_law_X6_ticksLeft
set_option maxRecDepth 20000 in
theorem ggL_law_X7_ticksLeft : GoodIn wsL_law wsX7_ticksLeft := goodIn_r _ [746, 99, 747, 748, 749, 5, 750, 336, 751, 752, 753, 754, 100, 755, 756, 757, 758, 759, 760, 761, 762, 763, 764, 765, 766, 312, 313, 314, 315, 401, 402, 403, 404, 208, 209, 210, 211, 405, 406, 407, 408, 308, 309, 310, 311, 304, 305, 306, 307, 316, 317, 318, 319, 320, 321, 322, 323, 324, 325, 326, 327, 328, 329, 330, 331, 332, 333, 334, 335, 337, 338, 339, 340, 409, 410, 411, 412, 413, 414, 415, 416, 417, 418, 419, 420, 421, 422, 423, 424, 767, 768, 769, 770, 808, 809, 810, 811, 812, 813, 814, 815, 816] (by decide +kernel) (by decide +kernel)
set_option maxRecDepth 20000 in
theorem gL_law_X7_ticksLeft : GoodIn wsL_law (wsV RL 141 RX7 yX7_ticksLeft wsX7_ticksLeft) := goodIn_app (goodIn_of _ (by decide +kernel)) ggL_law_X7_ticksLeft
set_option maxRecDepth 20000 in
theorem ggL_law_X6_ticksIf : GoodIn wsL_law wsX6_ticksIf := goodIn_r _ [774, 108, 113, 114, 2, 115, 116, 117, 118, 732, 733, 734, 735, 16, 736, 495, 737, 738, 739, 740, 15, 109, 741, 128, 129, 14, 130, 32, 33, 37, 38, 39, 42, 43, 44, 45, 46, 131, 132, 133, 31, 134, 54, 135, 136, 137, 36, 138, 60, 61, 62, 63, 64, 65, 66, 139, 140, 141, 142, 143, 41, 144, 145, 146, 48, 147, 148, 149, 150, 151, 152, 153, 154, 155, 156, 157, 162, 69, 70, 71, 742, 354, 355, 356, 254, 270, 287, 249, 195, 196, 197, 248, 159, 160, 161, 357, 358, 359, 360, 361, 124, 125, 126, 362, 233, 234, 235, 236, 237, 238, 239, 240, 241, 242, 243, 244, 245, 246, 247, 250, 251, 252, 253, 255, 256, 257, 258, 259, 260, 261, 262, 263, 264, 265, 266, 267, 268, 269, 271, 272, 273, 274, 275, 276, 277, 278, 279, 280, 68, 281, 282, 283, 284, 285, 286, 72, 363, 364, 365, 366, 367, 368, 369, 370, 371, 372, 373, 374, 375, 376, 377, 378, 379, 380, 381, 382, 383, 384, 385, 386, 387, 388, 804, 805, 806, 807, 817, 818, 819, 820, 821, 822, 823, 824, 825, 826, 827, 835, 836, 837, 838, 839, 840, 841, 842, 843, 844, 845, 846, 847, 848, 849, 850, 851, 852, 853] (by decide +kernel) (by decide +kernel)
set_option maxRecDepth 20000 in
theorem gL_law_X6_ticksIf : GoodIn wsL_law (wsV RL 142 RX6 yX6_ticksIf wsX6_ticksIf) := goodIn_app (goodIn_of _ (by decide +kernel)) ggL_law_X6_ticksIf
set_option maxRecDepth 20000 in
theorem ggL_law_X7_ticksIf : GoodIn wsL_law wsX7_ticksIf := goodIn_r _ [778, 168, 169, 170, 5, 171, 747, 748, 749, 750, 99, 336, 751, 752, 753, 754, 100, 755, 756, 757, 758, 759, 760, 761, 762, 763, 764, 765, 766, 312, 313, 314, 315, 401, 402, 403, 404, 208, 209, 210, 211, 405, 406, 407, 408, 308, 309, 310, 311, 304, 305, 306, 307, 316, 317, 318, 319, 320, 321, 322, 323, 324, 325, 326, 327, 328, 329, 330, 331, 332, 333, 334, 335, 337, 338, 339, 340, 409, 410, 411, 412, 413, 414, 415, 416, 417, 418, 419, 420, 421, 422, 423, 424, 767, 768, 769, 770, 808, 809, 810, 811, 812, 813, 814, 815, 816] (by decide +kernel) (by decide +kernel)
set_option maxRecDepth 20000 in
theorem gL_law_X7_ticksIf : GoodIn wsL_law (wsV RL 145 RX7 yX7_ticksIf wsX7_ticksIf) := goodIn_app (goodIn_of _ (by decide +kernel)) ggL_law_X7_ticksIf
set_option maxRecDepth 20000 in
theorem ggL_law_X6_leastCapacity : GoodIn wsL_law wsX6_leastCapacity := goodIn_r _ [782, 495, 783, 784, 785, 2, 786, 16, 736, 787, 15, 737, 738, 739, 740, 109, 741, 128, 129, 14, 130, 32, 33, 37, 38, 39, 42, 43, 44, 45, 46, 131, 132, 133, 31, 134, 54, 135, 136, 137, 36, 138, 60, 61, 62, 63, 64, 65, 66, 139, 140, 141, 142, 143, 41, 144, 145, 146, 48, 147, 148, 149, 150, 151, 152, 153, 154, 155, 156, 157, 162, 69, 70, 71, 742, 354, 355, 356, 254, 270, 287, 249, 195, 196, 197, 248, 159, 160, 161, 357, 358, 359, 360, 361, 124, 125, 126, 362, 233, 234, 235, 236, 237, 238, 239, 240, 241, 242, 243, 244, 245, 246, 247, 250, 251, 252, 253, 255, 256, 257, 258, 259, 260, 261, 262, 263, 264, 265, 266, 267, 268, 269, 271, 272, 273, 274, 275, 276, 277, 278, 279, 280, 68, 281, 282, 283, 284, 285, 286, 72, 363, 364, 365, 366, 367, 368, 369, 370, 371, 372, 373, 374, 375, 376, 377, 378, 379, 380, 381, 382, 383, 384, 385, 386, 387, 388, 804, 805, 806, 807, 817, 818, 819, 820, 821, 822, 823, 824, 825, 826, 827, 835, 836, 837, 838, 839, 840, 841, 842, 843, 844, 845, 846, 847, 848, 849, 850, 851, 852, 853] (by decide +kernel) (by decide +kernel)
set_option maxRecDepth 20000 in
theorem gL_law_X6_leastCapacity : GoodIn wsL_law (wsV RL 146 RX6 yX6_leastCapacity wsX6_leastCapacity) := goodIn_app (goodIn_of _ (by decide +kernel)) ggL_law_X6_leastCapacity
set_option maxRecDepth 20000 in
theorem ggL_law_X7_leastCapacity : GoodIn wsL_law wsX7_leastCapacity := goodIn_r _ [791, 336, 99, 751, 752, 753, 5, 754, 100, 763, 764, 765, 766, 312, 313, 314, 315, 755, 756, 757, 758, 759, 760, 761, 762, 401, 402, 403, 404, 208, 209, 210, 211, 405, 406, 407, 408, 308, 309, 310, 311, 304, 305, 306, 307, 316, 317, 318, 319, 320, 321, 322, 323, 324, 325, 326, 327, 328, 329, 330, 331, 332, 333, 334, 335, 337, 338, 339, 340, 409, 410, 411, 412, 413, 414, 415, 416, 417, 418, 419, 420, 421, 422, 423, 424, 767, 768, 769, 770, 808, 809, 810, 811, 812, 813, 814, 815, 816] (by decide +kernel) (by decide +kernel)
set_option maxRecDepth 20000 in
theorem gL_law_X7_leastCapacity : GoodIn wsL_law (wsV RL 149 RX7 yX7_leastCapacity wsX7_leastCapacity) := goodIn_app (goodIn_of _ (by decide +kernel)) ggL_law_X7_leastCapacity
set_option maxRecDepth 20000 in
theorem ggL_law_X6_finish : GoodIn wsL_law wsX6_finish := goodIn_r _ [795, 16, 15, 107, 659, 713, 495, 741, 128, 129, 14, 130, 32, 33, 37, 38, 39, 42, 43, 44, 45, 46, 131, 132, 133, 31, 134, 54, 135, 136, 137, 36, 138, 60, 61, 62, 63, 64, 65, 66, 139, 140, 141, 142, 143, 41, 144, 145, 146, 48, 147, 148, 149, 150, 151, 152, 153, 154, 155, 156, 157, 660, 796, 797, 798, 799, 742, 354, 355, 356, 254, 270, 287, 249, 195, 196, 197, 248, 159, 160, 161, 357, 358, 359, 360, 361, 124, 125, 126, 362, 233, 234, 235, 236, 237, 238, 239, 240, 241, 242, 243, 244, 245, 246, 247, 250, 251, 252, 253, 255, 256, 257, 258, 259, 260, 261, 262, 263, 2, 264, 265, 266, 267, 268, 269, 271, 272, 273, 274, 275, 276, 277, 278, 279, 280, 68, 69, 70, 71, 281, 282, 283, 284, 285, 286, 72, 363, 364, 365, 366, 367, 368, 369, 370, 371, 372, 373, 374, 375, 376, 377, 378, 379, 380, 381, 382, 383, 384, 385, 386, 387, 388, 804, 805, 806, 807, 843, 844, 845, 846, 847, 848, 849, 850, 851, 852, 853, 817, 818, 819, 820, 821, 822, 823, 824, 825, 826, 827, 835, 836, 837, 838, 839, 840, 841, 842] (by decide +kernel) (by decide +kernel)
set_option maxRecDepth 20000 in
theorem gL_law_X6_finish : GoodIn wsL_law (wsV RL 150 RX6 yX6_finish wsX6_finish) := goodIn_app (goodIn_of _ (by decide +kernel)) ggL_law_X6_finish

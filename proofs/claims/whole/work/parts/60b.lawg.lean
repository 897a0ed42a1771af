set_option maxRecDepth 20000 in
theorem ggL_law_X6_init : GoodIn wsL_law wsX6_init := goodIn_r _ [8, 9, 10, 11, 12, 13, 14, 15, 16, 17, 18, 19, 20, 21, 22, 23, 24, 25, 26, 27, 28, 29, 30, 31, 32, 33, 34, 35, 36, 37, 38, 39, 40, 41, 42, 43, 44, 45, 46, 47, 48, 49, 50, 51, 52, 53, 54, 55, 56, 57, 58, 59, 60, 61, 62, 63, 64, 65, 66, 67, 68, 69, 70, 71, 72, 73, 74, 75, 76, 77, 78, 79, 80, 81, 82, 83, 84, 85, 86, 87, 88, 89, 90, 91, 92, 93, 94, 817, 818, 819, 820, 821, 822, 823, 824, 825, 826, 827, 804, 805, 806, 807, 828, 829, 830, 831, 832, 833, 834, 835, 836, 837, 838, 839, 840, 841, 842, 843, 844, 845, 846, 847, 848, 849, 850, 851, 852, 853] (by decide +kernel) (by decide +kernel)
set_option maxRecDepth 20000 in
theorem gL_law_X6_init : GoodIn wsL_law (wsX6_init) := ggL_law_X6_init
set_option maxRecDepth 20000 in
theorem ggL_law_X7_init : GoodIn wsL_law wsX7_init := goodIn_r _ [97, 98, 10, 11, 53, 99, 100, 101, 102, 808, 809, 810, 811, 812, 813, 814, 815, 816] (by decide +kernel) (by decide +kernel)
set_option maxRecDepth 20000 in
theorem gL_law_X7_init : GoodIn wsL_law (wsX7_init) := ggL_law_X7_init
set_option maxRecDepth 20000 in
theorem ggL_law_X6_set : GoodIn wsL_law wsX6_set := goodIn_r _ [106, 107, 108, 20, 15, 109, 110, 111, 2, 112, 113, 114, 115, 116, 117, 118, 119, 120, 121, 19, 122, 85, 84, 83, 82, 86, 123, 124, 125, 126, 127, 128, 129, 14, 130, 32, 33, 37, 38, 39, 42, 43, 44, 45, 46, 131, 132, 133, 31, 134, 54, 135, 136, 137, 36, 138, 60, 61, 62, 63, 64, 65, 66, 139, 140, 141, 142, 143, 41, 144, 145, 146, 48, 147, 148, 149, 150, 151, 152, 153, 154, 155, 156, 157, 158, 159, 160, 161, 162, 69, 70, 71, 804, 805, 806, 807, 817, 818, 819, 820, 821, 822, 823, 824, 825, 826, 827, 828, 829, 830, 831, 832, 835, 836, 837, 838, 839, 840, 841, 842, 843, 844, 845, 846, 847, 848, 849, 850, 851, 852, 853] (by decide +kernel) (by decide +kernel)
set_option maxRecDepth 20000 in
theorem gL_law_X6_set : GoodIn wsL_law (wsV RL 13 RX6 yX6_set wsX6_set) := goodIn_app (goodIn_of _ (by decide +kernel)) ggL_law_X6_set
set_option maxRecDepth 20000 in
theorem ggL_law_X7_set : GoodIn wsL_law wsX7_set := goodIn_r _ [166, 167, 168, 99, 169, 170, 5, 171, 172, 173, 174, 175, 176, 177, 178, 179, 180, 181, 182, 101, 808, 809, 810, 811, 812, 813, 814, 815, 816] (by decide +kernel) (by decide +kernel)
set_option maxRecDepth 20000 in
theorem gL_law_X7_set : GoodIn wsL_law (wsV RL 17 RX7 yX7_set wsX7_set) := goodIn_app (goodIn_of _ (by decide +kernel)) ggL_law_X7_set
set_option maxRecDepth 20000 in
theorem ggL_law_X6_setClass : GoodIn wsL_law wsX6_setClass := goodIn_r _ [186, 107, 108, 20, 15, 187, 188, 189, 2, 190, 110, 111, 112, 191, 192, 193, 116, 117, 118, 119, 120, 121, 19, 122, 85, 84, 83, 82, 86, 123, 124, 125, 126, 127, 128, 129, 14, 130, 32, 33, 37, 38, 39, 42, 43, 44, 45, 46, 131, 132, 133, 31, 134, 54, 135, 136, 137, 36, 138, 60, 61, 62, 63, 64, 65, 66, 139, 140, 141, 142, 143, 41, 144, 145, 146, 48, 147, 148, 149, 150, 151, 152, 153, 154, 155, 156, 157, 194, 195, 196, 197, 158, 159, 160, 161, 162, 69, 70, 71, 804, 805, 806, 807, 836, 837, 838, 839, 840, 841, 842, 828, 829, 830, 831, 832, 817, 818, 819, 820, 821, 822, 823, 824, 825, 826, 827, 835, 843, 844, 845, 846, 847, 848, 849, 850, 851, 852, 853] (by decide +kernel) (by decide +kernel)
set_option maxRecDepth 20000 in
theorem gL_law_X6_setClass : GoodIn wsL_law (wsV RL 18 RX6 yX6_setClass wsX6_setClass) := goodIn_app (goodIn_of _ (by decide +kernel)) ggL_law_X6_setClass
set_option maxRecDepth 20000 in
theorem ggL_law_X7_setClass : GoodIn wsL_law wsX7_setClass := goodIn_r _ [201, 167, 168, 99, 202, 203, 5, 204, 169, 170, 171, 205, 206, 207, 178, 179, 180, 181, 182, 101, 208, 209, 210, 211, 808, 809, 810, 811, 812, 813, 814, 815, 816] (by decide +kernel) (by decide +kernel)
set_option maxRecDepth 20000 in
theorem gL_law_X7_setClass : GoodIn wsL_law (wsV RL 22 RX7 yX7_setClass wsX7_setClass) := goodIn_app (goodIn_of _ (by decide +kernel)) ggL_law_X7_setClass
set_option maxRecDepth 20000 in
theorem ggL_law_X6_offer : GoodIn wsL_law wsX6_offer := goodIn_r _ [215, 15, 20, 216, 217, 218, 14, 219, 220, 221, 42, 222, 189, 2, 190, 223, 224, 117, 118, 119, 120, 121, 19, 122, 85, 84, 83, 82, 86, 123, 124, 125, 126, 127, 128, 129, 130, 32, 33, 37, 38, 39, 43, 44, 45, 46, 131, 132, 133, 31, 134, 54, 135, 136, 137, 36, 138, 60, 61, 62, 63, 64, 65, 66, 139, 140, 141, 142, 143, 41, 144, 145, 146, 48, 147, 148, 149, 150, 151, 152, 153, 154, 155, 156, 157, 225, 226, 227, 228, 229, 230, 231, 232, 233, 234, 235, 236, 237, 238, 239, 240, 241, 242, 243, 244, 245, 246, 247, 248, 159, 160, 161, 249, 195, 196, 197, 250, 251, 252, 253, 254, 255, 256, 257, 258, 259, 260, 261, 262, 263, 264, 265, 266, 267, 268, 269, 270, 271, 272, 273, 274, 275, 276, 277, 278, 279, 280, 68, 69, 70, 71, 281, 282, 283, 284, 285, 286, 287, 72, 804, 805, 806, 807, 817, 818, 819, 820, 821, 822, 823, 824, 825, 826, 827, 828, 829, 830, 831, 832, 835, 836, 837, 838, 839, 840, 841, 842, 843, 844, 845, 846, 847, 848, 849, 850, 851, 852, 853] (by decide +kernel) (by decide +kernel)
set_option maxRecDepth 20000 in
theorem gL_law_X6_offer : GoodIn wsL_law (wsV RL 23 RX6 yX6_offer wsX6_offer) := goodIn_app (goodIn_of _ (by decide +kernel)) ggL_law_X6_offer
set_option maxRecDepth 20000 in
theorem ggL_law_X7_offer : GoodIn wsL_law wsX7_offer := goodIn_r _ [291, 292, 293, 294, 5, 295, 167, 168, 99, 296, 202, 203, 204, 169, 170, 171, 297, 298, 299, 178, 179, 180, 181, 182, 101, 300, 301, 302, 303, 304, 305, 306, 307, 308, 309, 310, 311, 312, 313, 314, 315, 316, 317, 318, 319, 320, 321, 322, 323, 208, 209, 210, 211, 324, 325, 326, 327, 328, 329, 330, 331, 332, 333, 334, 335, 336, 337, 338, 339, 340, 808, 809, 810, 811, 812, 813, 814, 815, 816] (by decide +kernel) (by decide +kernel)
set_option maxRecDepth 20000 in
theorem gL_law_X7_offer : GoodIn wsL_law (wsV RL 26 RX7 yX7_offer wsX7_offer) := goodIn_app (goodIn_of _ (by decide +kernel)) ggL_law_X7_offer
set_option maxRecDepth 20000 in
theorem ggL_law_X6_advance : GoodIn wsL_law wsX6_advance := goodIn_r _ [344, 15, 20, 345, 346, 347, 14, 348, 221, 45, 222, 117, 2, 118, 119, 120, 121, 19, 122, 85, 84, 83, 82, 86, 123, 124, 125, 126, 127, 128, 129, 130, 32, 33, 37, 38, 39, 42, 43, 44, 46, 131, 132, 133, 31, 134, 54, 135, 136, 137, 36, 138, 60, 61, 62, 63, 64, 65, 66, 139, 140, 141, 142, 143, 41, 144, 145, 146, 48, 147, 148, 149, 150, 151, 152, 153, 154, 155, 156, 157, 349, 350, 351, 352, 353, 354, 355, 356, 254, 270, 287, 249, 195, 196, 197, 248, 159, 160, 161, 357, 358, 359, 360, 361, 362, 233, 234, 235, 236, 237, 238, 239, 240, 241, 242, 243, 244, 245, 246, 247, 250, 251, 252, 253, 255, 256, 257, 258, 259, 260, 261, 262, 263, 264, 265, 266, 267, 268, 269, 271, 272, 273, 274, 275, 276, 277, 278, 279, 280, 68, 69, 70, 71, 281, 282, 283, 284, 285, 286, 72, 363, 364, 365, 366, 367, 368, 369, 370, 371, 372, 373, 374, 375, 376, 377, 378, 379, 380, 381, 382, 383, 384, 385, 386, 387, 388, 804, 805, 806, 807, 817, 818, 819, 820, 821, 822, 823, 824, 825, 826, 827, 828, 829, 830, 831, 832, 835, 836, 837, 838, 839, 840, 841, 842, 843, 844, 845, 846, 847, 848, 849, 850, 851, 852, 853] (by decide +kernel) (by decide +kernel)
set_option maxRecDepth 20000 in
theorem gL_law_X6_advance : GoodIn wsL_law (wsV RL 27 RX6 yX6_advance wsX6_advance) := goodIn_app (goodIn_of _ (by decide +kernel)) ggL_law_X6_advance
set_option maxRecDepth 20000 in
theorem ggL_law_X7_advance : GoodIn wsL_law wsX7_advance := goodIn_r _ [392, 393, 394, 395, 5, 396, 168, 99, 296, 169, 170, 171, 178, 179, 180, 181, 182, 101, 397, 398, 399, 400, 401, 402, 403, 404, 208, 209, 210, 211, 405, 406, 407, 408, 312, 313, 314, 315, 308, 309, 310, 311, 304, 305, 306, 307, 316, 317, 318, 319, 320, 321, 322, 323, 324, 325, 326, 327, 328, 329, 330, 331, 332, 333, 334, 335, 336, 337, 338, 339, 340, 409, 410, 411, 412, 413, 414, 415, 416, 417, 418, 419, 420, 421, 422, 423, 424, 808, 809, 810, 811, 812, 813, 814, 815, 816] (by decide +kernel) (by decide +kernel)
set_option maxRecDepth 20000 in
theorem gL_law_X7_advance : GoodIn wsL_law (wsV RL 31 RX7 yX7_advance wsX7_advance) := goodIn_app (goodIn_of _ (by decide +kernel)) ggL_law_X7_advance
set_option maxRecDepth 20000 in
theorem ggL_law_X6_append : GoodIn wsL_law wsX6_append := goodIn_r _ [428, 108, 24, 429, 430, 431, 432, 433, 23, 434, 93, 92, 435, 69, 70, 31, 71, 54, 804, 805, 806, 807, 833, 834, 835] (by decide +kernel) (by decide +kernel)
set_option maxRecDepth 20000 in
theorem gL_law_X6_append : GoodIn wsL_law (wsV RL 32 RX6 yX6_append wsX6_append) := goodIn_app (goodIn_of _ (by decide +kernel)) ggL_law_X6_append
set_option maxRecDepth 20000 in
theorem ggL_law_X7_append : GoodIn wsL_law wsX7_append := goodIn_r _ [439, 168, 440, 296, 102, 169, 170, 5, 171, 808, 809, 810, 811, 812, 813, 814, 815, 816] (by decide +kernel) (by decide +kernel)
set_option maxRecDepth 20000 in
theorem gL_law_X7_append : GoodIn wsL_law (wsV RL 35 RX7 yX7_append wsX7_append) := goodIn_app (goodIn_of _ (by decide +kernel)) ggL_law_X7_append
set_option maxRecDepth 20000 in
theorem ggL_law_X6_clearText : GoodIn wsL_law wsX6_clearText := goodIn_r _ [444, 24, 429, 804, 805, 806, 807, 833, 834] (by decide +kernel) (by decide +kernel)
set_option maxRecDepth 20000 in
theorem gL_law_X6_clearText : GoodIn wsL_law (wsV RL 36 RX6 yX6_clearText wsX6_clearText) := goodIn_app (goodIn_of _ (by decide +kernel)) ggL_law_X6_clearText
set_option maxRecDepth 20000 in
theorem ggL_law_X7_clearText : GoodIn wsL_law wsX7_clearText := goodIn_r _ [448, 440, 808, 809, 810, 811, 812, 813, 814, 815, 816] (by decide +kernel) (by decide +kernel)
set_option maxRecDepth 20000 in
theorem gL_law_X7_clearText : GoodIn wsL_law (wsV RL 40 RX7 yX7_clearText wsX7_clearText) := goodIn_app (goodIn_of _ (by decide +kernel)) ggL_law_X7_clearText
set_option maxRecDepth 20000 in
theorem ggL_law_X6_fault : GoodIn wsL_law wsX6_fault := goodIn_r _ [452, 24, 453, 454, 455, 23, 456, 93, 92, 457, 458, 159, 160, 31, 161, 54, 459, 460, 461, 117, 2, 118, 462, 463, 464, 465, 466, 467, 804, 805, 806, 807, 833, 834, 835] (by decide +kernel) (by decide +kernel)
set_option maxRecDepth 20000 in
theorem gL_law_X6_fault : GoodIn wsL_law (wsV RL 41 RX6 yX6_fault wsX6_fault) := goodIn_app (goodIn_of _ (by decide +kernel)) ggL_law_X6_fault
set_option maxRecDepth 20000 in
theorem ggL_law_X7_fault : GoodIn wsL_law wsX7_fault := goodIn_r _ [471, 472, 473, 474, 5, 475, 440, 336, 102, 476, 477, 478, 479, 480, 481, 482, 483, 484, 485, 486, 487, 488, 489, 490, 169, 170, 171, 808, 809, 810, 811, 812, 813, 814, 815, 816] (by decide +kernel) (by decide +kernel)
set_option maxRecDepth 20000 in
theorem gL_law_X7_fault : GoodIn wsL_law (wsV RL 44 RX7 yX7_fault wsX7_fault) := goodIn_app (goodIn_of _ (by decide +kernel)) ggL_law_X7_fault
set_option maxRecDepth 20000 in
theorem ggL_law_X6_run : GoodIn wsL_law wsX6_run := goodIn_r _ [494, 24, 495, 496, 20, 15, 429, 453, 454, 455, 23, 456, 93, 92, 457, 458, 159, 160, 31, 161, 54, 459, 460, 461, 117, 2, 118, 462, 463, 464, 465, 466, 467, 119, 120, 121, 19, 122, 85, 84, 83, 82, 86, 123, 124, 125, 126, 127, 128, 129, 14, 130, 32, 33, 37, 38, 39, 42, 43, 44, 45, 46, 131, 132, 133, 134, 135, 136, 137, 36, 138, 60, 61, 62, 63, 64, 65, 66, 139, 140, 141, 142, 143, 41, 144, 145, 146, 48, 147, 148, 149, 150, 151, 152, 153, 154, 155, 156, 157, 497, 498, 499, 500, 501, 502, 503, 504, 505, 158, 506, 507, 508, 509, 345, 346, 347, 348, 221, 222, 349, 350, 351, 352, 353, 354, 355, 356, 254, 270, 287, 249, 195, 196, 197, 248, 357, 358, 359, 360, 361, 362, 233, 234, 235, 236, 237, 238, 239, 240, 241, 242, 243, 244, 245, 246, 247, 250, 251, 252, 253, 255, 256, 257, 258, 259, 260, 261, 262, 263, 264, 265, 266, 267, 268, 269, 271, 272, 273, 274, 275, 276, 277, 278, 279, 280, 68, 69, 70, 71, 281, 282, 283, 284, 285, 286, 72, 363, 364, 365, 366, 367, 368, 369, 370, 371, 372, 373, 374, 375, 376, 377, 378, 379, 380, 381, 382, 383, 384, 385, 386, 387, 388, 216, 217, 218, 219, 220, 189, 190, 223, 224, 225, 226, 227, 228, 229, 230, 231, 232, 804, 805, 806, 807, 833, 834, 835, 828, 829, 830, 831, 832, 817, 818, 819, 820, 821, 822, 823, 824, 825, 826, 827, 836, 837, 838, 839, 840, 841, 842, 843, 844, 845, 846, 847, 848, 849, 850, 851, 852, 853] (by decide +kernel) (by decide +kernel)
set_option maxRecDepth 20000 in
theorem gL_law_X6_run : GoodIn wsL_law (wsV RL 45 RX6 yX6_run wsX6_run) := goodIn_app (goodIn_of _ (by decide +kernel)) ggL_law_X6_run
set_option maxRecDepth 20000 in
theorem ggL_law_X7_run : GoodIn wsL_law wsX7_run := goodIn_r _ [513, 514, 440, 480, 490, 481, 472, 473, 474, 5, 475, 336, 102, 476, 477, 478, 479, 482, 483, 484, 485, 486, 487, 488, 489, 169, 170, 171, 178, 179, 180, 181, 182, 101, 99, 393, 394, 395, 396, 168, 296, 292, 293, 294, 295, 167, 202, 203, 204, 297, 298, 299, 397, 398, 399, 400, 401, 402, 403, 404, 208, 209, 210, 211, 405, 406, 407, 408, 312, 313, 314, 315, 308, 309, 310, 311, 304, 305, 306, 307, 316, 317, 318, 319, 320, 321, 322, 323, 324, 325, 326, 327, 328, 329, 330, 331, 332, 333, 334, 335, 337, 338, 339, 340, 409, 410, 411, 412, 413, 414, 415, 416, 417, 418, 419, 420, 421, 422, 423, 424, 300, 301, 302, 303, 808, 809, 810, 811, 812, 813, 814, 815, 816] (by decide +kernel) (by decide +kernel)
set_option maxRecDepth 20000 in
theorem gL_law_X7_run : GoodIn wsL_law (wsV RL 48 RX7 yX7_run wsX7_run) := goodIn_app (goodIn_of _ (by decide +kernel)) ggL_law_X7_run
set_option maxRecDepth 20000 in
theorem ggL_law_X6_undo : GoodIn wsL_law wsX6_undo := goodIn_r _ [518, 20, 519, 495, 15, 520, 521, 522, 19, 523, 82, 83, 84, 85, 86, 524, 246, 125, 247, 127, 128, 129, 14, 130, 32, 33, 37, 38, 39, 42, 43, 44, 45, 46, 131, 132, 133, 31, 134, 54, 135, 136, 137, 36, 138, 60, 61, 62, 63, 64, 65, 66, 139, 140, 141, 142, 143, 41, 144, 145, 146, 48, 147, 148, 149, 150, 151, 152, 153, 154, 155, 156, 157, 804, 805, 806, 807, 828, 829, 830, 831, 832, 817, 818, 819, 820, 821, 822, 823, 824, 825, 826, 827, 835, 836, 837, 838, 839, 840, 841, 842, 843, 844, 845, 846, 847, 848, 849, 850, 851, 852, 853] (by decide +kernel) (by decide +kernel)
set_option maxRecDepth 20000 in
theorem gL_law_X6_undo : GoodIn wsL_law (wsV RL 49 RX6 yX6_undo wsX6_undo) := goodIn_app (goodIn_of _ (by decide +kernel)) ggL_law_X6_undo
set_option maxRecDepth 20000 in
theorem ggL_law_X7_undo : GoodIn wsL_law wsX7_undo := goodIn_r _ [528, 182, 336, 99, 101, 808, 809, 810, 811, 812, 813, 814, 815, 816] (by decide +kernel) (by decide +kernel)
set_option maxRecDepth 20000 in
theorem gL_law_X7_undo : GoodIn wsL_law (wsV RL 52 RX7 yX7_undo wsX7_undo) := goodIn_app (goodIn_of _ (by decide +kernel)) ggL_law_X7_undo
set_option maxRecDepth 20000 in
theorem ggL_law_X6_setting : GoodIn wsL_law wsX6_setting := goodIn_r _ [532, 15, 109, 107, 110, 111, 2, 112, 158, 159, 160, 31, 161, 54, 804, 805, 806, 807, 817, 818, 819, 820, 821, 822, 823, 824, 825, 826, 827, 835] (by decide +kernel) (by decide +kernel)
set_option maxRecDepth 20000 in
theorem gL_law_X6_setting : GoodIn wsL_law (wsV RL 53 RX6 yX6_setting wsX6_setting) := goodIn_app (goodIn_of _ (by decide +kernel)) ggL_law_X6_setting
set_option maxRecDepth 20000 in
theorem ggL_law_X7_setting : GoodIn wsL_law wsX7_setting := goodIn_r _ [536, 99, 167, 169, 170, 5, 171, 808, 809, 810, 811, 812, 813, 814, 815, 816] (by decide +kernel) (by decide +kernel)
set_option maxRecDepth 20000 in
theorem gL_law_X7_setting : GoodIn wsL_law (wsV RL 56 RX7 yX7_setting wsX7_setting) := goodIn_app (goodIn_of _ (by decide +kernel)) ggL_law_X7_setting
set_option maxRecDepth 20000 in
theorem ggL_law_X6_classSetting : GoodIn wsL_law wsX6_classSetting := goodIn_r _ [540, 107, 15, 187, 188, 189, 2, 190, 110, 111, 112, 194, 195, 196, 14, 197, 37, 38, 39, 158, 159, 160, 31, 161, 54, 804, 805, 806, 807, 836, 837, 838, 839, 840, 841, 842, 817, 818, 819, 820, 821, 822, 823, 824, 825, 826, 827, 835] (by decide +kernel) (by decide +kernel)
set_option maxRecDepth 20000 in
theorem gL_law_X6_classSetting : GoodIn wsL_law (wsV RL 57 RX6 yX6_classSetting wsX6_classSetting) := goodIn_app (goodIn_of _ (by decide +kernel)) ggL_law_X6_classSetting

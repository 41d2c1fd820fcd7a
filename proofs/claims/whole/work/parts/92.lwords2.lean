/-! the words of the law's calls -/
set_option maxRecDepth 20000 in
theorem ggL_law_X9_init : GoodIn wsL_law wsX9_init := goodIn_r _ [8, 9, 10, 11, 12, 13, 14, 15, 16, 17, 18, 19, 20, 21, 22, 23, 24, 25, 26, 27, 28, 29, 30, 31, 32, 33, 34, 35, 36, 37, 38, 39, 40, 41, 42, 43, 44, 45, 46, 47, 48, 49, 50, 51, 52, 53, 54, 55, 56, 57, 58, 59, 60, 61, 62, 63, 64, 65, 66, 67, 68, 69, 70, 71, 72, 73, 74, 75, 76, 77, 78, 79, 80, 81, 82, 83, 84, 85, 86, 87, 88, 89, 90, 91, 92, 93, 94, 95, 96, 97, 98, 99, 100, 101, 102, 103, 104, 105, 106, 830, 831, 832, 833, 794, 795, 796, 797, 798, 799, 800, 801, 802, 803, 804, 805, 806, 807, 834, 835, 836, 837, 838, 839, 840, 841, 842, 843, 844, 845, 846, 847, 848, 849, 850, 851, 852, 853, 854, 855, 856, 857, 858, 859, 860] (by decide +kernel) (by decide +kernel)
set_option maxRecDepth 20000 in
theorem gL_law_X9_init : GoodIn wsL_law (wsX9_init) := ggL_law_X9_init
set_option maxRecDepth 20000 in
theorem ggL_law_X10_init : GoodIn wsL_law wsX10_init := goodIn_r _ [109, 110, 10, 11, 49, 111, 112, 113, 114, 115, 41, 116, 117, 118, 119, 120, 121, 122, 123, 124, 808, 809, 810, 811, 812, 813, 814, 815, 816, 817, 818, 819, 820, 821, 822, 823, 824, 825, 826, 827, 828, 829] (by decide +kernel) (by decide +kernel)
set_option maxRecDepth 20000 in
theorem gL_law_X10_init : GoodIn wsL_law (wsX10_init) := ggL_law_X10_init
set_option maxRecDepth 20000 in
theorem ggL_law_X9_act : GoodIn wsL_law wsX9_act := goodIn_r _ [128, 15, 129, 130, 131, 132, 2, 133, 134, 135, 136, 137, 138, 139, 14, 140, 141, 50, 794, 795, 796, 797, 798, 799, 800, 801, 802, 803, 804, 805, 806, 807, 830, 831, 832, 833] (by decide +kernel) (by decide +kernel)
set_option maxRecDepth 20000 in
theorem gL_law_X9_act : GoodIn wsL_law (wsV RL 13 RX9 yX9_act wsX9_act) := goodIn_app (goodIn_of _ (by decide +kernel)) ggL_law_X9_act
set_option maxRecDepth 20000 in
theorem ggL_law_X10_act : GoodIn wsL_law wsX10_act := goodIn_r _ [145, 146, 111, 147, 148, 149, 5, 150, 808, 809, 810, 811, 812, 813, 814, 815, 816, 817, 818, 819, 820, 821, 822, 823, 824, 825, 826, 827, 828, 829] (by decide +kernel) (by decide +kernel)
set_option maxRecDepth 20000 in
theorem gL_law_X10_act : GoodIn wsL_law (wsV RL 17 RX10 yX10_act wsX10_act) := goodIn_app (goodIn_of _ (by decide +kernel)) ggL_law_X10_act
set_option maxRecDepth 20000 in
theorem ggL_law_X9_put : GoodIn wsL_law wsX9_put := goodIn_r _ [154, 15, 17, 155, 156, 157, 2, 158, 159, 160, 161, 14, 162, 141, 163, 164, 165, 19, 166, 167, 64, 794, 795, 796, 797, 798, 799, 800, 801, 802, 803, 804, 805, 806, 807, 834, 835, 830, 831, 832, 833] (by decide +kernel) (by decide +kernel)
set_option maxRecDepth 20000 in
theorem gL_law_X9_put : GoodIn wsL_law (wsV RL 18 RX9 yX9_put wsX9_put) := goodIn_app (goodIn_of _ (by decide +kernel)) ggL_law_X9_put
set_option maxRecDepth 20000 in
theorem ggL_law_X10_put : GoodIn wsL_law wsX10_put := goodIn_r _ [171, 146, 113, 172, 173, 5, 174, 148, 149, 150, 175, 176, 177, 178, 112, 808, 809, 810, 811, 812, 813, 814, 815, 816, 817, 818, 819, 820, 821, 822, 823, 824, 825, 826, 827, 828, 829] (by decide +kernel) (by decide +kernel)
set_option maxRecDepth 20000 in
theorem gL_law_X10_put : GoodIn wsL_law (wsV RL 22 RX10 yX10_put wsX10_put) := goodIn_app (goodIn_of _ (by decide +kernel)) ggL_law_X10_put
set_option maxRecDepth 20000 in
theorem ggL_law_X9_empty : GoodIn wsL_law wsX9_empty := goodIn_r _ [182, 17, 155, 156, 157, 2, 158, 183, 184, 185, 19, 186, 167, 794, 795, 796, 797, 798, 799, 800, 801, 802, 803, 804, 805, 806, 807, 834, 835] (by decide +kernel) (by decide +kernel)
set_option maxRecDepth 20000 in
theorem gL_law_X9_empty : GoodIn wsL_law (wsV RL 23 RX9 yX9_empty wsX9_empty) := goodIn_app (goodIn_of _ (by decide +kernel)) ggL_law_X9_empty
set_option maxRecDepth 20000 in
theorem ggL_law_X10_empty : GoodIn wsL_law wsX10_empty := goodIn_r _ [190, 113, 172, 173, 5, 174, 148, 149, 150, 808, 809, 810, 811, 812, 813, 814, 815, 816, 817, 818, 819, 820, 821, 822, 823, 824, 825, 826, 827, 828, 829] (by decide +kernel) (by decide +kernel)
set_option maxRecDepth 20000 in
theorem gL_law_X10_empty : GoodIn wsL_law (wsV RL 26 RX10 yX10_empty wsX10_empty) := goodIn_app (goodIn_of _ (by decide +kernel)) ggL_law_X10_empty
set_option maxRecDepth 20000 in
theorem ggL_law_X9_at : GoodIn wsL_law wsX9_at := goodIn_r _ [194, 17, 155, 195, 156, 157, 2, 158, 794, 795, 796, 797, 798, 799, 800, 801, 802, 803, 804, 805, 806, 807, 834, 835] (by decide +kernel) (by decide +kernel)
set_option maxRecDepth 20000 in
theorem gL_law_X9_at : GoodIn wsL_law (wsV RL 27 RX9 yX9_at wsX9_at) := goodIn_app (goodIn_of _ (by decide +kernel)) ggL_law_X9_at
set_option maxRecDepth 20000 in
theorem ggL_law_X10_at : GoodIn wsL_law wsX10_at := goodIn_r _ [199, 113, 112, 172, 173, 5, 174, 148, 149, 150, 808, 809, 810, 811, 812, 813, 814, 815, 816, 817, 818, 819, 820, 821, 822, 823, 824, 825, 826, 827, 828, 829] (by decide +kernel) (by decide +kernel)
set_option maxRecDepth 20000 in
theorem gL_law_X10_at : GoodIn wsL_law (wsV RL 30 RX10 yX10_at wsX10_at) := goodIn_app (goodIn_of _ (by decide +kernel)) ggL_law_X10_at
set_option maxRecDepth 20000 in
theorem ggL_law_X9_about : GoodIn wsL_law wsX9_about := goodIn_r _ [203, 17, 15, 155, 24, 156, 157, 2, 158, 204, 205, 206, 14, 207, 208, 209, 210, 211, 212, 213, 214, 215, 216, 217, 218, 219, 220, 221, 141, 50, 222, 223, 224, 19, 225, 167, 64, 226, 227, 228, 229, 230, 231, 232, 233, 23, 234, 235, 236, 237, 238, 239, 240, 241, 68, 242, 243, 244, 245, 246, 794, 795, 796, 797, 798, 799, 800, 801, 802, 803, 804, 805, 806, 807, 834, 835, 830, 831, 832, 833, 836] (by decide +kernel) (by decide +kernel)
set_option maxRecDepth 20000 in
theorem gL_law_X9_about : GoodIn wsL_law (wsV RL 31 RX9 yX9_about wsX9_about) := goodIn_app (goodIn_of _ (by decide +kernel)) ggL_law_X9_about
set_option maxRecDepth 20000 in
theorem ggL_law_X10_about : GoodIn wsL_law wsX10_about := goodIn_r _ [250, 113, 172, 173, 5, 174, 148, 149, 150, 251, 252, 253, 254, 255, 256, 257, 258, 112, 259, 260, 261, 262, 111, 263, 264, 265, 266, 267, 268, 269, 270, 117, 808, 809, 810, 811, 812, 813, 814, 815, 816, 817, 818, 819, 820, 821, 822, 823, 824, 825, 826, 827, 828, 829] (by decide +kernel) (by decide +kernel)
set_option maxRecDepth 20000 in
theorem gL_law_X10_about : GoodIn wsL_law (wsV RL 34 RX10 yX10_about wsX10_about) := goodIn_app (goodIn_of _ (by decide +kernel)) ggL_law_X10_about
set_option maxRecDepth 20000 in
theorem ggL_law_X9_graft : GoodIn wsL_law wsX9_graft := goodIn_r _ [274, 17, 155, 20, 275, 276, 277, 2, 278, 15, 156, 157, 158, 204, 205, 206, 14, 207, 208, 209, 210, 211, 212, 213, 214, 215, 216, 217, 218, 219, 220, 221, 141, 50, 279, 280, 281, 19, 282, 167, 64, 183, 184, 185, 186, 283, 284, 285, 286, 287, 288, 289, 290, 291, 292, 293, 294, 295, 296, 297, 298, 794, 795, 796, 797, 798, 799, 800, 801, 802, 803, 804, 805, 806, 807, 834, 835, 830, 831, 832, 833] (by decide +kernel) (by decide +kernel)
set_option maxRecDepth 20000 in
theorem gL_law_X9_graft : GoodIn wsL_law (wsV RL 35 RX9 yX9_graft wsX9_graft) := goodIn_app (goodIn_of _ (by decide +kernel)) ggL_law_X9_graft
set_option maxRecDepth 20000 in
theorem ggL_law_X10_graft : GoodIn wsL_law wsX10_graft := goodIn_r _ [302, 112, 113, 303, 304, 305, 5, 306, 172, 173, 174, 148, 149, 150, 251, 252, 253, 254, 255, 256, 257, 258, 259, 260, 261, 262, 111, 263, 264, 265, 266, 307, 308, 309, 310, 175, 176, 177, 178, 311, 312, 313, 314, 808, 809, 810, 811, 812, 813, 814, 815, 816, 817, 818, 819, 820, 821, 822, 823, 824, 825, 826, 827, 828, 829] (by decide +kernel) (by decide +kernel)
set_option maxRecDepth 20000 in
theorem gL_law_X10_graft : GoodIn wsL_law (wsV RL 39 RX10 yX10_graft wsX10_graft) := goodIn_app (goodIn_of _ (by decide +kernel)) ggL_law_X10_graft
set_option maxRecDepth 20000 in
theorem ggL_law_X9_same : GoodIn wsL_law wsX9_same := goodIn_r _ [318, 17, 275, 276, 277, 2, 278, 15, 156, 157, 158, 204, 205, 206, 14, 207, 208, 209, 210, 211, 212, 213, 214, 215, 216, 217, 218, 219, 220, 221, 141, 50, 319, 320, 321, 19, 322, 167, 64, 794, 795, 796, 797, 798, 799, 800, 801, 802, 803, 804, 805, 806, 807, 834, 835, 830, 831, 832, 833] (by decide +kernel) (by decide +kernel)
set_option maxRecDepth 20000 in
theorem gL_law_X9_same : GoodIn wsL_law (wsV RL 40 RX9 yX9_same wsX9_same) := goodIn_app (goodIn_of _ (by decide +kernel)) ggL_law_X9_same
set_option maxRecDepth 20000 in
theorem ggL_law_X10_same : GoodIn wsL_law wsX10_same := goodIn_r _ [326, 303, 304, 305, 5, 306, 172, 173, 174, 148, 149, 150, 251, 252, 253, 254, 113, 255, 256, 257, 258, 112, 259, 260, 261, 262, 111, 327, 328, 329, 330, 808, 809, 810, 811, 812, 813, 814, 815, 816, 817, 818, 819, 820, 821, 822, 823, 824, 825, 826, 827, 828, 829] (by decide +kernel) (by decide +kernel)
set_option maxRecDepth 20000 in
theorem gL_law_X10_same : GoodIn wsL_law (wsV RL 43 RX10 yX10_same wsX10_same) := goodIn_app (goodIn_of _ (by decide +kernel)) ggL_law_X10_same
set_option maxRecDepth 20000 in
theorem ggL_law_X9_rule : GoodIn wsL_law wsX9_rule := goodIn_r _ [334, 17, 15, 335, 336, 337, 338, 2, 339, 275, 276, 277, 278, 156, 157, 158, 204, 205, 206, 14, 207, 208, 209, 210, 211, 212, 213, 214, 215, 216, 217, 218, 219, 220, 221, 141, 50, 226, 227, 228, 19, 229, 167, 230, 223, 224, 225, 64, 222, 130, 131, 132, 133, 134, 135, 136, 340, 341, 342, 343, 344, 52, 345, 346, 347, 348, 296, 297, 298, 287, 288, 289, 290, 794, 795, 796, 797, 798, 799, 800, 801, 802, 803, 804, 805, 806, 807, 830, 831, 832, 833, 834, 835, 855, 856, 857] (by decide +kernel) (by decide +kernel)
set_option maxRecDepth 20000 in
theorem gL_law_X9_rule : GoodIn wsL_law (wsV RL 44 RX9 yX9_rule wsX9_rule) := goodIn_app (goodIn_of _ (by decide +kernel)) ggL_law_X9_rule
set_option maxRecDepth 20000 in
theorem ggL_law_X10_rule : GoodIn wsL_law wsX10_rule := goodIn_r _ [352, 353, 354, 355, 5, 356, 113, 303, 304, 305, 306, 172, 173, 174, 148, 149, 150, 251, 252, 253, 254, 255, 256, 257, 258, 112, 259, 260, 261, 262, 111, 263, 264, 265, 266, 357, 358, 359, 360, 361, 115, 147, 311, 312, 313, 314, 808, 809, 810, 811, 812, 813, 814, 815, 816, 817, 818, 819, 820, 821, 822, 823, 824, 825, 826, 827, 828, 829] (by decide +kernel) (by decide +kernel)
set_option maxRecDepth 20000 in
theorem gL_law_X10_rule : GoodIn wsL_law (wsV RL 47 RX10 yX10_rule wsX10_rule) := goodIn_app (goodIn_of _ (by decide +kernel)) ggL_law_X10_rule
set_option maxRecDepth 20000 in
theorem ggL_law_X9_nought : GoodIn wsL_law wsX9_nought := goodIn_r _ [365, 15, 335, 20, 17, 336, 337, 338, 2, 339, 275, 276, 277, 278, 156, 157, 158, 204, 205, 206, 14, 207, 208, 209, 210, 211, 212, 213, 214, 215, 216, 217, 218, 219, 220, 221, 141, 50, 226, 227, 228, 19, 229, 167, 230, 223, 224, 225, 64, 130, 131, 132, 133, 134, 135, 136, 183, 184, 185, 186, 340, 341, 342, 343, 344, 52, 345, 346, 347, 348, 296, 297, 298, 287, 288, 289, 290, 794, 795, 796, 797, 798, 799, 800, 801, 802, 803, 804, 805, 806, 807, 830, 831, 832, 833, 834, 835, 855, 856, 857] (by decide +kernel) (by decide +kernel)
set_option maxRecDepth 20000 in
theorem gL_law_X9_nought : GoodIn wsL_law (wsV RL 48 RX9 yX9_nought wsX9_nought) := goodIn_app (goodIn_of _ (by decide +kernel)) ggL_law_X9_nought
set_option maxRecDepth 20000 in
theorem ggL_law_X10_nought : GoodIn wsL_law wsX10_nought := goodIn_r _ [369, 353, 354, 355, 5, 356, 113, 303, 304, 305, 306, 172, 173, 174, 148, 149, 150, 251, 252, 253, 254, 255, 256, 257, 258, 112, 259, 260, 261, 262, 111, 263, 264, 265, 266, 357, 358, 359, 360, 361, 115, 147, 311, 312, 313, 314, 808, 809, 810, 811, 812, 813, 814, 815, 816, 817, 818, 819, 820, 821, 822, 823, 824, 825, 826, 827, 828, 829] (by decide +kernel) (by decide +kernel)
set_option maxRecDepth 20000 in
theorem gL_law_X10_nought : GoodIn wsL_law (wsV RL 51 RX10 yX10_nought wsX10_nought) := goodIn_app (goodIn_of _ (by decide +kernel)) ggL_law_X10_nought
set_option maxRecDepth 20000 in
theorem ggL_law_X9_unrule : GoodIn wsL_law wsX9_unrule := goodIn_r _ [373, 15, 335, 130, 131, 132, 2, 133, 134, 135, 136, 794, 795, 796, 797, 798, 799, 800, 801, 802, 803, 804, 805, 806, 807, 830, 831, 832, 833] (by decide +kernel) (by decide +kernel)
set_option maxRecDepth 20000 in
theorem gL_law_X9_unrule : GoodIn wsL_law (wsV RL 52 RX9 yX9_unrule wsX9_unrule) := goodIn_app (goodIn_of _ (by decide +kernel)) ggL_law_X9_unrule
set_option maxRecDepth 20000 in
theorem ggL_law_X10_unrule : GoodIn wsL_law wsX10_unrule := goodIn_r _ [377, 361, 147, 808, 809, 810, 811, 812, 813, 814, 815, 816, 817, 818, 819, 820, 821, 822, 823, 824, 825, 826, 827, 828, 829] (by decide +kernel) (by decide +kernel)
set_option maxRecDepth 20000 in
theorem gL_law_X10_unrule : GoodIn wsL_law (wsV RL 56 RX10 yX10_unrule wsX10_unrule) := goodIn_app (goodIn_of _ (by decide +kernel)) ggL_law_X10_unrule
set_option maxRecDepth 20000 in
theorem ggL_law_X9_side : GoodIn wsL_law wsX9_side := goodIn_r _ [381, 15, 382, 383, 384, 385, 386, 387, 14, 388, 344, 156, 157, 2, 158, 291, 292, 293, 294, 17, 155, 295, 296, 297, 19, 298, 64, 167, 287, 288, 289, 290, 794, 795, 796, 797, 798, 799, 800, 801, 802, 803, 804, 805, 806, 807, 830, 831, 832, 833, 855, 856, 857, 834, 835] (by decide +kernel) (by decide +kernel)
set_option maxRecDepth 20000 in
theorem gL_law_X9_side : GoodIn wsL_law (wsV RL 57 RX9 yX9_side wsX9_side) := goodIn_app (goodIn_of _ (by decide +kernel)) ggL_law_X9_side
set_option maxRecDepth 20000 in
theorem ggL_law_X10_side : GoodIn wsL_law wsX10_side := goodIn_r _ [392, 113, 393, 394, 395, 5, 396, 361, 148, 149, 150, 172, 173, 174, 311, 312, 313, 314, 112, 808, 809, 810, 811, 812, 813, 814, 815, 816, 817, 818, 819, 820, 821, 822, 823, 824, 825, 826, 827, 828, 829] (by decide +kernel) (by decide +kernel)
set_option maxRecDepth 20000 in
theorem gL_law_X10_side : GoodIn wsL_law (wsV RL 61 RX10 yX10_side wsX10_side) := goodIn_app (goodIn_of _ (by decide +kernel)) ggL_law_X10_side
set_option maxRecDepth 20000 in
theorem ggL_law_X9_matches : GoodIn wsL_law wsX9_matches := goodIn_r _ [400, 15, 28, 382, 17, 385, 386, 387, 14, 388, 344, 275, 276, 277, 2, 278, 156, 157, 158, 204, 205, 206, 207, 208, 209, 210, 211, 212, 213, 214, 215, 216, 217, 218, 219, 220, 221, 141, 50, 401, 402, 403, 27, 404, 73, 405, 406, 407, 238, 239, 23, 240, 235, 241, 68, 242, 408, 409, 410, 411, 412, 74, 413, 794, 795, 796, 797, 798, 799, 800, 801, 802, 803, 804, 805, 806, 807, 830, 831, 832, 833, 834, 835, 837, 838, 839, 840, 841, 855, 856, 857, 836] (by decide +kernel) (by decide +kernel)
set_option maxRecDepth 20000 in
theorem gL_law_X9_matches : GoodIn wsL_law (wsV RL 62 RX9 yX9_matches wsX9_matches) := goodIn_app (goodIn_of _ (by decide +kernel)) ggL_law_X9_matches
set_option maxRecDepth 20000 in
theorem ggL_law_X10_matches : GoodIn wsL_law wsX10_matches := goodIn_r _ [417, 393, 394, 395, 5, 396, 361, 148, 149, 150, 303, 304, 305, 306, 172, 173, 174, 251, 252, 253, 254, 113, 255, 256, 257, 258, 112, 259, 260, 261, 262, 111, 418, 419, 420, 421, 422, 423, 424, 425, 426, 118, 119, 427, 808, 809, 810, 811, 812, 813, 814, 815, 816, 817, 818, 819, 820, 821, 822, 823, 824, 825, 826, 827, 828, 829] (by decide +kernel) (by decide +kernel)
set_option maxRecDepth 20000 in
theorem gL_law_X10_matches : GoodIn wsL_law (wsV RL 65 RX10 yX10_matches wsX10_matches) := goodIn_app (goodIn_of _ (by decide +kernel)) ggL_law_X10_matches
set_option maxRecDepth 20000 in
theorem ggL_law_X9_step : GoodIn wsL_law wsX9_step := goodIn_r _ [431, 28, 15, 17, 275, 276, 277, 2, 278, 156, 157, 158, 204, 205, 206, 14, 207, 208, 209, 210, 211, 212, 213, 214, 215, 216, 217, 218, 219, 220, 221, 141, 50, 432, 433, 434, 27, 435, 73, 405, 436, 412, 437, 406, 407, 238, 239, 23, 240, 235, 241, 68, 242, 408, 409, 410, 411, 74, 413, 438, 439, 440, 441, 442, 76, 443, 444, 184, 185, 19, 186, 167, 445, 284, 285, 286, 64, 287, 288, 289, 290, 446, 164, 165, 166, 447, 296, 297, 298, 794, 795, 796, 797, 798, 799, 800, 801, 802, 803, 804, 805, 806, 807, 834, 835, 830, 831, 832, 833, 837, 838, 839, 840, 841, 855, 856, 857, 836] (by decide +kernel) (by decide +kernel)
set_option maxRecDepth 20000 in
theorem gL_law_X9_step : GoodIn wsL_law (wsV RL 66 RX9 yX9_step wsX9_step) := goodIn_app (goodIn_of _ (by decide +kernel)) ggL_law_X9_step
set_option maxRecDepth 20000 in
theorem ggL_law_X10_step : GoodIn wsL_law wsX10_step := goodIn_r _ [451, 303, 304, 305, 5, 306, 172, 173, 174, 148, 149, 150, 251, 252, 253, 254, 113, 255, 256, 257, 258, 112, 259, 260, 261, 262, 111, 452, 453, 454, 455, 361, 422, 423, 424, 425, 426, 118, 119, 427, 456, 457, 458, 459, 115, 307, 308, 309, 310, 175, 176, 177, 178, 311, 312, 313, 314, 808, 809, 810, 811, 812, 813, 814, 815, 816, 817, 818, 819, 820, 821, 822, 823, 824, 825, 826, 827, 828, 829] (by decide +kernel) (by decide +kernel)
set_option maxRecDepth 20000 in
theorem gL_law_X10_step : GoodIn wsL_law (wsV RL 69 RX10 yX10_step wsX10_step) := goodIn_app (goodIn_of _ (by decide +kernel)) ggL_law_X10_step
set_option maxRecDepth 20000 in
theorem ggL_law_X9_normal : GoodIn wsL_law wsX9_normal := goodIn_r _ [463, 20, 17, 28, 15, 275, 276, 277, 2, 278, 156, 157, 158, 204, 205, 206, 14, 207, 208, 209, 210, 211, 212, 213, 214, 215, 216, 217, 218, 219, 220, 221, 141, 50, 295, 296, 297, 19, 298, 64, 167, 287, 288, 289, 290, 464, 465, 466, 27, 467, 468, 433, 434, 435, 73, 405, 436, 412, 437, 406, 407, 238, 239, 23, 240, 235, 241, 68, 242, 408, 409, 410, 411, 74, 413, 438, 439, 440, 441, 442, 76, 443, 444, 184, 185, 186, 445, 284, 285, 286, 446, 164, 165, 166, 447, 794, 795, 796, 797, 798, 799, 800, 801, 802, 803, 804, 805, 806, 807, 834, 835, 830, 831, 832, 833, 837, 838, 839, 840, 841, 855, 856, 857, 836] (by decide +kernel) (by decide +kernel)
set_option maxRecDepth 20000 in
theorem gL_law_X9_normal : GoodIn wsL_law (wsV RL 70 RX9 yX9_normal wsX9_normal) := goodIn_app (goodIn_of _ (by decide +kernel)) ggL_law_X9_normal
set_option maxRecDepth 20000 in
theorem ggL_law_X10_normal : GoodIn wsL_law wsX10_normal := goodIn_r _ [472, 303, 304, 305, 5, 306, 172, 173, 174, 148, 149, 150, 251, 252, 253, 254, 113, 255, 256, 257, 258, 112, 259, 260, 261, 262, 111, 311, 312, 313, 314, 473, 474, 475, 476, 452, 453, 454, 455, 361, 422, 423, 424, 425, 426, 118, 119, 427, 456, 457, 458, 459, 115, 307, 308, 309, 310, 175, 176, 177, 178, 808, 809, 810, 811, 812, 813, 814, 815, 816, 817, 818, 819, 820, 821, 822, 823, 824, 825, 826, 827, 828, 829] (by decide +kernel) (by decide +kernel)
set_option maxRecDepth 20000 in
theorem gL_law_X10_normal : GoodIn wsL_law (wsV RL 73 RX10 yX10_normal wsX10_normal) := goodIn_app (goodIn_of _ (by decide +kernel)) ggL_law_X10_normal
set_option maxRecDepth 20000 in
theorem ggL_law_X9_howMany : GoodIn wsL_law wsX9_howMany := goodIn_r _ [480, 481, 42, 482, 483, 2, 484, 485, 486, 487, 488, 134, 36, 15, 489, 490, 491, 35, 492, 493, 494, 495, 496, 497, 498, 499, 500, 501, 502, 503, 504, 505, 506, 91, 507, 508, 509, 510, 511, 88, 90, 512, 513, 514, 515, 516, 517, 215, 518, 519, 219, 220, 14, 221, 141, 50, 520, 210, 211, 212, 213, 214, 216, 208, 217, 218, 521, 522, 523, 524, 525, 526, 527, 528, 529, 93, 530, 531, 532, 95, 533, 534, 535, 536, 537, 538, 99, 100, 539, 540, 541, 542, 543, 544, 545, 546, 547, 548, 41, 549, 550, 288, 289, 290, 551, 552, 553, 554, 555, 556, 557, 558, 559, 560, 561, 562, 563, 564, 565, 566, 567, 568, 569, 570, 794, 795, 796, 797, 798, 799, 800, 801, 802, 803, 804, 805, 806, 807, 830, 831, 832, 833, 855, 856, 857, 847, 848, 849, 850, 851, 852, 834, 835, 858, 859, 860] (by decide +kernel) (by decide +kernel)
set_option maxRecDepth 20000 in
theorem gL_law_X9_howMany : GoodIn wsL_law (wsV RL 74 RX9 yX9_howMany wsX9_howMany) := goodIn_app (goodIn_of _ (by decide +kernel)) ggL_law_X9_howMany
set_option maxRecDepth 20000 in
theorem ggL_law_X10_howMany : GoodIn wsL_law wsX10_howMany := goodIn_r _ [574, 575, 116, 148, 149, 5, 150, 576, 577, 578, 579, 147, 580, 581, 582, 583, 113, 175, 176, 177, 178, 112, 584, 585, 586, 587, 259, 260, 261, 262, 111, 263, 264, 265, 266, 588, 589, 590, 591, 361, 422, 423, 424, 425, 426, 118, 119, 427, 255, 256, 257, 258, 592, 593, 594, 595, 146, 808, 809, 810, 811, 812, 813, 814, 815, 816, 817, 818, 819, 820, 821, 822, 823, 824, 825, 826, 827, 828, 829] (by decide +kernel) (by decide +kernel)
set_option maxRecDepth 20000 in
theorem gL_law_X10_howMany : GoodIn wsL_law (wsV RL 78 RX10 yX10_howMany wsX10_howMany) := goodIn_app (goodIn_of _ (by decide +kernel)) ggL_law_X10_howMany
set_option maxRecDepth 20000 in
theorem ggL_law_X9_overlaps : GoodIn wsL_law wsX9_overlaps := goodIn_r _ [599, 32, 15, 600, 601, 602, 31, 603, 604, 605, 606, 607, 608, 609, 610, 611, 612, 613, 614, 615, 616, 617, 618, 619, 620, 386, 387, 14, 388, 344, 621, 622, 623, 624, 83, 625, 184, 185, 19, 186, 167, 626, 284, 285, 286, 64, 287, 288, 289, 290, 627, 164, 165, 166, 628, 210, 211, 212, 213, 214, 215, 216, 208, 217, 218, 219, 220, 221, 141, 50, 794, 795, 796, 797, 798, 799, 800, 801, 802, 803, 804, 805, 806, 807, 842, 843, 844, 845, 846, 830, 831, 832, 833, 855, 856, 857, 834, 835] (by decide +kernel) (by decide +kernel)
set_option maxRecDepth 20000 in
theorem gL_law_X9_overlaps : GoodIn wsL_law (wsV RL 79 RX9 yX9_overlaps wsX9_overlaps) := goodIn_app (goodIn_of _ (by decide +kernel)) ggL_law_X9_overlaps
set_option maxRecDepth 20000 in
theorem ggL_law_X10_overlaps : GoodIn wsL_law wsX10_overlaps := goodIn_r _ [632, 633, 634, 635, 636, 5, 637, 361, 113, 112, 638, 639, 640, 641, 642, 643, 644, 307, 308, 309, 310, 175, 176, 177, 178, 255, 256, 257, 258, 259, 260, 261, 262, 111, 808, 809, 810, 811, 812, 813, 814, 815, 816, 817, 818, 819, 820, 821, 822, 823, 824, 825, 826, 827, 828, 829] (by decide +kernel) (by decide +kernel)
set_option maxRecDepth 20000 in
theorem gL_law_X10_overlaps : GoodIn wsL_law (wsV RL 82 RX10 yX10_overlaps wsX10_overlaps) := goodIn_app (goodIn_of _ (by decide +kernel)) ggL_law_X10_overlaps
set_option maxRecDepth 20000 in
theorem ggL_law_X9_overlap : GoodIn wsL_law wsX9_overlap := goodIn_r _ [648, 32, 15, 649, 650, 651, 652, 156, 157, 2, 158, 600, 601, 602, 31, 603, 604, 605, 606, 607, 608, 609, 610, 611, 612, 613, 614, 615, 616, 617, 618, 619, 620, 386, 387, 14, 388, 344, 621, 622, 623, 624, 83, 625, 184, 185, 19, 186, 167, 626, 284, 285, 286, 64, 287, 288, 289, 290, 627, 164, 165, 166, 628, 210, 211, 212, 213, 214, 215, 216, 208, 217, 218, 219, 220, 221, 141, 50, 291, 292, 293, 294, 17, 155, 295, 296, 297, 298, 794, 795, 796, 797, 798, 799, 800, 801, 802, 803, 804, 805, 806, 807, 842, 843, 844, 845, 846, 830, 831, 832, 833, 855, 856, 857, 834, 835] (by decide +kernel) (by decide +kernel)
set_option maxRecDepth 20000 in
theorem gL_law_X9_overlap : GoodIn wsL_law (wsV RL 83 RX9 yX9_overlap wsX9_overlap) := goodIn_app (goodIn_of _ (by decide +kernel)) ggL_law_X9_overlap
set_option maxRecDepth 20000 in
theorem ggL_law_X10_overlap : GoodIn wsL_law wsX10_overlap := goodIn_r _ [656, 638, 639, 640, 172, 173, 5, 174, 148, 149, 150, 657, 658, 659, 660, 634, 635, 636, 637, 361, 113, 112, 641, 642, 643, 644, 307, 308, 309, 310, 175, 176, 177, 178, 255, 256, 257, 258, 259, 260, 261, 262, 111, 311, 312, 313, 314, 808, 809, 810, 811, 812, 813, 814, 815, 816, 817, 818, 819, 820, 821, 822, 823, 824, 825, 826, 827, 828, 829] (by decide +kernel) (by decide +kernel)
set_option maxRecDepth 20000 in
theorem gL_law_X10_overlap : GoodIn wsL_law (wsV RL 86 RX10 yX10_overlap wsX10_overlap) := goodIn_app (goodIn_of _ (by decide +kernel)) ggL_law_X10_overlap
set_option maxRecDepth 20000 in
theorem ggL_law_X9_closes : GoodIn wsL_law wsX9_closes := goodIn_r _ [664, 136, 44, 32, 15, 28, 600, 601, 602, 31, 603, 604, 605, 606, 607, 608, 609, 610, 611, 612, 613, 614, 615, 616, 617, 618, 619, 620, 386, 387, 14, 388, 344, 621, 622, 623, 624, 83, 625, 184, 185, 19, 186, 167, 626, 284, 285, 286, 64, 287, 288, 289, 290, 627, 164, 165, 166, 628, 210, 211, 212, 213, 214, 215, 216, 208, 217, 218, 219, 220, 221, 141, 50, 665, 666, 667, 27, 668, 77, 669, 78, 670, 671, 672, 447, 296, 297, 298, 673, 674, 675, 676, 73, 437, 406, 407, 238, 239, 23, 240, 235, 241, 68, 242, 677, 408, 409, 410, 411, 405, 412, 74, 413, 438, 439, 440, 441, 442, 76, 443, 444, 445, 446, 678, 465, 466, 467, 468, 433, 434, 435, 436, 679, 320, 321, 322, 794, 795, 796, 797, 798, 799, 800, 801, 802, 803, 804, 805, 806, 807, 842, 843, 844, 845, 846, 830, 831, 832, 833, 855, 856, 857, 834, 835, 837, 838, 839, 840, 841, 836] (by decide +kernel) (by decide +kernel)
set_option maxRecDepth 20000 in
theorem gL_law_X9_closes : GoodIn wsL_law (wsV RL 87 RX9 yX9_closes wsX9_closes) := goodIn_app (goodIn_of _ (by decide +kernel)) ggL_law_X9_closes
set_option maxRecDepth 20000 in
theorem ggL_law_X10_closes : GoodIn wsL_law wsX10_closes := goodIn_r _ [683, 638, 113, 684, 120, 112, 639, 640, 657, 658, 659, 5, 660, 634, 635, 636, 637, 361, 641, 642, 643, 644, 307, 308, 309, 310, 175, 176, 177, 178, 255, 256, 257, 258, 259, 260, 261, 262, 111, 685, 686, 687, 688, 311, 312, 313, 314, 422, 423, 424, 425, 426, 118, 119, 427, 456, 457, 458, 459, 115, 473, 474, 475, 476, 452, 453, 454, 455, 808, 809, 810, 811, 812, 813, 814, 815, 816, 817, 818, 819, 820, 821, 822, 823, 824, 825, 826, 827, 828, 829] (by decide +kernel) (by decide +kernel)
set_option maxRecDepth 20000 in
theorem gL_law_X10_closes : GoodIn wsL_law (wsV RL 90 RX10 yX10_closes wsX10_closes) := goodIn_app (goodIn_of _ (by decide +kernel)) ggL_law_X10_closes
set_option maxRecDepth 20000 in
theorem ggL_law_X9_turned : GoodIn wsL_law wsX9_turned := goodIn_r _ [692, 481, 40, 42, 693, 482, 483, 2, 484, 485, 486, 487, 488, 134, 36, 15, 489, 490, 491, 35, 492, 493, 494, 495, 496, 497, 498, 499, 500, 501, 502, 503, 504, 505, 506, 91, 507, 508, 509, 510, 511, 88, 90, 512, 513, 514, 515, 516, 517, 215, 518, 519, 219, 220, 14, 221, 141, 50, 520, 210, 211, 212, 213, 214, 216, 208, 217, 218, 521, 522, 523, 524, 525, 526, 527, 528, 529, 93, 530, 531, 532, 95, 533, 534, 535, 536, 537, 538, 99, 100, 539, 540, 541, 542, 543, 544, 545, 546, 547, 548, 41, 549, 550, 288, 289, 290, 551, 552, 553, 554, 555, 556, 557, 558, 559, 560, 561, 562, 563, 564, 565, 566, 567, 568, 569, 570, 694, 695, 696, 39, 697, 104, 106, 698, 699, 700, 701, 794, 795, 796, 797, 798, 799, 800, 801, 802, 803, 804, 805, 806, 807, 853, 854, 830, 831, 832, 833, 855, 856, 857, 847, 848, 849, 850, 851, 852, 834, 835, 858, 859, 860] (by decide +kernel) (by decide +kernel)
set_option maxRecDepth 20000 in
theorem gL_law_X9_turned : GoodIn wsL_law (wsV RL 91 RX9 yX9_turned wsX9_turned) := goodIn_app (goodIn_of _ (by decide +kernel)) ggL_law_X9_turned
set_option maxRecDepth 20000 in
theorem ggL_law_X10_turned : GoodIn wsL_law wsX10_turned := goodIn_r _ [705, 575, 122, 148, 149, 5, 150, 706, 707, 708, 709, 121, 116, 576, 577, 578, 579, 147, 580, 581, 582, 583, 113, 175, 176, 177, 178, 112, 584, 585, 586, 587, 259, 260, 261, 262, 111, 263, 264, 265, 266, 588, 589, 590, 591, 361, 422, 423, 424, 425, 426, 118, 119, 427, 255, 256, 257, 258, 592, 593, 594, 595, 146, 808, 809, 810, 811, 812, 813, 814, 815, 816, 817, 818, 819, 820, 821, 822, 823, 824, 825, 826, 827, 828, 829] (by decide +kernel) (by decide +kernel)
set_option maxRecDepth 20000 in
theorem gL_law_X10_turned : GoodIn wsL_law (wsV RL 94 RX10 yX10_turned wsX10_turned) := goodIn_app (goodIn_of _ (by decide +kernel)) ggL_law_X10_turned
set_option maxRecDepth 20000 in
theorem ggL_law_X9_dual : GoodIn wsL_law wsX9_dual := goodIn_r _ [713, 481, 15, 714, 43, 482, 483, 2, 484, 715, 716, 717, 14, 718, 141, 50, 344, 52, 347, 345, 719, 227, 228, 19, 229, 167, 230, 223, 224, 225, 64, 720, 721, 722, 723, 135, 36, 724, 725, 726, 35, 727, 525, 496, 497, 498, 499, 500, 501, 508, 509, 510, 511, 88, 90, 728, 729, 730, 731, 732, 733, 734, 735, 217, 521, 522, 523, 524, 526, 527, 528, 529, 93, 530, 531, 532, 95, 533, 534, 535, 536, 537, 538, 99, 100, 539, 540, 541, 542, 543, 544, 545, 546, 547, 548, 41, 549, 517, 215, 518, 550, 288, 289, 290, 519, 219, 220, 221, 551, 552, 553, 554, 555, 556, 557, 558, 559, 560, 561, 562, 563, 564, 565, 566, 567, 568, 569, 570, 794, 795, 796, 797, 798, 799, 800, 801, 802, 803, 804, 805, 806, 807, 830, 831, 832, 833, 855, 856, 857, 834, 835, 847, 848, 849, 850, 851, 852, 858, 859, 860] (by decide +kernel) (by decide +kernel)
set_option maxRecDepth 20000 in
theorem gL_law_X9_dual : GoodIn wsL_law (wsV RL 95 RX9 yX9_dual wsX9_dual) := goodIn_app (goodIn_of _ (by decide +kernel)) ggL_law_X9_dual
set_option maxRecDepth 20000 in
theorem ggL_law_X10_dual : GoodIn wsL_law wsX10_dual := goodIn_r _ [739, 575, 740, 146, 124, 148, 149, 5, 150, 741, 742, 743, 744, 111, 361, 115, 113, 745, 746, 747, 748, 123, 112, 749, 750, 751, 752, 808, 809, 810, 811, 812, 813, 814, 815, 816, 817, 818, 819, 820, 821, 822, 823, 824, 825, 826, 827, 828, 829] (by decide +kernel) (by decide +kernel)
set_option maxRecDepth 20000 in
theorem gL_law_X10_dual : GoodIn wsL_law (wsV RL 98 RX10 yX10_dual wsX10_dual) := goodIn_app (goodIn_of _ (by decide +kernel)) ggL_law_X10_dual
set_option maxRecDepth 20000 in
theorem ggL_law_X9_count : GoodIn wsL_law wsX9_count := goodIn_r _ [756, 15, 129, 335, 757, 758, 759, 2, 760, 17, 204, 205, 206, 14, 207, 208, 209, 210, 211, 212, 213, 214, 215, 216, 217, 218, 219, 220, 221, 141, 50, 761, 762, 763, 764, 344, 52, 347, 794, 795, 796, 797, 798, 799, 800, 801, 802, 803, 804, 805, 806, 807, 830, 831, 832, 833, 834, 835, 855, 856, 857] (by decide +kernel) (by decide +kernel)
set_option maxRecDepth 20000 in
theorem gL_law_X9_count : GoodIn wsL_law (wsV RL 99 RX9 yX9_count wsX9_count) := goodIn_app (goodIn_of _ (by decide +kernel)) ggL_law_X9_count
set_option maxRecDepth 20000 in
theorem ggL_law_X10_count : GoodIn wsL_law wsX10_count := goodIn_r _ [768, 146, 361, 115, 251, 252, 253, 5, 254, 113, 255, 256, 257, 258, 112, 259, 260, 261, 262, 111, 808, 809, 810, 811, 812, 813, 814, 815, 816, 817, 818, 819, 820, 821, 822, 823, 824, 825, 826, 827, 828, 829] (by decide +kernel) (by decide +kernel)
set_option maxRecDepth 20000 in
theorem gL_law_X10_count : GoodIn wsL_law (wsV RL 102 RX10 yX10_count wsX10_count) := goodIn_app (goodIn_of _ (by decide +kernel)) ggL_law_X10_count
set_option maxRecDepth 20000 in
theorem ggL_law_X9_digest : GoodIn wsL_law wsX9_digest := goodIn_r _ [772, 773, 774, 15, 129, 335, 775, 17, 382, 383, 384, 757, 758, 759, 2, 760, 204, 205, 206, 14, 207, 208, 209, 210, 211, 212, 213, 214, 215, 216, 217, 218, 219, 220, 221, 141, 50, 761, 762, 763, 764, 344, 52, 347, 776, 777, 778, 19, 779, 167, 780, 64, 781, 794, 795, 796, 797, 798, 799, 800, 801, 802, 803, 804, 805, 806, 807, 830, 831, 832, 833, 855, 856, 857, 834, 835] (by decide +kernel) (by decide +kernel)
set_option maxRecDepth 20000 in
theorem gL_law_X9_digest : GoodIn wsL_law (wsV RL 103 RX9 yX9_digest wsX9_digest) := goodIn_app (goodIn_of _ (by decide +kernel)) ggL_law_X9_digest
set_option maxRecDepth 20000 in
theorem ggL_law_X10_digest : GoodIn wsL_law wsX10_digest := goodIn_r _ [785, 786, 787, 146, 111, 361, 788, 766, 767, 5, 768, 115, 251, 252, 253, 254, 113, 255, 256, 257, 258, 112, 259, 260, 261, 262, 789, 790, 791, 792, 793, 808, 809, 810, 811, 812, 813, 814, 815, 816, 817, 818, 819, 820, 821, 822, 823, 824, 825, 826, 827, 828, 829] (by decide +kernel) (by decide +kernel)
set_option maxRecDepth 20000 in
theorem gL_law_X10_digest : GoodIn wsL_law (wsV RL 107 RX10 yX10_digest wsX10_digest) := goodIn_app (goodIn_of _ (by decide +kernel)) ggL_law_X10_digest

set_option maxRecDepth 20000 in
theorem ggL_law_X9_init : GoodIn wsL_law wsX9_init := goodIn_r _ [9, 10, 11, 12, 13, 14, 15, 16, 17, 18, 19, 20, 21, 22, 23, 24, 25, 26, 27, 28, 29, 30, 31, 32, 33, 34, 35, 36, 37, 38, 39, 40, 41, 42, 43, 44, 45, 46, 47, 48, 49, 50, 51, 52, 53, 54, 55, 56, 57, 58, 59, 60, 61, 62, 63, 64, 65, 66, 67, 68, 69, 70, 71, 72, 73, 74, 75, 76, 77, 78, 79, 80, 81, 82, 83, 84, 85, 86, 87, 88, 89, 90, 91, 92, 93, 94, 95, 96, 97, 98, 99, 100, 818, 819, 776, 777, 778, 779, 780, 781, 782, 783, 784, 785, 786, 820, 821, 822, 823, 824, 825, 826, 827, 828, 829, 830, 831, 832, 833, 834, 835, 836, 837, 838, 839, 840, 841, 842] (by decide +kernel) (by decide +kernel)
set_option maxRecDepth 20000 in
theorem gL_law_X9_init : GoodIn wsL_law (wsX9_init) := ggL_law_X9_init
set_option maxRecDepth 20000 in
theorem ggL_law_X10_init : GoodIn wsL_law wsX10_init := goodIn_r _ [103, 104, 11, 12, 41, 105, 106, 107, 108, 74, 109, 110, 43, 111, 112, 113, 114, 115, 116, 117, 118, 119, 120, 121, 122, 123, 124, 5, 125, 126, 127, 128, 129, 130, 131, 132, 133, 134, 135, 136, 137, 138, 139, 140, 141, 142, 143, 144, 145, 146, 147, 148, 149, 150, 787, 788, 789, 790, 791, 792, 793, 794, 795, 796, 797, 798, 799, 800, 801, 802, 803, 804, 805, 806, 807, 808, 809, 810, 811, 812, 813, 814, 815, 816, 817] (by decide +kernel) (by decide +kernel)
set_option maxRecDepth 20000 in
theorem gL_law_X10_init : GoodIn wsL_law (wsX10_init) := ggL_law_X10_init
set_option maxRecDepth 20000 in
theorem ggL_law_X9_write : GoodIn wsL_law wsX9_write := goodIn_r _ [154, 16, 155, 156, 157, 15, 158, 159, 54, 776, 777, 778, 779, 780, 781, 782, 783, 784, 785, 786, 818, 819] (by decide +kernel) (by decide +kernel)
set_option maxRecDepth 20000 in
theorem gL_law_X9_write : GoodIn wsL_law (wsV RL 13 RX9 yX9_write wsX9_write) := goodIn_app (goodIn_of _ (by decide +kernel)) ggL_law_X9_write
set_option maxRecDepth 20000 in
theorem ggL_law_X10_write : GoodIn wsL_law wsX10_write := goodIn_r _ [163, 164, 165, 166, 105, 144, 145, 5, 146, 787, 788, 789, 790, 791, 792, 793, 794, 795, 796, 797, 798, 799, 800, 801, 802, 803, 804, 805, 806, 807, 808, 809, 810, 811, 812, 813, 814, 815, 816, 817] (by decide +kernel) (by decide +kernel)
set_option maxRecDepth 20000 in
theorem gL_law_X10_write : GoodIn wsL_law (wsV RL 17 RX10 yX10_write wsX10_write) := goodIn_app (goodIn_of _ (by decide +kernel)) ggL_law_X10_write
set_option maxRecDepth 20000 in
theorem ggL_law_X9_wipe : GoodIn wsL_law wsX9_wipe := goodIn_r _ [170, 16, 171, 172, 173, 15, 174, 159, 776, 777, 778, 779, 780, 781, 782, 783, 784, 785, 786, 818, 819] (by decide +kernel) (by decide +kernel)
set_option maxRecDepth 20000 in
theorem gL_law_X9_wipe : GoodIn wsL_law (wsV RL 18 RX9 yX9_wipe wsX9_wipe) := goodIn_app (goodIn_of _ (by decide +kernel)) ggL_law_X9_wipe
set_option maxRecDepth 20000 in
theorem ggL_law_X10_wipe : GoodIn wsL_law wsX10_wipe := goodIn_r _ [178, 164, 166, 787, 788, 789, 790, 791, 792, 793, 794, 795, 796, 797, 798, 799, 800, 801, 802, 803, 804, 805, 806, 807, 808, 809, 810, 811, 812, 813, 814, 815, 816, 817] (by decide +kernel) (by decide +kernel)
set_option maxRecDepth 20000 in
theorem gL_law_X10_wipe : GoodIn wsL_law (wsV RL 22 RX10 yX10_wipe wsX10_wipe) := goodIn_app (goodIn_of _ (by decide +kernel)) ggL_law_X10_wipe
set_option maxRecDepth 20000 in
theorem ggL_law_X9_fault : GoodIn wsL_law wsX9_fault := goodIn_r _ [182, 16, 183, 184, 23, 185, 186, 187, 188, 15, 189, 159, 54, 190, 191, 192, 776, 777, 778, 779, 780, 781, 782, 783, 784, 785, 786, 818, 819] (by decide +kernel) (by decide +kernel)
set_option maxRecDepth 20000 in
theorem gL_law_X9_fault : GoodIn wsL_law (wsV RL 23 RX9 yX9_fault wsX9_fault) := goodIn_app (goodIn_of _ (by decide +kernel)) ggL_law_X9_fault
set_option maxRecDepth 20000 in
theorem ggL_law_X10_fault : GoodIn wsL_law wsX10_fault := goodIn_r _ [196, 164, 197, 198, 199, 5, 200, 201, 202, 203, 204, 166, 105, 205, 206, 207, 208, 209, 144, 145, 146, 787, 788, 789, 790, 791, 792, 793, 794, 795, 796, 797, 798, 799, 800, 801, 802, 803, 804, 805, 806, 807, 808, 809, 810, 811, 812, 813, 814, 815, 816, 817] (by decide +kernel) (by decide +kernel)
set_option maxRecDepth 20000 in
theorem gL_law_X10_fault : GoodIn wsL_law (wsV RL 26 RX10 yX10_fault wsX10_fault) := goodIn_app (goodIn_of _ (by decide +kernel)) ggL_law_X10_fault
set_option maxRecDepth 20000 in
theorem ggL_law_X9_castle : GoodIn wsL_law wsX9_castle := goodIn_r _ [213, 16, 24, 28, 32, 44, 183, 184, 23, 185, 186, 187, 188, 15, 189, 159, 54, 190, 191, 192, 214, 215, 216, 217, 218, 219, 220, 52, 221, 222, 223, 224, 65, 225, 226, 227, 228, 88, 89, 90, 27, 91, 92, 93, 94, 95, 96, 69, 97, 98, 99, 100, 229, 230, 231, 31, 232, 233, 776, 777, 778, 779, 780, 781, 782, 783, 784, 785, 786, 822, 823, 824, 825, 826, 818, 819, 827, 828, 829, 830, 831, 832, 833, 834, 835, 836] (by decide +kernel) (by decide +kernel)
set_option maxRecDepth 20000 in
theorem gL_law_X9_castle : GoodIn wsL_law (wsV RL 27 RX9 yX9_castle wsX9_castle) := goodIn_app (goodIn_of _ (by decide +kernel)) ggL_law_X9_castle
set_option maxRecDepth 20000 in
theorem ggL_law_X10_castle : GoodIn wsL_law wsX10_castle := goodIn_r _ [237, 164, 202, 126, 203, 238, 204, 239, 107, 205, 240, 111, 197, 198, 199, 5, 200, 201, 166, 105, 206, 207, 208, 209, 144, 145, 146, 122, 123, 124, 125, 117, 115, 116, 127, 128, 129, 130, 131, 132, 133, 134, 135, 136, 137, 138, 106, 118, 139, 140, 141, 142, 143, 147, 148, 149, 150, 241, 242, 243, 244, 787, 788, 789, 790, 791, 792, 793, 794, 795, 796, 797, 798, 799, 800, 801, 802, 803, 804, 805, 806, 807, 808, 809, 810, 811, 812, 813, 814, 815, 816, 817] (by decide +kernel) (by decide +kernel)
set_option maxRecDepth 20000 in
theorem gL_law_X10_castle : GoodIn wsL_law (wsV RL 30 RX10 yX10_castle wsX10_castle) := goodIn_app (goodIn_of _ (by decide +kernel)) ggL_law_X10_castle
set_option maxRecDepth 20000 in
theorem ggL_law_X9_quill : GoodIn wsL_law wsX9_quill := goodIn_r _ [248, 20, 155, 156, 157, 15, 158, 159, 54, 776, 777, 778, 779, 780, 781, 782, 783, 784, 785, 786, 820, 821, 818, 819] (by decide +kernel) (by decide +kernel)
set_option maxRecDepth 20000 in
theorem gL_law_X9_quill : GoodIn wsL_law (wsV RL 31 RX9 yX9_quill wsX9_quill) := goodIn_app (goodIn_of _ (by decide +kernel)) ggL_law_X9_quill
set_option maxRecDepth 20000 in
theorem ggL_law_X10_quill : GoodIn wsL_law wsX10_quill := goodIn_r _ [252, 164, 165, 138, 106, 144, 145, 5, 146, 787, 788, 789, 790, 791, 792, 793, 794, 795, 796, 797, 798, 799, 800, 801, 802, 803, 804, 805, 806, 807, 808, 809, 810, 811, 812, 813, 814, 815, 816, 817] (by decide +kernel) (by decide +kernel)
set_option maxRecDepth 20000 in
theorem gL_law_X10_quill : GoodIn wsL_law (wsV RL 34 RX10 yX10_quill wsX10_quill) := goodIn_app (goodIn_of _ (by decide +kernel)) ggL_law_X10_quill
set_option maxRecDepth 20000 in
theorem ggL_law_X9_blot : GoodIn wsL_law wsX9_blot := goodIn_r _ [256, 20, 171, 172, 173, 15, 174, 159, 776, 777, 778, 779, 780, 781, 782, 783, 784, 785, 786, 820, 821, 818, 819] (by decide +kernel) (by decide +kernel)
set_option maxRecDepth 20000 in
theorem gL_law_X9_blot : GoodIn wsL_law (wsV RL 35 RX9 yX9_blot wsX9_blot) := goodIn_app (goodIn_of _ (by decide +kernel)) ggL_law_X9_blot
set_option maxRecDepth 20000 in
theorem ggL_law_X10_blot : GoodIn wsL_law wsX10_blot := goodIn_r _ [260, 164, 138, 787, 788, 789, 790, 791, 792, 793, 794, 795, 796, 797, 798, 799, 800, 801, 802, 803, 804, 805, 806, 807, 808, 809, 810, 811, 812, 813, 814, 815, 816, 817] (by decide +kernel) (by decide +kernel)
set_option maxRecDepth 20000 in
theorem gL_law_X10_blot : GoodIn wsL_law (wsV RL 38 RX10 yX10_blot wsX10_blot) := goodIn_app (goodIn_of _ (by decide +kernel)) ggL_law_X10_blot
set_option maxRecDepth 20000 in
theorem ggL_law_X9_slip : GoodIn wsL_law wsX9_slip := goodIn_r _ [264, 20, 24, 265, 266, 267, 19, 268, 59, 269, 187, 188, 15, 189, 159, 54, 270, 271, 272, 273, 274, 275, 276, 277, 278, 279, 280, 281, 23, 282, 283, 284, 285, 286, 287, 288, 289, 290, 222, 776, 777, 778, 779, 780, 781, 782, 783, 784, 785, 786, 820, 821, 818, 819, 822, 823, 824, 825, 826] (by decide +kernel) (by decide +kernel)
set_option maxRecDepth 20000 in
theorem gL_law_X9_slip : GoodIn wsL_law (wsV RL 39 RX9 yX9_slip wsX9_slip) := goodIn_app (goodIn_of _ (by decide +kernel)) ggL_law_X9_slip
set_option maxRecDepth 20000 in
theorem ggL_law_X10_slip : GoodIn wsL_law wsX10_slip := goodIn_r _ [294, 164, 295, 296, 297, 5, 298, 138, 106, 139, 140, 141, 142, 126, 143, 144, 145, 146, 787, 788, 789, 790, 791, 792, 793, 794, 795, 796, 797, 798, 799, 800, 801, 802, 803, 804, 805, 806, 807, 808, 809, 810, 811, 812, 813, 814, 815, 816, 817] (by decide +kernel) (by decide +kernel)
set_option maxRecDepth 20000 in
theorem gL_law_X10_slip : GoodIn wsL_law (wsV RL 42 RX10 yX10_slip wsX10_slip) := goodIn_app (goodIn_of _ (by decide +kernel)) ggL_law_X10_slip
set_option maxRecDepth 20000 in
theorem ggL_law_X9_about : GoodIn wsL_law wsX9_about := goodIn_r _ [302, 24, 28, 32, 36, 16, 20, 303, 304, 99, 305, 306, 307, 308, 309, 310, 311, 312, 313, 314, 315, 776, 777, 778, 779, 780, 781, 782, 783, 784, 785, 786, 822, 823, 824, 825, 826, 827, 828, 829, 830, 831, 832, 833, 834, 835, 836, 837, 838, 839, 840, 818, 819, 820, 821] (by decide +kernel) (by decide +kernel)
set_option maxRecDepth 20000 in
theorem gL_law_X9_about : GoodIn wsL_law (wsV RL 43 RX9 yX9_about wsX9_about) := goodIn_app (goodIn_of _ (by decide +kernel)) ggL_law_X9_about
set_option maxRecDepth 20000 in
theorem ggL_law_X10_about : GoodIn wsL_law wsX10_about := goodIn_r _ [319, 164, 126, 107, 240, 320, 166, 138, 321, 322, 5, 323, 324, 325, 326, 327, 328, 329, 787, 788, 789, 790, 791, 792, 793, 794, 795, 796, 797, 798, 799, 800, 801, 802, 803, 804, 805, 806, 807, 808, 809, 810, 811, 812, 813, 814, 815, 816, 817] (by decide +kernel) (by decide +kernel)
set_option maxRecDepth 20000 in
theorem gL_law_X10_about : GoodIn wsL_law (wsV RL 46 RX10 yX10_about wsX10_about) := goodIn_app (goodIn_of _ (by decide +kernel)) ggL_law_X10_about
set_option maxRecDepth 20000 in
theorem ggL_law_X9_fact : GoodIn wsL_law wsX9_fact := goodIn_r _ [333, 24, 334, 288, 289, 23, 290, 222, 335, 336, 337, 2, 338, 28, 339, 340, 99, 341, 342, 343, 344, 345, 346, 347, 348, 349, 350, 351, 776, 777, 778, 779, 780, 781, 782, 783, 784, 785, 786, 822, 823, 824, 825, 826, 827, 828, 829, 830, 831, 832] (by decide +kernel) (by decide +kernel)
set_option maxRecDepth 20000 in
theorem gL_law_X9_fact : GoodIn wsL_law (wsV RL 47 RX9 yX9_fact wsX9_fact) := goodIn_app (goodIn_of _ (by decide +kernel)) ggL_law_X9_fact
set_option maxRecDepth 20000 in
theorem ggL_law_X10_fact : GoodIn wsL_law wsX10_fact := goodIn_r _ [355, 164, 126, 238, 239, 107, 144, 145, 5, 146, 356, 357, 358, 359, 117, 787, 788, 789, 790, 791, 792, 793, 794, 795, 796, 797, 798, 799, 800, 801, 802, 803, 804, 805, 806, 807, 808, 809, 810, 811, 812, 813, 814, 815, 816, 817] (by decide +kernel) (by decide +kernel)
set_option maxRecDepth 20000 in
theorem gL_law_X10_fact : GoodIn wsL_law (wsV RL 51 RX10 yX10_fact wsX10_fact) := goodIn_app (goodIn_of _ (by decide +kernel)) ggL_law_X10_fact

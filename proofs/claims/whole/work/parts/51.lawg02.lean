set_option maxRecDepth 20000 in
theorem ggL_law_X9_choice : GoodIn wsL_law wsX9_choice := goodIn_r _ [636, 40, 24, 28, 637, 638, 639, 39, 640, 641, 87, 582, 280, 281, 23, 282, 283, 284, 285, 286, 287, 288, 289, 290, 222, 642, 643, 644, 645, 86, 577, 384, 385, 386, 646, 647, 648, 649, 534, 535, 536, 407, 408, 409, 2, 410, 411, 412, 413, 414, 346, 347, 348, 415, 416, 417, 418, 594, 595, 99, 596, 597, 220, 52, 221, 533, 650, 304, 305, 306, 307, 308, 309, 310, 311, 312, 776, 777, 778, 779, 780, 781, 782, 783, 784, 785, 786, 822, 823, 824, 825, 826, 841, 842, 827, 828, 829, 830, 831, 832] (by decide +kernel) (by decide +kernel)
set_option maxRecDepth 20000 in
theorem gL_law_X9_choice : GoodIn wsL_law (wsV RL 95 RX9 yX9_choice wsX9_choice) := goodIn_app (goodIn_of _ (by decide +kernel)) ggL_law_X9_choice
set_option maxRecDepth 20000 in
theorem ggL_law_X10_choice : GoodIn wsL_law wsX10_choice := goodIn_r _ [654, 164, 655, 656, 119, 107, 238, 120, 144, 145, 5, 146, 657, 658, 659, 541, 542, 543, 544, 545, 126, 546, 547, 130, 131, 132, 133, 134, 135, 136, 137, 138, 106, 118, 139, 140, 141, 142, 143, 127, 128, 129, 147, 148, 149, 150, 432, 433, 434, 435, 115, 116, 321, 322, 323, 324, 325, 326, 787, 788, 789, 790, 791, 792, 793, 794, 795, 796, 797, 798, 799, 800, 801, 802, 803, 804, 805, 806, 807, 808, 809, 810, 811, 812, 813, 814, 815, 816, 817] (by decide +kernel) (by decide +kernel)
set_option maxRecDepth 20000 in
theorem gL_law_X10_choice : GoodIn wsL_law (wsV RL 99 RX10 yX10_choice wsX10_choice) := goodIn_app (goodIn_of _ (by decide +kernel)) ggL_law_X10_choice
set_option maxRecDepth 20000 in
theorem ggL_law_X9_both : GoodIn wsL_law wsX9_both := goodIn_r _ [663, 365, 366, 367, 2, 368, 20, 24, 265, 266, 267, 19, 268, 59, 269, 187, 188, 15, 189, 159, 54, 270, 271, 272, 273, 274, 275, 276, 277, 278, 279, 280, 281, 23, 282, 283, 284, 285, 286, 287, 288, 289, 290, 222, 664, 665, 666, 667, 28, 387, 388, 389, 27, 390, 92, 391, 392, 393, 394, 395, 396, 397, 398, 399, 400, 401, 402, 60, 403, 404, 405, 406, 407, 408, 409, 410, 411, 412, 413, 414, 346, 347, 348, 415, 416, 417, 418, 419, 515, 307, 308, 309, 310, 311, 312, 668, 669, 670, 671, 776, 777, 778, 779, 780, 781, 782, 783, 784, 785, 786, 820, 821, 818, 819, 822, 823, 824, 825, 826, 827, 828, 829, 830, 831, 832] (by decide +kernel) (by decide +kernel)
set_option maxRecDepth 20000 in
theorem gL_law_X9_both : GoodIn wsL_law (wsV RL 100 RX9 yX9_both wsX9_both) := goodIn_app (goodIn_of _ (by decide +kernel)) ggL_law_X9_both
set_option maxRecDepth 20000 in
theorem ggL_law_X10_both : GoodIn wsL_law wsX10_both := goodIn_r _ [675, 164, 107, 238, 126, 144, 145, 5, 146, 295, 296, 297, 298, 138, 106, 139, 140, 141, 142, 143, 130, 131, 132, 133, 134, 135, 136, 137, 118, 127, 128, 129, 147, 148, 149, 150, 787, 788, 789, 790, 791, 792, 793, 794, 795, 796, 797, 798, 799, 800, 801, 802, 803, 804, 805, 806, 807, 808, 809, 810, 811, 812, 813, 814, 815, 816, 817] (by decide +kernel) (by decide +kernel)
set_option maxRecDepth 20000 in
theorem gL_law_X10_both : GoodIn wsL_law (wsV RL 103 RX10 yX10_both wsX10_both) := goodIn_app (goodIn_of _ (by decide +kernel)) ggL_law_X10_both
set_option maxRecDepth 20000 in
theorem ggL_law_X9_tell : GoodIn wsL_law wsX9_tell := goodIn_r _ [679, 24, 36, 529, 280, 281, 23, 282, 283, 284, 285, 286, 287, 288, 289, 290, 222, 497, 498, 2, 499, 680, 681, 682, 35, 683, 684, 79, 80, 81, 776, 777, 778, 779, 780, 781, 782, 783, 784, 785, 786, 822, 823, 824, 825, 826, 837, 838, 839, 840] (by decide +kernel) (by decide +kernel)
set_option maxRecDepth 20000 in
theorem gL_law_X9_tell : GoodIn wsL_law (wsV RL 104 RX9 yX9_tell wsX9_tell) := goodIn_app (goodIn_of _ (by decide +kernel)) ggL_law_X9_tell
set_option maxRecDepth 20000 in
theorem ggL_law_X10_tell : GoodIn wsL_law wsX10_tell := goodIn_r _ [688, 164, 143, 320, 112, 113, 114, 541, 542, 543, 5, 544, 545, 126, 546, 547, 144, 145, 146, 787, 788, 789, 790, 791, 792, 793, 794, 795, 796, 797, 798, 799, 800, 801, 802, 803, 804, 805, 806, 807, 808, 809, 810, 811, 812, 813, 814, 815, 816, 817] (by decide +kernel) (by decide +kernel)
set_option maxRecDepth 20000 in
theorem gL_law_X10_tell : GoodIn wsL_law (wsV RL 108 RX10 yX10_tell wsX10_tell) := goodIn_app (goodIn_of _ (by decide +kernel)) ggL_law_X10_tell
set_option maxRecDepth 20000 in
theorem ggL_law_X9_untell : GoodIn wsL_law wsX9_untell := goodIn_r _ [692, 36, 693, 694, 695, 35, 696, 684, 776, 777, 778, 779, 780, 781, 782, 783, 784, 785, 786, 837, 838, 839, 840] (by decide +kernel) (by decide +kernel)
set_option maxRecDepth 20000 in
theorem gL_law_X9_untell : GoodIn wsL_law (wsV RL 109 RX9 yX9_untell wsX9_untell) := goodIn_app (goodIn_of _ (by decide +kernel)) ggL_law_X9_untell
set_option maxRecDepth 20000 in
theorem ggL_law_X10_untell : GoodIn wsL_law wsX10_untell := goodIn_r _ [700, 164, 320, 787, 788, 789, 790, 791, 792, 793, 794, 795, 796, 797, 798, 799, 800, 801, 802, 803, 804, 805, 806, 807, 808, 809, 810, 811, 812, 813, 814, 815, 816, 817] (by decide +kernel) (by decide +kernel)
set_option maxRecDepth 20000 in
theorem gL_law_X10_untell : GoodIn wsL_law (wsV RL 112 RX10 yX10_untell wsX10_untell) := goodIn_app (goodIn_of _ (by decide +kernel)) ggL_law_X10_untell
set_option maxRecDepth 20000 in
theorem ggL_law_X9_march : GoodIn wsL_law wsX9_march := goodIn_r _ [704, 45, 24, 36, 705, 98, 99, 100, 706, 707, 708, 35, 709, 684, 79, 81, 80, 710, 280, 281, 23, 282, 283, 284, 285, 286, 287, 288, 289, 290, 222, 711, 595, 596, 597, 220, 52, 221, 533, 534, 535, 536, 407, 408, 409, 2, 410, 411, 412, 413, 414, 346, 347, 348, 415, 416, 303, 304, 305, 306, 307, 308, 309, 310, 311, 312, 313, 314, 315, 712, 713, 714, 715, 339, 340, 341, 342, 343, 344, 345, 349, 350, 351, 776, 777, 778, 779, 780, 781, 782, 783, 784, 785, 786, 822, 823, 824, 825, 826, 837, 838, 839, 840] (by decide +kernel) (by decide +kernel)
set_option maxRecDepth 20000 in
theorem gL_law_X9_march : GoodIn wsL_law (wsV RL 113 RX9 yX9_march wsX9_march) := goodIn_app (goodIn_of _ (by decide +kernel)) ggL_law_X9_march
set_option maxRecDepth 20000 in
theorem ggL_law_X10_march : GoodIn wsL_law wsX10_march := goodIn_r _ [719, 164, 605, 119, 320, 112, 113, 114, 120, 126, 144, 145, 5, 146, 241, 242, 243, 244, 238, 239, 541, 542, 543, 544, 545, 546, 547, 432, 433, 434, 435, 115, 116, 127, 128, 129, 130, 131, 132, 133, 134, 135, 136, 137, 138, 106, 118, 139, 140, 141, 142, 143, 147, 148, 149, 150, 321, 322, 323, 324, 325, 326, 327, 328, 329, 356, 357, 358, 359, 117, 787, 788, 789, 790, 791, 792, 793, 794, 795, 796, 797, 798, 799, 800, 801, 802, 803, 804, 805, 806, 807, 808, 809, 810, 811, 812, 813, 814, 815, 816, 817] (by decide +kernel) (by decide +kernel)
set_option maxRecDepth 20000 in
theorem gL_law_X10_march : GoodIn wsL_law (wsV RL 116 RX10 yX10_march wsX10_march) := goodIn_app (goodIn_of _ (by decide +kernel)) ggL_law_X10_march
set_option maxRecDepth 20000 in
theorem ggL_law_X9_likely : GoodIn wsL_law wsX9_likely := goodIn_r _ [723, 24, 28, 334, 288, 289, 23, 290, 222, 724, 725, 99, 726, 346, 2, 347, 348, 306, 307, 308, 309, 310, 311, 312, 727, 412, 285, 413, 515, 303, 304, 305, 728, 729, 730, 776, 777, 778, 779, 780, 781, 782, 783, 784, 785, 786, 827, 828, 829, 830, 831, 832, 822, 823, 824, 825, 826] (by decide +kernel) (by decide +kernel)
set_option maxRecDepth 20000 in
theorem gL_law_X9_likely : GoodIn wsL_law (wsV RL 117 RX9 yX9_likely wsX9_likely) := goodIn_app (goodIn_of _ (by decide +kernel)) ggL_law_X9_likely
set_option maxRecDepth 20000 in
theorem ggL_law_X10_likely : GoodIn wsL_law wsX10_likely := goodIn_r _ [734, 164, 126, 107, 541, 542, 543, 5, 544, 545, 546, 547, 144, 145, 146, 127, 128, 129, 321, 322, 323, 324, 325, 326, 735, 736, 737, 787, 788, 789, 790, 791, 792, 793, 794, 795, 796, 797, 798, 799, 800, 801, 802, 803, 804, 805, 806, 807, 808, 809, 810, 811, 812, 813, 814, 815, 816, 817] (by decide +kernel) (by decide +kernel)
set_option maxRecDepth 20000 in
theorem gL_law_X10_likely : GoodIn wsL_law (wsV RL 121 RX10 yX10_likely wsX10_likely) := goodIn_app (goodIn_of _ (by decide +kernel)) ggL_law_X10_likely
set_option maxRecDepth 20000 in
theorem ggL_law_X9_seed : GoodIn wsL_law wsX9_seed := goodIn_r _ [741, 364, 776, 777, 778, 779, 780, 781, 782, 783, 784, 785, 786] (by decide +kernel) (by decide +kernel)
set_option maxRecDepth 20000 in
theorem gL_law_X9_seed : GoodIn wsL_law (wsV RL 122 RX9 yX9_seed wsX9_seed) := goodIn_app (goodIn_of _ (by decide +kernel)) ggL_law_X9_seed
set_option maxRecDepth 20000 in
theorem ggL_law_X10_seed : GoodIn wsL_law wsX10_seed := goodIn_r _ [745, 164, 431, 787, 788, 789, 790, 791, 792, 793, 794, 795, 796, 797, 798, 799, 800, 801, 802, 803, 804, 805, 806, 807, 808, 809, 810, 811, 812, 813, 814, 815, 816, 817] (by decide +kernel) (by decide +kernel)
set_option maxRecDepth 20000 in
theorem gL_law_X10_seed : GoodIn wsL_law (wsV RL 126 RX10 yX10_seed wsX10_seed) := goodIn_app (goodIn_of _ (by decide +kernel)) ggL_law_X10_seed
set_option maxRecDepth 20000 in
theorem ggL_law_X9_year : GoodIn wsL_law wsX9_year := goodIn_r _ [749, 28, 364, 20, 24, 365, 366, 367, 2, 368, 265, 266, 267, 19, 268, 59, 269, 187, 188, 15, 189, 159, 54, 270, 271, 272, 273, 274, 275, 276, 277, 278, 279, 280, 281, 23, 282, 283, 284, 285, 286, 287, 288, 289, 290, 222, 444, 445, 446, 447, 448, 449, 450, 451, 452, 391, 392, 393, 394, 395, 396, 397, 398, 399, 400, 401, 402, 60, 403, 404, 405, 406, 407, 408, 409, 410, 411, 412, 413, 414, 346, 347, 348, 415, 416, 417, 418, 776, 777, 778, 779, 780, 781, 782, 783, 784, 785, 786, 827, 828, 829, 830, 831, 832, 822, 823, 824, 825, 826, 820, 821, 818, 819] (by decide +kernel) (by decide +kernel)
set_option maxRecDepth 20000 in
theorem gL_law_X9_year : GoodIn wsL_law (wsV RL 127 RX9 yX9_year wsX9_year) := goodIn_app (goodIn_of _ (by decide +kernel)) ggL_law_X9_year
set_option maxRecDepth 20000 in
theorem ggL_law_X10_year : GoodIn wsL_law wsX10_year := goodIn_r _ [753, 164, 754, 107, 238, 144, 145, 5, 146, 295, 296, 297, 298, 138, 106, 139, 140, 141, 142, 126, 143, 462, 463, 464, 465, 431, 466, 467, 468, 130, 131, 132, 133, 134, 135, 136, 137, 118, 127, 128, 129, 147, 148, 149, 150, 787, 788, 789, 790, 791, 792, 793, 794, 795, 796, 797, 798, 799, 800, 801, 802, 803, 804, 805, 806, 807, 808, 809, 810, 811, 812, 813, 814, 815, 816, 817] (by decide +kernel) (by decide +kernel)
set_option maxRecDepth 20000 in
theorem gL_law_X10_year : GoodIn wsL_law (wsV RL 130 RX10 yX10_year wsX10_year) := goodIn_app (goodIn_of _ (by decide +kernel)) ggL_law_X10_year
set_option maxRecDepth 20000 in
theorem ggL_law_X9_keep : GoodIn wsL_law wsX9_keep := goodIn_r _ [758, 28, 42, 44, 759, 760, 2, 761, 762, 380, 381, 27, 382, 92, 93, 94, 95, 96, 69, 383, 384, 385, 386, 303, 304, 99, 305, 306, 307, 308, 309, 310, 311, 312, 776, 777, 778, 779, 780, 781, 782, 783, 784, 785, 786, 827, 828, 829, 830, 831, 832] (by decide +kernel) (by decide +kernel)
set_option maxRecDepth 20000 in
theorem gL_law_X9_keep : GoodIn wsL_law (wsV RL 131 RX9 yX9_keep wsX9_keep) := goodIn_app (goodIn_of _ (by decide +kernel)) ggL_law_X9_keep
set_option maxRecDepth 20000 in
theorem ggL_law_X10_keep : GoodIn wsL_law wsX10_keep := goodIn_r _ [766, 164, 111, 110, 107, 144, 145, 5, 146, 321, 322, 323, 324, 325, 326, 787, 788, 789, 790, 791, 792, 793, 794, 795, 796, 797, 798, 799, 800, 801, 802, 803, 804, 805, 806, 807, 808, 809, 810, 811, 812, 813, 814, 815, 816, 817] (by decide +kernel) (by decide +kernel)
set_option maxRecDepth 20000 in
theorem gL_law_X10_keep : GoodIn wsL_law (wsV RL 134 RX10 yX10_keep wsX10_keep) := goodIn_app (goodIn_of _ (by decide +kernel)) ggL_law_X10_keep
set_option maxRecDepth 20000 in
theorem ggL_law_X9_again : GoodIn wsL_law wsX9_again := goodIn_r _ [770, 44, 28, 42, 32, 759, 760, 2, 761, 771, 486, 487, 27, 488, 92, 93, 94, 95, 96, 69, 383, 384, 385, 386, 229, 230, 231, 31, 232, 233, 303, 304, 99, 305, 306, 307, 308, 309, 310, 311, 312, 776, 777, 778, 779, 780, 781, 782, 783, 784, 785, 786, 827, 828, 829, 830, 831, 832, 833, 834, 835, 836] (by decide +kernel) (by decide +kernel)
set_option maxRecDepth 20000 in
theorem gL_law_X9_again : GoodIn wsL_law (wsV RL 135 RX9 yX9_again wsX9_again) := goodIn_app (goodIn_of _ (by decide +kernel)) ggL_law_X9_again
set_option maxRecDepth 20000 in
theorem ggL_law_X10_again : GoodIn wsL_law wsX10_again := goodIn_r _ [775, 164, 111, 107, 110, 240, 144, 145, 5, 146, 321, 322, 323, 324, 325, 326, 787, 788, 789, 790, 791, 792, 793, 794, 795, 796, 797, 798, 799, 800, 801, 802, 803, 804, 805, 806, 807, 808, 809, 810, 811, 812, 813, 814, 815, 816, 817] (by decide +kernel) (by decide +kernel)
set_option maxRecDepth 20000 in
theorem gL_law_X10_again : GoodIn wsL_law (wsV RL 138 RX10 yX10_again wsX10_again) := goodIn_app (goodIn_of _ (by decide +kernel)) ggL_law_X10_again

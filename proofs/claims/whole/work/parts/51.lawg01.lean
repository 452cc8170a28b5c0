set_option maxRecDepth 20000 in
theorem ggL_law_X9_ask : GoodIn wsL_law wsX9_ask := goodIn_r _ [363, 28, 32, 364, 20, 24, 365, 366, 367, 2, 368, 265, 266, 267, 19, 268, 59, 269, 187, 188, 15, 189, 159, 54, 270, 271, 272, 273, 274, 275, 276, 277, 278, 279, 280, 281, 23, 282, 283, 284, 285, 286, 287, 288, 289, 290, 222, 369, 370, 371, 27, 372, 94, 95, 96, 373, 374, 375, 31, 376, 73, 377, 75, 233, 378, 220, 52, 221, 379, 380, 381, 382, 92, 93, 69, 383, 384, 385, 386, 387, 388, 389, 390, 391, 392, 393, 394, 395, 396, 397, 398, 399, 400, 401, 402, 60, 403, 404, 405, 406, 407, 408, 409, 410, 411, 412, 413, 414, 346, 347, 348, 415, 416, 417, 418, 419, 420, 421, 422, 776, 777, 778, 779, 780, 781, 782, 783, 784, 785, 786, 827, 828, 829, 830, 831, 832, 822, 823, 824, 825, 826, 820, 821, 818, 819, 833, 834, 835, 836] (by decide +kernel) (by decide +kernel)
set_option maxRecDepth 20000 in
theorem gL_law_X9_ask : GoodIn wsL_law (wsV RL 52 RX9 yX9_ask wsX9_ask) := goodIn_app (goodIn_of _ (by decide +kernel)) ggL_law_X9_ask
set_option maxRecDepth 20000 in
theorem ggL_law_X10_ask : GoodIn wsL_law wsX10_ask := goodIn_r _ [426, 164, 107, 238, 119, 295, 296, 297, 5, 298, 138, 106, 139, 140, 141, 142, 126, 143, 144, 145, 146, 427, 428, 429, 430, 240, 108, 109, 431, 130, 131, 132, 133, 134, 135, 136, 137, 118, 127, 128, 129, 147, 148, 149, 150, 432, 433, 434, 435, 115, 116, 787, 788, 789, 790, 791, 792, 793, 794, 795, 796, 797, 798, 799, 800, 801, 802, 803, 804, 805, 806, 807, 808, 809, 810, 811, 812, 813, 814, 815, 816, 817] (by decide +kernel) (by decide +kernel)
set_option maxRecDepth 20000 in
theorem gL_law_X10_ask : GoodIn wsL_law (wsV RL 55 RX10 yX10_ask wsX10_ask) := goodIn_app (goodIn_of _ (by decide +kernel)) ggL_law_X10_ask
set_option maxRecDepth 20000 in
theorem ggL_law_X9_day : GoodIn wsL_law wsX9_day := goodIn_r _ [439, 32, 28, 364, 373, 374, 375, 31, 376, 73, 377, 75, 233, 378, 220, 52, 221, 379, 380, 381, 27, 382, 92, 93, 94, 95, 96, 69, 383, 384, 385, 386, 440, 441, 442, 443, 444, 445, 2, 446, 447, 448, 449, 450, 451, 452, 453, 454, 455, 456, 457, 340, 99, 341, 97, 98, 100, 776, 777, 778, 779, 780, 781, 782, 783, 784, 785, 786, 827, 828, 829, 830, 831, 832, 833, 834, 835, 836] (by decide +kernel) (by decide +kernel)
set_option maxRecDepth 20000 in
theorem gL_law_X9_day : GoodIn wsL_law (wsV RL 56 RX9 yX9_day wsX9_day) := goodIn_app (goodIn_of _ (by decide +kernel)) ggL_law_X9_day
set_option maxRecDepth 20000 in
theorem ggL_law_X10_day : GoodIn wsL_law wsX10_day := goodIn_r _ [461, 164, 107, 427, 428, 429, 5, 430, 240, 108, 109, 431, 462, 463, 464, 465, 466, 467, 468, 787, 788, 789, 790, 791, 792, 793, 794, 795, 796, 797, 798, 799, 800, 801, 802, 803, 804, 805, 806, 807, 808, 809, 810, 811, 812, 813, 814, 815, 816, 817] (by decide +kernel) (by decide +kernel)
set_option maxRecDepth 20000 in
theorem gL_law_X10_day : GoodIn wsL_law (wsV RL 59 RX10 yX10_day wsX10_day) := goodIn_app (goodIn_of _ (by decide +kernel)) ggL_law_X10_day
set_option maxRecDepth 20000 in
theorem ggL_law_X9_cloth : GoodIn wsL_law wsX9_cloth := goodIn_r _ [472, 32, 28, 364, 373, 374, 375, 31, 376, 73, 377, 75, 233, 378, 220, 52, 221, 379, 380, 381, 27, 382, 92, 93, 94, 95, 96, 69, 383, 384, 385, 386, 776, 777, 778, 779, 780, 781, 782, 783, 784, 785, 786, 827, 828, 829, 830, 831, 832, 833, 834, 835, 836] (by decide +kernel) (by decide +kernel)
set_option maxRecDepth 20000 in
theorem gL_law_X9_cloth : GoodIn wsL_law (wsV RL 60 RX9 yX9_cloth wsX9_cloth) := goodIn_app (goodIn_of _ (by decide +kernel)) ggL_law_X9_cloth
set_option maxRecDepth 20000 in
theorem ggL_law_X10_cloth : GoodIn wsL_law wsX10_cloth := goodIn_r _ [476, 164, 107, 427, 428, 429, 5, 430, 240, 108, 109, 431, 787, 788, 789, 790, 791, 792, 793, 794, 795, 796, 797, 798, 799, 800, 801, 802, 803, 804, 805, 806, 807, 808, 809, 810, 811, 812, 813, 814, 815, 816, 817] (by decide +kernel) (by decide +kernel)
set_option maxRecDepth 20000 in
theorem gL_law_X10_cloth : GoodIn wsL_law (wsV RL 63 RX10 yX10_cloth wsX10_cloth) := goodIn_app (goodIn_of _ (by decide +kernel)) ggL_law_X10_cloth
set_option maxRecDepth 20000 in
theorem ggL_law_X9_undo : GoodIn wsL_law wsX9_undo := goodIn_r _ [480, 32, 28, 364, 481, 482, 483, 31, 484, 233, 377, 73, 75, 485, 486, 487, 27, 488, 92, 93, 94, 95, 96, 69, 383, 384, 385, 386, 776, 777, 778, 779, 780, 781, 782, 783, 784, 785, 786, 833, 834, 835, 836, 827, 828, 829, 830, 831, 832] (by decide +kernel) (by decide +kernel)
set_option maxRecDepth 20000 in
theorem gL_law_X9_undo : GoodIn wsL_law (wsV RL 64 RX9 yX9_undo wsX9_undo) := goodIn_app (goodIn_of _ (by decide +kernel)) ggL_law_X9_undo
set_option maxRecDepth 20000 in
theorem ggL_law_X10_undo : GoodIn wsL_law wsX10_undo := goodIn_r _ [492, 164, 240, 107, 108, 109, 431, 787, 788, 789, 790, 791, 792, 793, 794, 795, 796, 797, 798, 799, 800, 801, 802, 803, 804, 805, 806, 807, 808, 809, 810, 811, 812, 813, 814, 815, 816, 817] (by decide +kernel) (by decide +kernel)
set_option maxRecDepth 20000 in
theorem gL_law_X10_undo : GoodIn wsL_law (wsV RL 67 RX10 yX10_undo wsX10_undo) := goodIn_app (goodIn_of _ (by decide +kernel)) ggL_law_X10_undo
set_option maxRecDepth 20000 in
theorem ggL_law_X9_answer : GoodIn wsL_law wsX9_answer := goodIn_r _ [496, 24, 20, 28, 497, 498, 2, 499, 500, 501, 502, 23, 503, 222, 365, 366, 367, 368, 265, 266, 267, 19, 268, 59, 269, 187, 188, 15, 189, 159, 54, 270, 271, 272, 273, 274, 275, 276, 277, 278, 279, 280, 281, 282, 283, 284, 285, 286, 287, 288, 289, 290, 387, 388, 389, 27, 390, 92, 391, 392, 393, 394, 395, 396, 397, 398, 399, 400, 401, 402, 60, 403, 404, 405, 406, 407, 408, 409, 410, 411, 412, 413, 414, 346, 347, 348, 415, 416, 417, 418, 420, 421, 422, 776, 777, 778, 779, 780, 781, 782, 783, 784, 785, 786, 822, 823, 824, 825, 826, 820, 821, 818, 819, 827, 828, 829, 830, 831, 832] (by decide +kernel) (by decide +kernel)
set_option maxRecDepth 20000 in
theorem gL_law_X9_answer : GoodIn wsL_law (wsV RL 68 RX9 yX9_answer wsX9_answer) := goodIn_app (goodIn_of _ (by decide +kernel)) ggL_law_X9_answer
set_option maxRecDepth 20000 in
theorem ggL_law_X10_answer : GoodIn wsL_law wsX10_answer := goodIn_r _ [507, 164, 143, 126, 107, 144, 145, 5, 146, 295, 296, 297, 298, 138, 106, 139, 140, 141, 142, 130, 131, 132, 133, 134, 135, 136, 137, 118, 127, 128, 129, 147, 148, 149, 150, 787, 788, 789, 790, 791, 792, 793, 794, 795, 796, 797, 798, 799, 800, 801, 802, 803, 804, 805, 806, 807, 808, 809, 810, 811, 812, 813, 814, 815, 816, 817] (by decide +kernel) (by decide +kernel)
set_option maxRecDepth 20000 in
theorem gL_law_X10_answer : GoodIn wsL_law (wsV RL 71 RX10 yX10_answer wsX10_answer) := goodIn_app (goodIn_of _ (by decide +kernel)) ggL_law_X10_answer
set_option maxRecDepth 20000 in
theorem ggL_law_X9_parts : GoodIn wsL_law wsX9_parts := goodIn_r _ [511, 28, 20, 512, 513, 2, 514, 365, 366, 367, 368, 24, 265, 266, 267, 19, 268, 59, 269, 187, 188, 15, 189, 159, 54, 270, 271, 272, 273, 274, 275, 276, 277, 278, 279, 280, 281, 23, 282, 283, 284, 285, 286, 287, 288, 289, 290, 222, 387, 388, 389, 27, 390, 92, 419, 396, 397, 398, 399, 400, 401, 402, 60, 403, 404, 405, 406, 407, 408, 409, 410, 411, 412, 413, 414, 346, 347, 348, 415, 416, 515, 307, 308, 309, 310, 311, 312, 776, 777, 778, 779, 780, 781, 782, 783, 784, 785, 786, 827, 828, 829, 830, 831, 832, 820, 821, 818, 819, 822, 823, 824, 825, 826] (by decide +kernel) (by decide +kernel)
set_option maxRecDepth 20000 in
theorem gL_law_X9_parts : GoodIn wsL_law (wsV RL 72 RX9 yX9_parts wsX9_parts) := goodIn_app (goodIn_of _ (by decide +kernel)) ggL_law_X9_parts
set_option maxRecDepth 20000 in
theorem ggL_law_X10_parts : GoodIn wsL_law wsX10_parts := goodIn_r _ [519, 164, 520, 144, 145, 5, 146, 295, 296, 297, 298, 138, 106, 139, 140, 141, 142, 126, 143, 521, 522, 523, 524, 107, 119, 432, 433, 434, 435, 115, 116, 127, 128, 129, 130, 131, 132, 133, 134, 135, 136, 137, 118, 147, 148, 149, 150, 321, 322, 323, 324, 325, 326, 787, 788, 789, 790, 791, 792, 793, 794, 795, 796, 797, 798, 799, 800, 801, 802, 803, 804, 805, 806, 807, 808, 809, 810, 811, 812, 813, 814, 815, 816, 817] (by decide +kernel) (by decide +kernel)
set_option maxRecDepth 20000 in
theorem gL_law_X10_parts : GoodIn wsL_law (wsV RL 75 RX10 yX10_parts wsX10_parts) := goodIn_app (goodIn_of _ (by decide +kernel)) ggL_law_X10_parts
set_option maxRecDepth 20000 in
theorem ggL_law_X9_simpleParts : GoodIn wsL_law wsX9_simpleParts := goodIn_r _ [528, 24, 28, 529, 280, 281, 23, 282, 283, 284, 285, 286, 287, 288, 289, 290, 222, 512, 513, 2, 514, 387, 388, 389, 27, 390, 92, 530, 531, 99, 532, 533, 534, 535, 536, 407, 408, 409, 410, 411, 412, 413, 414, 346, 347, 348, 415, 416, 306, 307, 308, 309, 310, 311, 312, 776, 777, 778, 779, 780, 781, 782, 783, 784, 785, 786, 827, 828, 829, 830, 831, 832, 822, 823, 824, 825, 826] (by decide +kernel) (by decide +kernel)
set_option maxRecDepth 20000 in
theorem gL_law_X9_simpleParts : GoodIn wsL_law (wsV RL 76 RX9 yX9_simpleParts wsX9_simpleParts) := goodIn_app (goodIn_of _ (by decide +kernel)) ggL_law_X9_simpleParts
set_option maxRecDepth 20000 in
theorem ggL_law_X10_simpleParts : GoodIn wsL_law wsX10_simpleParts := goodIn_r _ [540, 164, 520, 541, 542, 543, 5, 544, 545, 126, 546, 547, 144, 145, 146, 521, 522, 523, 524, 107, 119, 432, 433, 434, 435, 115, 116, 127, 128, 129, 130, 131, 132, 133, 134, 135, 136, 137, 138, 106, 118, 139, 140, 141, 142, 143, 147, 148, 149, 150, 321, 322, 323, 324, 325, 326, 787, 788, 789, 790, 791, 792, 793, 794, 795, 796, 797, 798, 799, 800, 801, 802, 803, 804, 805, 806, 807, 808, 809, 810, 811, 812, 813, 814, 815, 816, 817] (by decide +kernel) (by decide +kernel)
set_option maxRecDepth 20000 in
theorem gL_law_X10_simpleParts : GoodIn wsL_law (wsV RL 79 RX10 yX10_simpleParts wsX10_simpleParts) := goodIn_app (goodIn_of _ (by decide +kernel)) ggL_law_X10_simpleParts
set_option maxRecDepth 20000 in
theorem ggL_law_X9_toAsk : GoodIn wsL_law wsX9_toAsk := goodIn_r _ [551, 24, 529, 280, 281, 23, 282, 283, 284, 285, 286, 287, 288, 289, 290, 222, 552, 553, 554, 2, 555, 28, 556, 51, 52, 53, 387, 388, 389, 27, 390, 92, 530, 531, 99, 532, 533, 534, 535, 536, 407, 408, 409, 410, 411, 412, 413, 414, 346, 347, 348, 415, 416, 306, 307, 308, 309, 310, 311, 312, 776, 777, 778, 779, 780, 781, 782, 783, 784, 785, 786, 822, 823, 824, 825, 826, 827, 828, 829, 830, 831, 832] (by decide +kernel) (by decide +kernel)
set_option maxRecDepth 20000 in
theorem gL_law_X9_toAsk : GoodIn wsL_law (wsV RL 80 RX9 yX9_toAsk wsX9_toAsk) := goodIn_app (goodIn_of _ (by decide +kernel)) ggL_law_X9_toAsk
set_option maxRecDepth 20000 in
theorem ggL_law_X10_toAsk : GoodIn wsL_law wsX10_toAsk := goodIn_r _ [560, 164, 541, 542, 543, 5, 544, 545, 126, 546, 547, 144, 145, 146, 521, 522, 523, 524, 107, 119, 432, 433, 434, 435, 115, 116, 127, 128, 129, 130, 131, 132, 133, 134, 135, 136, 137, 138, 106, 118, 139, 140, 141, 142, 143, 147, 148, 149, 150, 321, 322, 323, 324, 325, 326, 787, 788, 789, 790, 791, 792, 793, 794, 795, 796, 797, 798, 799, 800, 801, 802, 803, 804, 805, 806, 807, 808, 809, 810, 811, 812, 813, 814, 815, 816, 817] (by decide +kernel) (by decide +kernel)
set_option maxRecDepth 20000 in
theorem gL_law_X10_toAsk : GoodIn wsL_law (wsV RL 83 RX10 yX10_toAsk wsX10_toAsk) := goodIn_app (goodIn_of _ (by decide +kernel)) ggL_law_X10_toAsk
set_option maxRecDepth 20000 in
theorem ggL_law_X9_dumb : GoodIn wsL_law wsX9_dumb := goodIn_r _ [564, 24, 28, 529, 280, 281, 23, 282, 283, 284, 285, 286, 287, 288, 289, 290, 222, 387, 388, 389, 27, 390, 92, 530, 531, 99, 532, 533, 534, 535, 536, 407, 408, 409, 2, 410, 411, 412, 413, 414, 346, 347, 348, 415, 416, 306, 307, 308, 309, 310, 311, 312, 776, 777, 778, 779, 780, 781, 782, 783, 784, 785, 786, 827, 828, 829, 830, 831, 832, 822, 823, 824, 825, 826] (by decide +kernel) (by decide +kernel)
set_option maxRecDepth 20000 in
theorem gL_law_X9_dumb : GoodIn wsL_law (wsV RL 84 RX9 yX9_dumb wsX9_dumb) := goodIn_app (goodIn_of _ (by decide +kernel)) ggL_law_X9_dumb
set_option maxRecDepth 20000 in
theorem ggL_law_X10_dumb : GoodIn wsL_law wsX10_dumb := goodIn_r _ [568, 164, 541, 542, 543, 5, 544, 545, 126, 546, 547, 144, 145, 146, 521, 522, 523, 524, 107, 119, 432, 433, 434, 435, 115, 116, 127, 128, 129, 130, 131, 132, 133, 134, 135, 136, 137, 138, 106, 118, 139, 140, 141, 142, 143, 147, 148, 149, 150, 321, 322, 323, 324, 325, 326, 787, 788, 789, 790, 791, 792, 793, 794, 795, 796, 797, 798, 799, 800, 801, 802, 803, 804, 805, 806, 807, 808, 809, 810, 811, 812, 813, 814, 815, 816, 817] (by decide +kernel) (by decide +kernel)
set_option maxRecDepth 20000 in
theorem gL_law_X10_dumb : GoodIn wsL_law (wsV RL 87 RX10 yX10_dumb wsX10_dumb) := goodIn_app (goodIn_of _ (by decide +kernel)) ggL_law_X10_dumb
set_option maxRecDepth 20000 in
theorem ggL_law_X9_tells : GoodIn wsL_law wsX9_tells := goodIn_r _ [572, 24, 40, 28, 334, 288, 289, 23, 290, 222, 573, 574, 575, 39, 576, 86, 577, 384, 385, 386, 578, 579, 580, 581, 582, 280, 281, 282, 283, 284, 285, 286, 287, 583, 584, 585, 586, 587, 588, 589, 590, 314, 99, 315, 591, 307, 308, 309, 310, 311, 312, 592, 340, 341, 350, 2, 351, 345, 346, 347, 348, 343, 344, 593, 594, 595, 596, 597, 220, 52, 221, 533, 534, 535, 536, 407, 408, 409, 410, 411, 412, 413, 414, 415, 416, 598, 599, 600, 776, 777, 778, 779, 780, 781, 782, 783, 784, 785, 786, 822, 823, 824, 825, 826, 827, 828, 829, 830, 831, 832, 841, 842] (by decide +kernel) (by decide +kernel)
set_option maxRecDepth 20000 in
theorem gL_law_X9_tells : GoodIn wsL_law (wsV RL 88 RX9 yX9_tells wsX9_tells) := goodIn_app (goodIn_of _ (by decide +kernel)) ggL_law_X9_tells
set_option maxRecDepth 20000 in
theorem ggL_law_X10_tells : GoodIn wsL_law wsX10_tells := goodIn_r _ [604, 164, 605, 126, 107, 144, 145, 5, 146, 541, 542, 543, 544, 545, 546, 547, 606, 607, 608, 609, 121, 610, 611, 612, 432, 433, 434, 435, 115, 116, 127, 128, 129, 130, 131, 132, 133, 134, 135, 136, 137, 138, 106, 118, 139, 140, 141, 142, 143, 147, 148, 149, 150, 613, 614, 615, 616, 356, 357, 358, 359, 117, 327, 328, 329, 617, 618, 619, 620, 120, 621, 622, 623, 624, 625, 626, 627, 628, 119, 629, 630, 631, 632, 787, 788, 789, 790, 791, 792, 793, 794, 795, 796, 797, 798, 799, 800, 801, 802, 803, 804, 805, 806, 807, 808, 809, 810, 811, 812, 813, 814, 815, 816, 817] (by decide +kernel) (by decide +kernel)
set_option maxRecDepth 20000 in
theorem gL_law_X10_tells : GoodIn wsL_law (wsV RL 92 RX10 yX10_tells wsX10_tells) := goodIn_app (goodIn_of _ (by decide +kernel)) ggL_law_X10_tells

set_option maxRecDepth 20000 in
theorem ggL_law_X5_init : GoodIn wsL_law wsX5_init := goodIn_r _ [8, 9, 10, 11, 12, 13, 14, 15, 16, 17, 18, 19, 20, 21, 22, 23, 24, 25, 26, 27, 28, 29, 30, 31, 32, 33, 34, 35, 36, 37, 38, 39, 40, 41, 42, 43, 44, 45, 46, 47, 48, 49, 50, 51, 52, 53, 54, 55, 56, 57, 58, 59, 60, 61, 62, 63, 64, 65, 66, 67, 68, 69, 70, 71, 72, 73, 687, 688, 689, 690, 655, 656, 657, 658, 659, 660, 661, 662, 691, 692, 693, 694, 695, 696, 697, 698, 699, 700, 701, 702, 703, 704] (by decide +kernel) (by decide +kernel)
set_option maxRecDepth 20000 in
theorem gL_law_X5_init : GoodIn wsL_law (wsX5_init) := ggL_law_X5_init
set_option maxRecDepth 20000 in
theorem ggL_law_X6_init : GoodIn wsL_law wsX6_init := goodIn_r _ [76, 77, 10, 11, 28, 78, 79, 80, 81, 82, 83, 84, 85, 86, 87, 88, 89, 90, 91, 663, 664, 665, 666, 667, 668, 669, 670, 671, 672, 673, 674, 675, 676, 677, 678, 679, 680, 681, 682, 683, 684, 685, 686] (by decide +kernel) (by decide +kernel)
set_option maxRecDepth 20000 in
theorem gL_law_X6_init : GoodIn wsL_law (wsX6_init) := ggL_law_X6_init
set_option maxRecDepth 20000 in
theorem ggL_law_X5_addRouter : GoodIn wsL_law wsX5_addRouter := goodIn_r _ [95, 15, 96, 97, 98, 14, 99, 43, 100, 101, 102, 103, 104, 2, 105, 106, 107, 108, 109, 110, 41, 111, 112, 113, 114, 40, 42, 115, 116, 117, 118, 119, 655, 656, 657, 658, 659, 660, 661, 662, 687, 688, 689, 690] (by decide +kernel) (by decide +kernel)
set_option maxRecDepth 20000 in
theorem gL_law_X5_addRouter : GoodIn wsL_law (wsV RL 13 RX5 yX5_addRouter wsX5_addRouter) := goodIn_app (goodIn_of _ (by decide +kernel)) ggL_law_X5_addRouter
set_option maxRecDepth 20000 in
theorem ggL_law_X6_addRouter : GoodIn wsL_law wsX6_addRouter := goodIn_r _ [123, 124, 78, 80, 79, 125, 126, 127, 5, 128, 129, 130, 131, 132, 133, 134, 135, 136, 137, 138, 663, 664, 665, 666, 667, 668, 669, 670, 671, 672, 673, 674, 675, 676, 677, 678, 679, 680, 681, 682, 683, 684, 685, 686] (by decide +kernel) (by decide +kernel)
set_option maxRecDepth 20000 in
theorem gL_law_X6_addRouter : GoodIn wsL_law (wsV RL 17 RX6 yX6_addRouter wsX6_addRouter) := goodIn_app (goodIn_of _ (by decide +kernel)) ggL_law_X6_addRouter
set_option maxRecDepth 20000 in
theorem ggL_law_X5_routerCount : GoodIn wsL_law wsX5_routerCount := goodIn_r _ [142, 15, 143, 144, 145, 14, 146, 43, 655, 656, 657, 658, 659, 660, 661, 662, 687, 688, 689, 690] (by decide +kernel) (by decide +kernel)
set_option maxRecDepth 20000 in
theorem gL_law_X5_routerCount : GoodIn wsL_law (wsV RL 18 RX5 yX5_routerCount wsX5_routerCount) := goodIn_app (goodIn_of _ (by decide +kernel)) ggL_law_X5_routerCount
set_option maxRecDepth 20000 in
theorem ggL_law_X6_routerCount : GoodIn wsL_law wsX6_routerCount := goodIn_r _ [150, 124, 663, 664, 665, 666, 667, 668, 669, 670, 671, 672, 673, 674, 675, 676, 677, 678, 679, 680, 681, 682, 683, 684, 685, 686] (by decide +kernel) (by decide +kernel)
set_option maxRecDepth 20000 in
theorem gL_law_X6_routerCount : GoodIn wsL_law (wsV RL 22 RX6 yX6_routerCount wsX6_routerCount) := goodIn_app (goodIn_of _ (by decide +kernel)) ggL_law_X6_routerCount
set_option maxRecDepth 20000 in
theorem ggL_law_X5_depth : GoodIn wsL_law wsX5_depth := goodIn_r _ [154, 15, 100, 101, 102, 14, 103, 43, 104, 2, 105, 155, 116, 117, 118, 42, 119, 655, 656, 657, 658, 659, 660, 661, 662, 687, 688, 689, 690] (by decide +kernel) (by decide +kernel)
set_option maxRecDepth 20000 in
theorem gL_law_X5_depth : GoodIn wsL_law (wsV RL 23 RX5 yX5_depth wsX5_depth) := goodIn_app (goodIn_of _ (by decide +kernel)) ggL_law_X5_depth
set_option maxRecDepth 20000 in
theorem ggL_law_X6_depth : GoodIn wsL_law wsX6_depth := goodIn_r _ [159, 80, 125, 126, 127, 5, 128, 124, 129, 130, 131, 663, 664, 665, 666, 667, 668, 669, 670, 671, 672, 673, 674, 675, 676, 677, 678, 679, 680, 681, 682, 683, 684, 685, 686] (by decide +kernel) (by decide +kernel)
set_option maxRecDepth 20000 in
theorem gL_law_X6_depth : GoodIn wsL_law (wsV RL 27 RX6 yX6_depth wsX6_depth) := goodIn_app (goodIn_of _ (by decide +kernel)) ggL_law_X6_depth
set_option maxRecDepth 20000 in
theorem ggL_law_X5_digest : GoodIn wsL_law wsX5_digest := goodIn_r _ [163, 106, 104, 2, 105, 164, 165, 166] (by decide +kernel) (by decide +kernel)
set_option maxRecDepth 20000 in
theorem gL_law_X5_digest : GoodIn wsL_law (wsV RL 28 RX5 yX5_digest wsX5_digest) := goodIn_app (goodIn_of _ (by decide +kernel)) ggL_law_X5_digest
set_option maxRecDepth 20000 in
theorem ggL_law_X6_digest : GoodIn wsL_law wsX6_digest := goodIn_r _ [170, 132, 133, 5, 134, 129, 130, 131, 171, 172, 173] (by decide +kernel) (by decide +kernel)
set_option maxRecDepth 20000 in
theorem gL_law_X6_digest : GoodIn wsL_law (wsV RL 31 RX6 yX6_digest wsX6_digest) := goodIn_app (goodIn_of _ (by decide +kernel)) ggL_law_X6_digest
set_option maxRecDepth 20000 in
theorem ggL_law_X5_fragment : GoodIn wsL_law wsX5_fragment := goodIn_r _ [177, 106, 104, 2, 105, 178, 179, 180, 164, 165, 166, 181, 182, 183] (by decide +kernel) (by decide +kernel)
set_option maxRecDepth 20000 in
theorem gL_law_X5_fragment : GoodIn wsL_law (wsV RL 32 RX5 yX5_fragment wsX5_fragment) := goodIn_app (goodIn_of _ (by decide +kernel)) ggL_law_X5_fragment
set_option maxRecDepth 20000 in
theorem ggL_law_X6_fragment : GoodIn wsL_law wsX6_fragment := goodIn_r _ [187, 132, 133, 5, 134, 129, 130, 131, 188, 189, 190, 171, 172, 173, 191, 192, 193] (by decide +kernel) (by decide +kernel)
set_option maxRecDepth 20000 in
theorem gL_law_X6_fragment : GoodIn wsL_law (wsV RL 35 RX6 yX6_fragment wsX6_fragment) := goodIn_app (goodIn_of _ (by decide +kernel)) ggL_law_X6_fragment
set_option maxRecDepth 20000 in
theorem ggL_law_X5_setMarkingPercent : GoodIn wsL_law wsX5_setMarkingPercent := goodIn_r _ [197, 30, 198, 199, 2, 200, 655, 656, 657, 658, 659, 660, 661, 662] (by decide +kernel) (by decide +kernel)
set_option maxRecDepth 20000 in
theorem gL_law_X5_setMarkingPercent : GoodIn wsL_law (wsV RL 36 RX5 yX5_setMarkingPercent wsX5_setMarkingPercent) := goodIn_app (goodIn_of _ (by decide +kernel)) ggL_law_X5_setMarkingPercent
set_option maxRecDepth 20000 in
theorem ggL_law_X6_setMarkingPercent : GoodIn wsL_law wsX6_setMarkingPercent := goodIn_r _ [204, 90, 129, 130, 5, 131, 663, 664, 665, 666, 667, 668, 669, 670, 671, 672, 673, 674, 675, 676, 677, 678, 679, 680, 681, 682, 683, 684, 685, 686] (by decide +kernel) (by decide +kernel)
set_option maxRecDepth 20000 in
theorem gL_law_X6_setMarkingPercent : GoodIn wsL_law (wsV RL 39 RX6 yX6_setMarkingPercent wsX6_setMarkingPercent) := goodIn_app (goodIn_of _ (by decide +kernel)) ggL_law_X6_setMarkingPercent
set_option maxRecDepth 20000 in
theorem ggL_law_X5_setSeed : GoodIn wsL_law wsX5_setSeed := goodIn_r _ [208, 19, 209, 210, 211, 18, 212, 48, 655, 656, 657, 658, 659, 660, 661, 662, 691] (by decide +kernel) (by decide +kernel)
set_option maxRecDepth 20000 in
theorem gL_law_X5_setSeed : GoodIn wsL_law (wsV RL 40 RX5 yX5_setSeed wsX5_setSeed) := goodIn_app (goodIn_of _ (by decide +kernel)) ggL_law_X5_setSeed
set_option maxRecDepth 20000 in
theorem ggL_law_X6_setSeed : GoodIn wsL_law wsX6_setSeed := goodIn_r _ [216, 91, 663, 664, 665, 666, 667, 668, 669, 670, 671, 672, 673, 674, 675, 676, 677, 678, 679, 680, 681, 682, 683, 684, 685, 686] (by decide +kernel) (by decide +kernel)
set_option maxRecDepth 20000 in
theorem gL_law_X6_setSeed : GoodIn wsL_law (wsV RL 43 RX6 yX6_setSeed wsX6_setSeed) := goodIn_app (goodIn_of _ (by decide +kernel)) ggL_law_X6_setSeed
set_option maxRecDepth 20000 in
theorem ggL_law_X5_clearMarks : GoodIn wsL_law wsX5_clearMarks := goodIn_r _ [220, 27, 221, 222, 223, 26, 224, 64, 65, 225, 226, 227, 228, 62, 63, 229, 230, 231, 232, 655, 656, 657, 658, 659, 660, 661, 662, 697, 698, 699, 700] (by decide +kernel) (by decide +kernel)
set_option maxRecDepth 20000 in
theorem gL_law_X5_clearMarks : GoodIn wsL_law (wsV RL 44 RX5 yX5_clearMarks wsX5_clearMarks) := goodIn_app (goodIn_of _ (by decide +kernel)) ggL_law_X5_clearMarks
set_option maxRecDepth 20000 in
theorem ggL_law_X6_clearMarks : GoodIn wsL_law wsX6_clearMarks := goodIn_r _ [236, 237, 81, 238, 663, 664, 665, 666, 667, 668, 669, 670, 671, 672, 673, 674, 675, 676, 677, 678, 679, 680, 681, 682, 683, 684, 685, 686] (by decide +kernel) (by decide +kernel)
set_option maxRecDepth 20000 in
theorem gL_law_X6_clearMarks : GoodIn wsL_law (wsV RL 47 RX6 yX6_clearMarks wsX6_clearMarks) := goodIn_app (goodIn_of _ (by decide +kernel)) ggL_law_X6_clearMarks
set_option maxRecDepth 20000 in
theorem ggL_law_X5_sendPackets : GoodIn wsL_law wsX5_sendPackets := goodIn_r _ [242, 15, 23, 100, 101, 102, 14, 103, 43, 104, 2, 105, 198, 199, 200, 243, 244, 245, 22, 246, 53, 54, 247, 248, 249, 250, 55, 56, 57, 251, 252, 253, 254, 27, 255, 256, 257, 258, 259, 260, 261, 262, 263, 264, 265, 266, 41, 119, 179, 180, 164, 165, 166, 267, 268, 269, 270, 19, 30, 271, 272, 273, 18, 274, 48, 275, 181, 182, 183, 276, 277, 278, 279, 280, 281, 282, 283, 284, 285, 286, 287, 40, 288, 289, 290, 26, 291, 64, 65, 62, 63, 292, 293, 294, 295, 296, 297, 298, 299, 300, 301, 302, 303, 304, 305, 306, 307, 308, 309, 310, 311, 312, 313, 314, 315, 316, 317, 655, 656, 657, 658, 659, 660, 661, 662, 687, 688, 689, 690, 692, 693, 694, 695, 696, 691, 697, 698, 699, 700] (by decide +kernel) (by decide +kernel)
set_option maxRecDepth 20000 in
theorem gL_law_X5_sendPackets : GoodIn wsL_law (wsV RL 48 RX5 yX5_sendPackets wsX5_sendPackets) := goodIn_app (goodIn_of _ (by decide +kernel)) ggL_law_X5_sendPackets
set_option maxRecDepth 20000 in
theorem ggL_law_X6_sendPackets : GoodIn wsL_law wsX6_sendPackets := goodIn_r _ [321, 322, 125, 126, 127, 5, 128, 124, 129, 130, 131, 323, 324, 325, 326, 78, 327, 328, 329, 330, 79, 90, 331, 332, 333, 188, 189, 190, 171, 172, 173, 334, 335, 336, 337, 91, 338, 191, 192, 193, 339, 340, 341, 342, 237, 238, 81, 343, 344, 345, 663, 664, 665, 666, 667, 668, 669, 670, 671, 672, 673, 674, 675, 676, 677, 678, 679, 680, 681, 682, 683, 684, 685, 686] (by decide +kernel) (by decide +kernel)
set_option maxRecDepth 20000 in
theorem gL_law_X6_sendPackets : GoodIn wsL_law (wsV RL 51 RX6 yX6_sendPackets wsX6_sendPackets) := goodIn_app (goodIn_of _ (by decide +kernel)) ggL_law_X6_sendPackets
set_option maxRecDepth 20000 in
theorem ggL_law_X5_sendForged : GoodIn wsL_law wsX5_sendForged := goodIn_r _ [349, 15, 23, 100, 101, 102, 14, 103, 43, 104, 2, 105, 198, 199, 200, 350, 351, 352, 106, 353, 354, 355, 22, 356, 53, 54, 247, 248, 249, 250, 55, 56, 57, 251, 252, 253, 254, 27, 255, 256, 257, 258, 259, 260, 261, 262, 263, 264, 265, 266, 41, 119, 179, 180, 164, 165, 166, 267, 268, 269, 270, 19, 30, 271, 272, 273, 18, 274, 48, 275, 181, 182, 183, 276, 277, 278, 279, 280, 281, 282, 283, 284, 285, 286, 287, 40, 288, 289, 290, 26, 291, 64, 65, 62, 63, 292, 293, 294, 295, 296, 297, 298, 299, 300, 301, 302, 303, 304, 305, 306, 307, 308, 309, 310, 311, 312, 313, 314, 315, 316, 317, 655, 656, 657, 658, 659, 660, 661, 662, 687, 688, 689, 690, 692, 693, 694, 695, 696, 691, 697, 698, 699, 700] (by decide +kernel) (by decide +kernel)
set_option maxRecDepth 20000 in
theorem gL_law_X5_sendForged : GoodIn wsL_law (wsV RL 52 RX5 yX5_sendForged wsX5_sendForged) := goodIn_app (goodIn_of _ (by decide +kernel)) ggL_law_X5_sendForged
set_option maxRecDepth 20000 in
theorem ggL_law_X6_sendForged : GoodIn wsL_law wsX6_sendForged := goodIn_r _ [360, 322, 331, 332, 333, 125, 126, 127, 5, 128, 124, 129, 130, 131, 361, 362, 363, 323, 324, 325, 326, 78, 327, 328, 329, 330, 79, 90, 188, 189, 190, 171, 172, 173, 334, 335, 336, 337, 91, 338, 191, 192, 193, 339, 340, 341, 342, 237, 238, 81, 343, 344, 345, 663, 664, 665, 666, 667, 668, 669, 670, 671, 672, 673, 674, 675, 676, 677, 678, 679, 680, 681, 682, 683, 684, 685, 686] (by decide +kernel) (by decide +kernel)
set_option maxRecDepth 20000 in
theorem gL_law_X6_sendForged : GoodIn wsL_law (wsV RL 56 RX6 yX6_sendForged wsX6_sendForged) := goodIn_app (goodIn_of _ (by decide +kernel)) ggL_law_X6_sendForged
set_option maxRecDepth 20000 in
theorem ggL_law_X5_packetsAtDistance : GoodIn wsL_law wsX5_packetsAtDistance := goodIn_r _ [367, 27, 106, 104, 2, 105, 368, 369, 370, 26, 371, 372, 373, 374, 375, 62, 308, 309, 310, 311, 312, 313, 655, 656, 657, 658, 659, 660, 661, 662, 697, 698, 699, 700] (by decide +kernel) (by decide +kernel)
set_option maxRecDepth 20000 in
theorem gL_law_X5_packetsAtDistance : GoodIn wsL_law (wsV RL 57 RX5 yX5_packetsAtDistance wsX5_packetsAtDistance) := goodIn_app (goodIn_of _ (by decide +kernel)) ggL_law_X5_packetsAtDistance
set_option maxRecDepth 20000 in
theorem ggL_law_X6_packetsAtDistance : GoodIn wsL_law wsX6_packetsAtDistance := goodIn_r _ [379, 129, 130, 5, 131, 380, 381, 382, 383, 81, 663, 664, 665, 666, 667, 668, 669, 670, 671, 672, 673, 674, 675, 676, 677, 678, 679, 680, 681, 682, 683, 684, 685, 686] (by decide +kernel) (by decide +kernel)
set_option maxRecDepth 20000 in
theorem gL_law_X6_packetsAtDistance : GoodIn wsL_law (wsV RL 60 RX6 yX6_packetsAtDistance wsX6_packetsAtDistance) := goodIn_app (goodIn_of _ (by decide +kernel)) ggL_law_X6_packetsAtDistance
set_option maxRecDepth 20000 in
theorem ggL_law_X5_unmarkedCount : GoodIn wsL_law wsX5_unmarkedCount := goodIn_r _ [387, 27, 388, 389, 390, 26, 391, 64, 655, 656, 657, 658, 659, 660, 661, 662, 697, 698, 699, 700] (by decide +kernel) (by decide +kernel)
set_option maxRecDepth 20000 in
theorem gL_law_X5_unmarkedCount : GoodIn wsL_law (wsV RL 61 RX5 yX5_unmarkedCount wsX5_unmarkedCount) := goodIn_app (goodIn_of _ (by decide +kernel)) ggL_law_X5_unmarkedCount
set_option maxRecDepth 20000 in
theorem ggL_law_X6_unmarkedCount : GoodIn wsL_law wsX6_unmarkedCount := goodIn_r _ [395, 238, 663, 664, 665, 666, 667, 668, 669, 670, 671, 672, 673, 674, 675, 676, 677, 678, 679, 680, 681, 682, 683, 684, 685, 686] (by decide +kernel) (by decide +kernel)
set_option maxRecDepth 20000 in
theorem gL_law_X6_unmarkedCount : GoodIn wsL_law (wsV RL 64 RX6 yX6_unmarkedCount wsX6_unmarkedCount) := goodIn_app (goodIn_of _ (by decide +kernel)) ggL_law_X6_unmarkedCount
set_option maxRecDepth 20000 in
theorem ggL_law_X5_markCount : GoodIn wsL_law wsX5_markCount := goodIn_r _ [399, 27, 350, 351, 2, 352, 106, 104, 105, 400, 373, 374, 26, 375, 62, 308, 309, 310, 311, 312, 313, 655, 656, 657, 658, 659, 660, 661, 662, 697, 698, 699, 700] (by decide +kernel) (by decide +kernel)
set_option maxRecDepth 20000 in
theorem gL_law_X5_markCount : GoodIn wsL_law (wsV RL 65 RX5 yX5_markCount wsX5_markCount) := goodIn_app (goodIn_of _ (by decide +kernel)) ggL_law_X5_markCount
set_option maxRecDepth 20000 in
theorem ggL_law_X6_markCount : GoodIn wsL_law wsX6_markCount := goodIn_r _ [404, 81, 361, 362, 5, 363, 129, 130, 131, 343, 344, 345, 663, 664, 665, 666, 667, 668, 669, 670, 671, 672, 673, 674, 675, 676, 677, 678, 679, 680, 681, 682, 683, 684, 685, 686] (by decide +kernel) (by decide +kernel)
set_option maxRecDepth 20000 in
theorem gL_law_X6_markCount : GoodIn wsL_law (wsV RL 69 RX6 yX6_markCount wsX6_markCount) := goodIn_app (goodIn_of _ (by decide +kernel)) ggL_law_X6_markCount
set_option maxRecDepth 20000 in
theorem ggL_law_X5_fragmentCount : GoodIn wsL_law wsX5_fragmentCount := goodIn_r _ [408, 27, 106, 104, 2, 105, 409, 410, 411, 26, 412, 63, 311, 312, 313, 413, 414, 415, 416, 417, 418, 419, 655, 656, 657, 658, 659, 660, 661, 662, 697, 698, 699, 700] (by decide +kernel) (by decide +kernel)
set_option maxRecDepth 20000 in
theorem gL_law_X5_fragmentCount : GoodIn wsL_law (wsV RL 70 RX5 yX5_fragmentCount wsX5_fragmentCount) := goodIn_app (goodIn_of _ (by decide +kernel)) ggL_law_X5_fragmentCount
set_option maxRecDepth 20000 in
theorem ggL_law_X6_fragmentCount : GoodIn wsL_law wsX6_fragmentCount := goodIn_r _ [423, 361, 362, 5, 363, 129, 130, 131, 424, 425, 426, 427, 81, 343, 344, 345, 663, 664, 665, 666, 667, 668, 669, 670, 671, 672, 673, 674, 675, 676, 677, 678, 679, 680, 681, 682, 683, 684, 685, 686] (by decide +kernel) (by decide +kernel)
set_option maxRecDepth 20000 in
theorem gL_law_X6_fragmentCount : GoodIn wsL_law (wsV RL 73 RX6 yX6_fragmentCount wsX6_fragmentCount) := goodIn_app (goodIn_of _ (by decide +kernel)) ggL_law_X6_fragmentCount
set_option maxRecDepth 20000 in
theorem ggL_law_X5_greatestDistance : GoodIn wsL_law wsX5_greatestDistance := goodIn_r _ [431, 27, 432, 433, 434, 26, 435, 63, 311, 312, 313, 655, 656, 657, 658, 659, 660, 661, 662, 697, 698, 699, 700] (by decide +kernel) (by decide +kernel)
set_option maxRecDepth 20000 in
theorem gL_law_X5_greatestDistance : GoodIn wsL_law (wsV RL 74 RX5 yX5_greatestDistance wsX5_greatestDistance) := goodIn_app (goodIn_of _ (by decide +kernel)) ggL_law_X5_greatestDistance
set_option maxRecDepth 20000 in
theorem ggL_law_X6_greatestDistance : GoodIn wsL_law wsX6_greatestDistance := goodIn_r _ [439, 380, 381, 382, 5, 383, 81, 663, 664, 665, 666, 667, 668, 669, 670, 671, 672, 673, 674, 675, 676, 677, 678, 679, 680, 681, 682, 683, 684, 685, 686] (by decide +kernel) (by decide +kernel)
set_option maxRecDepth 20000 in
theorem gL_law_X6_greatestDistance : GoodIn wsL_law (wsV RL 77 RX6 yX6_greatestDistance wsX6_greatestDistance) := goodIn_app (goodIn_of _ (by decide +kernel)) ggL_law_X6_greatestDistance
set_option maxRecDepth 20000 in
theorem ggL_law_X5_isPathComplete : GoodIn wsL_law wsX5_isPathComplete := goodIn_r _ [443, 15, 27, 100, 101, 102, 14, 103, 43, 104, 2, 105, 155, 116, 117, 118, 42, 119, 444, 445, 446, 447, 448, 285, 286, 287, 40, 449, 260, 261, 262, 263, 264, 265, 266, 41, 179, 180, 164, 165, 166, 450, 451, 452, 26, 453, 454, 455, 456, 457, 63, 311, 312, 313, 182, 183, 284, 655, 656, 657, 658, 659, 660, 661, 662, 687, 688, 689, 690, 697, 698, 699, 700] (by decide +kernel) (by decide +kernel)
set_option maxRecDepth 20000 in
theorem gL_law_X5_isPathComplete : GoodIn wsL_law (wsV RL 78 RX5 yX5_isPathComplete wsX5_isPathComplete) := goodIn_app (goodIn_of _ (by decide +kernel)) ggL_law_X5_isPathComplete
set_option maxRecDepth 20000 in
theorem ggL_law_X6_isPathComplete : GoodIn wsL_law wsX6_isPathComplete := goodIn_r _ [461, 81, 80, 78, 125, 126, 127, 5, 128, 124, 129, 130, 131, 462, 463, 464, 465, 79, 188, 189, 190, 171, 172, 173, 191, 192, 193, 343, 344, 345, 663, 664, 665, 666, 667, 668, 669, 670, 671, 672, 673, 674, 675, 676, 677, 678, 679, 680, 681, 682, 683, 684, 685, 686] (by decide +kernel) (by decide +kernel)
set_option maxRecDepth 20000 in
theorem gL_law_X6_isPathComplete : GoodIn wsL_law (wsV RL 81 RX6 yX6_isPathComplete wsX6_isPathComplete) := goodIn_app (goodIn_of _ (by decide +kernel)) ggL_law_X6_isPathComplete
set_option maxRecDepth 20000 in
theorem ggL_law_X5_packetsNeeded : GoodIn wsL_law wsX5_packetsNeeded := goodIn_r _ [469, 15, 19, 100, 101, 102, 14, 103, 43, 104, 2, 105, 198, 199, 200, 470, 471, 472, 18, 473, 48, 474, 475, 476, 477, 29, 23, 478, 230, 231, 232, 155, 116, 117, 118, 42, 119, 243, 244, 245, 22, 246, 53, 54, 247, 248, 249, 250, 55, 56, 57, 255, 256, 257, 258, 259, 260, 261, 262, 263, 264, 265, 266, 41, 179, 180, 164, 165, 166, 267, 268, 269, 270, 30, 271, 272, 273, 274, 275, 181, 182, 183, 276, 277, 278, 279, 280, 281, 282, 283, 284, 285, 286, 287, 40, 479, 480, 481, 482, 483, 301, 302, 303, 314, 315, 316, 317, 106, 484, 305, 306, 307, 209, 210, 211, 212, 655, 656, 657, 658, 659, 660, 661, 662, 687, 688, 689, 690, 691, 692, 693, 694, 695, 696] (by decide +kernel) (by decide +kernel)
set_option maxRecDepth 20000 in
theorem gL_law_X5_packetsNeeded : GoodIn wsL_law (wsV RL 82 RX5 yX5_packetsNeeded wsX5_packetsNeeded) := goodIn_app (goodIn_of _ (by decide +kernel)) ggL_law_X5_packetsNeeded
set_option maxRecDepth 20000 in
theorem ggL_law_X6_packetsNeeded : GoodIn wsL_law wsX6_packetsNeeded := goodIn_r _ [488, 91, 322, 82, 331, 125, 126, 127, 5, 128, 124, 129, 130, 131, 489, 490, 491, 492, 80, 493, 494, 495, 496, 323, 324, 325, 326, 78, 327, 328, 329, 330, 79, 90, 332, 333, 188, 189, 190, 171, 172, 173, 334, 335, 336, 337, 338, 191, 192, 193, 663, 664, 665, 666, 667, 668, 669, 670, 671, 672, 673, 674, 675, 676, 677, 678, 679, 680, 681, 682, 683, 684, 685, 686] (by decide +kernel) (by decide +kernel)
set_option maxRecDepth 20000 in
theorem gL_law_X6_packetsNeeded : GoodIn wsL_law (wsV RL 85 RX6 yX6_packetsNeeded wsX6_packetsNeeded) := goodIn_app (goodIn_of _ (by decide +kernel)) ggL_law_X6_packetsNeeded
set_option maxRecDepth 20000 in
theorem ggL_law_X5_reconstruct : GoodIn wsL_law wsX5_reconstruct := goodIn_r _ [500, 35, 34, 501, 502, 503, 33, 504, 73, 505, 506, 507, 2, 508, 27, 509, 510, 511, 512, 513, 514, 515, 26, 516, 517, 410, 411, 412, 63, 311, 312, 313, 413, 414, 415, 416, 417, 418, 419, 518, 519, 520, 521, 522, 523, 524, 525, 178, 179, 180, 164, 165, 166, 526, 455, 456, 457, 182, 183, 450, 451, 452, 453, 454, 527, 528, 529, 530, 70, 71, 72, 104, 105, 531, 532, 533, 534, 535, 536, 537, 538, 655, 656, 657, 658, 659, 660, 661, 662, 701, 702, 703, 704, 697, 698, 699, 700] (by decide +kernel) (by decide +kernel)
set_option maxRecDepth 20000 in
theorem gL_law_X5_reconstruct : GoodIn wsL_law (wsV RL 86 RX5 yX5_reconstruct wsX5_reconstruct) := goodIn_app (goodIn_of _ (by decide +kernel)) ggL_law_X5_reconstruct
set_option maxRecDepth 20000 in
theorem ggL_law_X6_reconstruct : GoodIn wsL_law wsX6_reconstruct := goodIn_r _ [542, 543, 544, 83, 86, 84, 87, 85, 88, 545, 546, 547, 5, 548, 549, 550, 551, 552, 424, 425, 426, 427, 81, 343, 344, 345, 553, 554, 555, 556, 557, 89, 558, 559, 560, 561, 562, 563, 564, 565, 188, 189, 190, 171, 172, 173, 566, 567, 568, 569, 570, 571, 572, 663, 664, 665, 666, 667, 668, 669, 670, 671, 672, 673, 674, 675, 676, 677, 678, 679, 680, 681, 682, 683, 684, 685, 686] (by decide +kernel) (by decide +kernel)
set_option maxRecDepth 20000 in
theorem gL_law_X6_reconstruct : GoodIn wsL_law (wsV RL 89 RX6 yX6_reconstruct wsX6_reconstruct) := goodIn_app (goodIn_of _ (by decide +kernel)) ggL_law_X6_reconstruct
set_option maxRecDepth 20000 in
theorem ggL_law_X5_nodeCount : GoodIn wsL_law wsX5_nodeCount := goodIn_r _ [576, 34, 509, 510, 511, 33, 512, 73, 655, 656, 657, 658, 659, 660, 661, 662, 701, 702, 703, 704] (by decide +kernel) (by decide +kernel)
set_option maxRecDepth 20000 in
theorem gL_law_X5_nodeCount : GoodIn wsL_law (wsV RL 90 RX5 yX5_nodeCount wsX5_nodeCount) := goodIn_app (goodIn_of _ (by decide +kernel)) ggL_law_X5_nodeCount
set_option maxRecDepth 20000 in
theorem ggL_law_X6_nodeCount : GoodIn wsL_law wsX6_nodeCount := goodIn_r _ [580, 544, 663, 664, 665, 666, 667, 668, 669, 670, 671, 672, 673, 674, 675, 676, 677, 678, 679, 680, 681, 682, 683, 684, 685, 686] (by decide +kernel) (by decide +kernel)
set_option maxRecDepth 20000 in
theorem gL_law_X6_nodeCount : GoodIn wsL_law (wsV RL 93 RX6 yX6_nodeCount wsX6_nodeCount) := goodIn_app (goodIn_of _ (by decide +kernel)) ggL_law_X6_nodeCount
set_option maxRecDepth 20000 in
theorem ggL_law_X5_nodeAddress : GoodIn wsL_law wsX5_nodeAddress := goodIn_r _ [584, 34, 585, 536, 537, 33, 538, 73, 104, 2, 105, 531, 532, 533, 534, 70, 535, 655, 656, 657, 658, 659, 660, 661, 662, 701, 702, 703, 704] (by decide +kernel) (by decide +kernel)
set_option maxRecDepth 20000 in
theorem gL_law_X5_nodeAddress : GoodIn wsL_law (wsV RL 94 RX5 yX5_nodeAddress wsX5_nodeAddress) := goodIn_app (goodIn_of _ (by decide +kernel)) ggL_law_X5_nodeAddress
set_option maxRecDepth 20000 in
theorem ggL_law_X6_nodeAddress : GoodIn wsL_law wsX6_nodeAddress := goodIn_r _ [589, 83, 590, 591, 592, 5, 593, 544, 129, 130, 131, 663, 664, 665, 666, 667, 668, 669, 670, 671, 672, 673, 674, 675, 676, 677, 678, 679, 680, 681, 682, 683, 684, 685, 686] (by decide +kernel) (by decide +kernel)
set_option maxRecDepth 20000 in
theorem gL_law_X6_nodeAddress : GoodIn wsL_law (wsV RL 97 RX6 yX6_nodeAddress wsX6_nodeAddress) := goodIn_app (goodIn_of _ (by decide +kernel)) ggL_law_X6_nodeAddress
set_option maxRecDepth 20000 in
theorem ggL_law_X5_nodeDistance : GoodIn wsL_law wsX5_nodeDistance := goodIn_r _ [597, 34, 585, 536, 537, 33, 538, 73, 104, 2, 105, 598, 599, 600, 601, 71, 535, 655, 656, 657, 658, 659, 660, 661, 662, 701, 702, 703, 704] (by decide +kernel) (by decide +kernel)
set_option maxRecDepth 20000 in
theorem gL_law_X5_nodeDistance : GoodIn wsL_law (wsV RL 98 RX5 yX5_nodeDistance wsX5_nodeDistance) := goodIn_app (goodIn_of _ (by decide +kernel)) ggL_law_X5_nodeDistance
set_option maxRecDepth 20000 in
theorem ggL_law_X6_nodeDistance : GoodIn wsL_law wsX6_nodeDistance := goodIn_r _ [605, 84, 590, 591, 592, 5, 593, 544, 129, 130, 131, 663, 664, 665, 666, 667, 668, 669, 670, 671, 672, 673, 674, 675, 676, 677, 678, 679, 680, 681, 682, 683, 684, 685, 686] (by decide +kernel) (by decide +kernel)
set_option maxRecDepth 20000 in
theorem gL_law_X6_nodeDistance : GoodIn wsL_law (wsV RL 101 RX6 yX6_nodeDistance wsX6_nodeDistance) := goodIn_app (goodIn_of _ (by decide +kernel)) ggL_law_X6_nodeDistance
set_option maxRecDepth 20000 in
theorem ggL_law_X5_nodeParent : GoodIn wsL_law wsX5_nodeParent := goodIn_r _ [609, 34, 585, 536, 537, 33, 538, 73, 104, 2, 105, 610, 611, 612, 613, 72, 535, 655, 656, 657, 658, 659, 660, 661, 662, 701, 702, 703, 704] (by decide +kernel) (by decide +kernel)
set_option maxRecDepth 20000 in
theorem gL_law_X5_nodeParent : GoodIn wsL_law (wsV RL 102 RX5 yX5_nodeParent wsX5_nodeParent) := goodIn_app (goodIn_of _ (by decide +kernel)) ggL_law_X5_nodeParent
set_option maxRecDepth 20000 in
theorem ggL_law_X6_nodeParent : GoodIn wsL_law wsX6_nodeParent := goodIn_r _ [617, 85, 590, 591, 592, 5, 593, 544, 129, 130, 131, 663, 664, 665, 666, 667, 668, 669, 670, 671, 672, 673, 674, 675, 676, 677, 678, 679, 680, 681, 682, 683, 684, 685, 686] (by decide +kernel) (by decide +kernel)
set_option maxRecDepth 20000 in
theorem gL_law_X6_nodeParent : GoodIn wsL_law (wsV RL 105 RX6 yX6_nodeParent wsX6_nodeParent) := goodIn_app (goodIn_of _ (by decide +kernel)) ggL_law_X6_nodeParent
set_option maxRecDepth 20000 in
theorem ggL_law_X5_nodeRouter : GoodIn wsL_law wsX5_nodeRouter := goodIn_r _ [621, 34, 585, 536, 537, 33, 538, 73, 104, 2, 105, 622, 623, 624, 625, 15, 531, 532, 533, 534, 70, 535, 107, 108, 109, 14, 110, 43, 41, 100, 101, 102, 103, 626, 264, 265, 266, 119, 284, 285, 286, 287, 40, 610, 611, 612, 613, 72, 655, 656, 657, 658, 659, 660, 661, 662, 701, 702, 703, 704, 687, 688, 689, 690] (by decide +kernel) (by decide +kernel)
set_option maxRecDepth 20000 in
theorem gL_law_X5_nodeRouter : GoodIn wsL_law (wsV RL 106 RX5 yX5_nodeRouter wsX5_nodeRouter) := goodIn_app (goodIn_of _ (by decide +kernel)) ggL_law_X5_nodeRouter
set_option maxRecDepth 20000 in
theorem ggL_law_X6_nodeRouter : GoodIn wsL_law wsX6_nodeRouter := goodIn_r _ [630, 590, 591, 592, 5, 593, 544, 129, 130, 131, 631, 632, 633, 634, 83, 79, 78, 85, 635, 636, 637, 638, 124, 663, 664, 665, 666, 667, 668, 669, 670, 671, 672, 673, 674, 675, 676, 677, 678, 679, 680, 681, 682, 683, 684, 685, 686] (by decide +kernel) (by decide +kernel)
set_option maxRecDepth 20000 in
theorem gL_law_X6_nodeRouter : GoodIn wsL_law (wsV RL 109 RX6 yX6_nodeRouter wsX6_nodeRouter) := goodIn_app (goodIn_of _ (by decide +kernel)) ggL_law_X6_nodeRouter
set_option maxRecDepth 20000 in
theorem ggL_law_X5_falseNodeCount : GoodIn wsL_law wsX5_falseNodeCount := goodIn_r _ [642, 34, 509, 510, 511, 33, 512, 73, 622, 623, 624, 2, 625, 15, 531, 532, 533, 534, 70, 535, 536, 537, 538, 104, 105, 107, 108, 109, 14, 110, 43, 41, 100, 101, 102, 103, 585, 626, 264, 265, 266, 119, 284, 285, 286, 287, 40, 610, 611, 612, 613, 72, 655, 656, 657, 658, 659, 660, 661, 662, 701, 702, 703, 704, 687, 688, 689, 690] (by decide +kernel) (by decide +kernel)
set_option maxRecDepth 20000 in
theorem gL_law_X5_falseNodeCount : GoodIn wsL_law (wsV RL 110 RX5 yX5_falseNodeCount wsX5_falseNodeCount) := goodIn_app (goodIn_of _ (by decide +kernel)) ggL_law_X5_falseNodeCount
set_option maxRecDepth 20000 in
theorem ggL_law_X6_falseNodeCount : GoodIn wsL_law wsX6_falseNodeCount := goodIn_r _ [646, 544, 631, 632, 633, 5, 634, 83, 79, 78, 85, 635, 636, 637, 638, 124, 663, 664, 665, 666, 667, 668, 669, 670, 671, 672, 673, 674, 675, 676, 677, 678, 679, 680, 681, 682, 683, 684, 685, 686] (by decide +kernel) (by decide +kernel)
set_option maxRecDepth 20000 in
theorem gL_law_X6_falseNodeCount : GoodIn wsL_law (wsV RL 113 RX6 yX6_falseNodeCount wsX6_falseNodeCount) := goodIn_app (goodIn_of _ (by decide +kernel)) ggL_law_X6_falseNodeCount
set_option maxRecDepth 20000 in
theorem ggL_law_X5_nodeOf : GoodIn wsL_law wsX5_nodeOf := goodIn_r _ [650, 15, 34, 100, 101, 102, 14, 103, 43, 104, 2, 105, 509, 510, 511, 33, 512, 73, 622, 623, 624, 625, 531, 532, 533, 534, 70, 535, 536, 537, 538, 107, 108, 109, 110, 41, 585, 626, 264, 265, 266, 119, 284, 285, 286, 287, 40, 610, 611, 612, 613, 72, 655, 656, 657, 658, 659, 660, 661, 662, 687, 688, 689, 690, 701, 702, 703, 704] (by decide +kernel) (by decide +kernel)
set_option maxRecDepth 20000 in
theorem gL_law_X5_nodeOf : GoodIn wsL_law (wsV RL 114 RX5 yX5_nodeOf wsX5_nodeOf) := goodIn_app (goodIn_of _ (by decide +kernel)) ggL_law_X5_nodeOf
set_option maxRecDepth 20000 in
theorem ggL_law_X6_nodeOf : GoodIn wsL_law wsX6_nodeOf := goodIn_r _ [654, 544, 125, 126, 127, 5, 128, 124, 129, 130, 131, 631, 632, 633, 634, 83, 79, 78, 85, 635, 636, 637, 638, 663, 664, 665, 666, 667, 668, 669, 670, 671, 672, 673, 674, 675, 676, 677, 678, 679, 680, 681, 682, 683, 684, 685, 686] (by decide +kernel) (by decide +kernel)
set_option maxRecDepth 20000 in
theorem gL_law_X6_nodeOf : GoodIn wsL_law (wsV RL 117 RX6 yX6_nodeOf wsX6_nodeOf) := goodIn_app (goodIn_of _ (by decide +kernel)) ggL_law_X6_nodeOf
theorem dL_law_0 : decode cL_law 0 = .ok (.new 7, 3) := by decide +kernel
theorem dL_law_3 : decode cL_law 3 = .ok (.dup, 1) := by decide +kernel
theorem dL_law_4 : decode cL_law 4 = .ok (.invokespecial 9, 3) := by decide +kernel
theorem dL_law_7 : decode cL_law 7 = .ok (.astore_n 1, 1) := by decide +kernel
theorem dL_law_8 : decode cL_law 8 = .ok (.new 10, 3) := by decide +kernel
theorem dL_law_11 : decode cL_law 11 = .ok (.dup, 1) := by decide +kernel
theorem dL_law_12 : decode cL_law 12 = .ok (.invokespecial 12, 3) := by decide +kernel
theorem dL_law_15 : decode cL_law 15 = .ok (.astore_n 2, 1) := by decide +kernel
theorem dL_law_16 : decode cL_law 16 = .ok (.iconst 0, 1) := by decide +kernel
theorem dL_law_17 : decode cL_law 17 = .ok (.istore_n 3, 1) := by decide +kernel
theorem dL_law_18 : decode cL_law 18 = .ok (.iload_n 3, 1) := by decide +kernel
theorem dL_law_19 : decode cL_law 19 = .ok (.aload_n 0, 1) := by decide +kernel
theorem dL_law_20 : decode cL_law 20 = .ok (.arraylength, 1) := by decide +kernel
theorem dL_law_21 : decode cL_law 21 = .ok (.bipush 6, 2) := by decide +kernel
theorem dL_law_23 : decode cL_law 23 = .ok (.isub, 1) := by decide +kernel
theorem dL_law_24 : decode cL_law 24 = .ok (.if_icmp .gt 745, 3) := by decide +kernel
theorem dL_law_27 : decode cL_law 27 = .ok (.aload_n 0, 1) := by decide +kernel
theorem dL_law_28 : decode cL_law 28 = .ok (.iload_n 3, 1) := by decide +kernel
theorem dL_law_29 : decode cL_law 29 = .ok (.iaload, 1) := by decide +kernel
theorem dL_law_30 : decode cL_law 30 = .ok (.bipush 31, 2) := by decide +kernel
theorem dL_law_32 : decode cL_law 32 = .ok (.iand, 1) := by decide +kernel
theorem dL_law_33 : decode cL_law 33 = .ok (.tableswitch 730 0 24 #[115, 148, 161, 184, 207, 240, 263, 286, 299, 332, 395, 418, 431, 474, 507, 520, 543, 576, 589, 602, 625, 648, 671, 694, 707], 115) := by decide +kernel
theorem dL_law_148 : decode cL_law 148 = .ok (.aload_n 1, 1) := by decide +kernel
theorem dL_law_149 : decode cL_law 149 = .ok (.aload_n 0, 1) := by decide +kernel
theorem dL_law_150 : decode cL_law 150 = .ok (.iload_n 3, 1) := by decide +kernel
theorem dL_law_151 : decode cL_law 151 = .ok (.iconst 1, 1) := by decide +kernel
theorem dL_law_152 : decode cL_law 152 = .ok (.iadd, 1) := by decide +kernel
theorem dL_law_153 : decode cL_law 153 = .ok (.iaload, 1) := by decide +kernel
theorem dL_law_154 : decode cL_law 154 = .ok (.aload_n 0, 1) := by decide +kernel
theorem dL_law_155 : decode cL_law 155 = .ok (.iload_n 3, 1) := by decide +kernel
theorem dL_law_156 : decode cL_law 156 = .ok (.iconst 2, 1) := by decide +kernel
theorem dL_law_157 : decode cL_law 157 = .ok (.iadd, 1) := by decide +kernel
theorem dL_law_158 : decode cL_law 158 = .ok (.iaload, 1) := by decide +kernel
theorem dL_law_159 : decode cL_law 159 = .ok (.invokevirtual 13, 3) := by decide +kernel
theorem dL_law_162 : decode cL_law 162 = .ok (.aload_n 2, 1) := by decide +kernel
theorem dL_law_163 : decode cL_law 163 = .ok (.aload_n 0, 1) := by decide +kernel
theorem dL_law_164 : decode cL_law 164 = .ok (.iload_n 3, 1) := by decide +kernel
theorem dL_law_165 : decode cL_law 165 = .ok (.iconst 1, 1) := by decide +kernel
theorem dL_law_166 : decode cL_law 166 = .ok (.iadd, 1) := by decide +kernel
theorem dL_law_167 : decode cL_law 167 = .ok (.iaload, 1) := by decide +kernel
theorem dL_law_168 : decode cL_law 168 = .ok (.aload_n 0, 1) := by decide +kernel
theorem dL_law_169 : decode cL_law 169 = .ok (.iload_n 3, 1) := by decide +kernel
theorem dL_law_170 : decode cL_law 170 = .ok (.iconst 2, 1) := by decide +kernel
theorem dL_law_171 : decode cL_law 171 = .ok (.iadd, 1) := by decide +kernel
theorem dL_law_172 : decode cL_law 172 = .ok (.iaload, 1) := by decide +kernel

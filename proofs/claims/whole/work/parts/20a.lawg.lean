set_option maxRecDepth 20000 in
theorem ggL_law_X7_init : GoodIn wsL_law wsX7_init := goodIn_r _ [8, 9, 10, 11, 12, 13, 14, 15, 16, 17, 18, 19, 20, 21, 22, 23, 24, 25, 26, 27, 28, 29, 30, 31, 32, 33, 34, 35, 36, 37, 38, 39, 40, 41, 42, 43, 44, 45, 46, 47, 48, 49, 50, 51, 52, 53, 54, 55, 56, 57, 58, 59, 60, 61, 62, 63, 64, 65, 66, 67, 68, 69, 70, 71, 72, 73, 74, 75, 76, 77, 78, 79, 80, 81, 82, 83, 84, 85, 86, 87, 88, 89, 90, 91, 92, 93, 94, 95, 96, 97, 98, 99, 100, 731, 732, 733, 734, 735, 736, 737, 738, 680, 681, 682, 683, 684, 685, 686, 687, 688, 739, 740, 741, 742, 743, 744, 745, 746, 747, 748, 749, 750, 751, 752, 753, 754, 755, 756, 757, 758, 759, 760, 761, 762, 763] (by decide +kernel) (by decide +kernel)
set_option maxRecDepth 20000 in
theorem gL_law_X7_init : GoodIn wsL_law (wsX7_init) := ggL_law_X7_init
set_option maxRecDepth 20000 in
theorem ggL_law_X8_init : GoodIn wsL_law wsX8_init := goodIn_r _ [103, 104, 10, 11, 39, 105, 106, 107, 108, 109, 63, 110, 111, 112, 113, 114, 115, 116, 117, 118, 119, 120, 121, 122, 123, 124, 125, 126, 127, 128, 129, 130, 131, 132, 133, 134, 689, 690, 691, 692, 693, 694, 695, 696, 697, 698, 699, 700, 701, 702, 703, 704, 705, 706, 707, 708, 709, 710, 711, 712, 713, 714, 715, 716, 717, 718, 719, 720, 721, 722, 723, 724, 725, 726, 727, 728, 729, 730] (by decide +kernel) (by decide +kernel)
set_option maxRecDepth 20000 in
theorem gL_law_X8_init : GoodIn wsL_law (wsX8_init) := ggL_law_X8_init
set_option maxRecDepth 20000 in
theorem ggL_law_X7_append : GoodIn wsL_law wsX7_append := goodIn_r _ [138, 15, 139, 140, 141, 14, 142, 41, 40, 680, 681, 682, 683, 684, 685, 686, 687, 688, 731, 732, 733, 734, 735, 736, 737, 738] (by decide +kernel) (by decide +kernel)
set_option maxRecDepth 20000 in
theorem gL_law_X7_append : GoodIn wsL_law (wsV RL 13 RX7 yX7_append wsX7_append) := goodIn_app (goodIn_of _ (by decide +kernel)) ggL_law_X7_append
set_option maxRecDepth 20000 in
theorem ggL_law_X8_append : GoodIn wsL_law wsX8_append := goodIn_r _ [146, 147, 105, 148, 149, 5, 150, 689, 690, 691, 692, 693, 694, 695, 696, 697, 698, 699, 700, 701, 702, 703, 704, 705, 706, 707, 708, 709, 710, 711, 712, 713, 714, 715, 716, 717, 718, 719, 720, 721, 722, 723, 724, 725, 726, 727, 728, 729, 730] (by decide +kernel) (by decide +kernel)
set_option maxRecDepth 20000 in
theorem gL_law_X8_append : GoodIn wsL_law (wsV RL 17 RX8 yX8_append wsX8_append) := goodIn_app (goodIn_of _ (by decide +kernel)) ggL_law_X8_append
set_option maxRecDepth 20000 in
theorem ggL_law_X7_clearBuffer : GoodIn wsL_law wsX7_clearBuffer := goodIn_r _ [154, 15, 155, 680, 681, 682, 683, 684, 685, 686, 687, 688, 731, 732, 733, 734, 735, 736, 737, 738] (by decide +kernel) (by decide +kernel)
set_option maxRecDepth 20000 in
theorem gL_law_X7_clearBuffer : GoodIn wsL_law (wsV RL 18 RX7 yX7_clearBuffer wsX7_clearBuffer) := goodIn_app (goodIn_of _ (by decide +kernel)) ggL_law_X7_clearBuffer
set_option maxRecDepth 20000 in
theorem ggL_law_X8_clearBuffer : GoodIn wsL_law wsX8_clearBuffer := goodIn_r _ [159, 147, 689, 690, 691, 692, 693, 694, 695, 696, 697, 698, 699, 700, 701, 702, 703, 704, 705, 706, 707, 708, 709, 710, 711, 712, 713, 714, 715, 716, 717, 718, 719, 720, 721, 722, 723, 724, 725, 726, 727, 728, 729, 730] (by decide +kernel) (by decide +kernel)
set_option maxRecDepth 20000 in
theorem gL_law_X8_clearBuffer : GoodIn wsL_law (wsV RL 22 RX8 yX8_clearBuffer wsX8_clearBuffer) := goodIn_app (goodIn_of _ (by decide +kernel)) ggL_law_X8_clearBuffer
set_option maxRecDepth 20000 in
theorem ggL_law_X7_errorPosition : GoodIn wsL_law wsX7_errorPosition := goodIn_r _ [163, 15, 164, 165, 166, 14, 167, 45, 47, 48, 41, 40, 168, 169, 170, 44, 171, 55, 56, 172, 173, 174, 175, 176, 177, 178, 179, 180, 181, 182, 183, 46, 184, 185, 186, 187, 188, 189, 190, 191, 49, 192, 193, 194, 195, 50, 196, 197, 198, 199, 200, 201, 202, 203, 204, 205, 206, 207, 208, 209, 210, 211, 212, 213, 214, 215, 680, 681, 682, 683, 684, 685, 686, 687, 688, 731, 732, 733, 734, 735, 736, 737, 738, 755, 756] (by decide +kernel) (by decide +kernel)
set_option maxRecDepth 20000 in
theorem gL_law_X7_errorPosition : GoodIn wsL_law (wsV RL 23 RX7 yX7_errorPosition wsX7_errorPosition) := goodIn_app (goodIn_of _ (by decide +kernel)) ggL_law_X7_errorPosition
set_option maxRecDepth 20000 in
theorem ggL_law_X8_errorPosition : GoodIn wsL_law wsX8_errorPosition := goodIn_r _ [219, 220, 221, 222, 223, 5, 224, 225, 226, 147, 105, 128, 129, 130, 131, 227, 148, 149, 150, 228, 229, 230, 231, 689, 690, 691, 692, 693, 694, 695, 696, 697, 698, 699, 700, 701, 702, 703, 704, 705, 706, 707, 708, 709, 710, 711, 712, 713, 714, 715, 716, 717, 718, 719, 720, 721, 722, 723, 724, 725, 726, 727, 728, 729, 730] (by decide +kernel) (by decide +kernel)
set_option maxRecDepth 20000 in
theorem gL_law_X8_errorPosition : GoodIn wsL_law (wsV RL 26 RX8 yX8_errorPosition wsX8_errorPosition) := goodIn_app (goodIn_of _ (by decide +kernel)) ggL_law_X8_errorPosition
set_option maxRecDepth 20000 in
theorem ggL_law_X7_loadNetwork : GoodIn wsL_law wsX7_loadNetwork := goodIn_r _ [235, 15, 19, 236, 237, 155, 23, 27, 238, 31, 239, 34, 35, 240, 241, 242, 243, 14, 244, 41, 48, 245, 165, 166, 167, 45, 47, 40, 168, 169, 170, 44, 171, 55, 56, 172, 173, 174, 175, 176, 177, 178, 179, 180, 181, 182, 183, 46, 184, 185, 186, 187, 188, 189, 190, 191, 49, 192, 193, 194, 195, 50, 196, 197, 198, 199, 200, 201, 202, 203, 204, 205, 206, 207, 208, 209, 210, 211, 212, 213, 214, 215, 246, 247, 248, 18, 249, 61, 62, 64, 65, 66, 250, 251, 252, 253, 254, 255, 256, 257, 258, 259, 260, 22, 261, 72, 73, 74, 262, 680, 681, 682, 683, 684, 685, 686, 687, 688, 731, 732, 733, 734, 735, 736, 737, 738, 751, 752, 753, 754, 739, 740, 741, 742, 743, 744, 755, 756, 745, 746, 747, 748, 749, 750] (by decide +kernel) (by decide +kernel)
set_option maxRecDepth 20000 in
theorem gL_law_X7_loadNetwork : GoodIn wsL_law (wsV RL 27 RX7 yX7_loadNetwork wsX7_loadNetwork) := goodIn_app (goodIn_of _ (by decide +kernel)) ggL_law_X7_loadNetwork

set_option maxRecDepth 20000 in
theorem ggL_law_X7_setAlive : GoodIn wsL_law wsX7_setAlive := goodIn_r _ [314, 19, 315, 316, 317, 318, 319, 18, 320, 62, 680, 681, 682, 683, 684, 685, 686, 687, 688, 739, 740, 741, 742, 743, 744] (by decide +kernel) (by decide +kernel)
set_option maxRecDepth 20000 in
theorem gL_law_X7_setAlive : GoodIn wsL_law (wsV RL 47 RX7 yX7_setAlive wsX7_setAlive) := goodIn_app (goodIn_of _ (by decide +kernel)) ggL_law_X7_setAlive
set_option maxRecDepth 20000 in
theorem ggL_law_X8_setAlive : GoodIn wsL_law wsX8_setAlive := goodIn_r _ [324, 110, 114, 325, 326, 327, 5, 328, 267, 148, 149, 150, 689, 690, 691, 692, 693, 694, 695, 696, 697, 698, 699, 700, 701, 702, 703, 704, 705, 706, 707, 708, 709, 710, 711, 712, 713, 714, 715, 716, 717, 718, 719, 720, 721, 722, 723, 724, 725, 726, 727, 728, 729, 730] (by decide +kernel) (by decide +kernel)
set_option maxRecDepth 20000 in
theorem gL_law_X8_setAlive : GoodIn wsL_law (wsV RL 51 RX8 yX8_setAlive wsX8_setAlive) := goodIn_app (goodIn_of _ (by decide +kernel)) ggL_law_X8_setAlive
set_option maxRecDepth 20000 in
theorem ggL_law_X7_flood : GoodIn wsL_law wsX7_flood := goodIn_r _ [332, 19, 240, 23, 333, 334, 335, 18, 336, 62, 64, 337, 338, 339, 22, 340, 341, 74, 342, 259, 260, 261, 72, 73, 262, 173, 174, 175, 343, 344, 345, 346, 347, 75, 348, 349, 350, 351, 352, 353, 354, 355, 356, 357, 358, 359, 360, 361, 71, 362, 363, 364, 365, 366, 367, 368, 44, 369, 56, 55, 370, 371, 372, 373, 76, 374, 375, 376, 377, 680, 681, 682, 683, 684, 685, 686, 687, 688, 739, 740, 741, 742, 743, 744, 745, 746, 747, 748, 749, 750, 755, 756] (by decide +kernel) (by decide +kernel)
set_option maxRecDepth 20000 in
theorem gL_law_X7_flood : GoodIn wsL_law (wsV RL 52 RX7 yX7_flood wsX7_flood) := goodIn_app (goodIn_of _ (by decide +kernel)) ggL_law_X7_flood
set_option maxRecDepth 20000 in
theorem ggL_law_X8_flood : GoodIn wsL_law wsX8_flood := goodIn_r _ [381, 267, 110, 382, 383, 384, 5, 385, 111, 112, 133, 113, 276, 272, 273, 274, 275, 386, 387, 388, 389, 116, 390, 391, 392, 393, 132, 268, 106, 107, 109, 108, 117, 394, 395, 396, 397, 398, 399, 400, 401, 689, 690, 691, 692, 693, 694, 695, 696, 697, 698, 699, 700, 701, 702, 703, 704, 705, 706, 707, 708, 709, 710, 711, 712, 713, 714, 715, 716, 717, 718, 719, 720, 721, 722, 723, 724, 725, 726, 727, 728, 729, 730] (by decide +kernel) (by decide +kernel)
set_option maxRecDepth 20000 in
theorem gL_law_X8_flood : GoodIn wsL_law (wsV RL 55 RX8 yX8_flood wsX8_flood) := goodIn_app (goodIn_of _ (by decide +kernel)) ggL_law_X8_flood
set_option maxRecDepth 20000 in
theorem ggL_law_X7_packetAt : GoodIn wsL_law wsX7_packetAt := goodIn_r _ [405, 19, 23, 406, 317, 318, 319, 18, 320, 62, 680, 681, 682, 683, 684, 685, 686, 687, 688, 745, 746, 747, 748, 749, 750, 739, 740, 741, 742, 743, 744] (by decide +kernel) (by decide +kernel)
set_option maxRecDepth 20000 in
theorem gL_law_X7_packetAt : GoodIn wsL_law (wsV RL 56 RX7 yX7_packetAt wsX7_packetAt) := goodIn_app (goodIn_of _ (by decide +kernel)) ggL_law_X7_packetAt
set_option maxRecDepth 20000 in
theorem ggL_law_X8_packetAt : GoodIn wsL_law wsX8_packetAt := goodIn_r _ [410, 111, 325, 326, 327, 5, 328, 267, 148, 149, 150, 689, 690, 691, 692, 693, 694, 695, 696, 697, 698, 699, 700, 701, 702, 703, 704, 705, 706, 707, 708, 709, 710, 711, 712, 713, 714, 715, 716, 717, 718, 719, 720, 721, 722, 723, 724, 725, 726, 727, 728, 729, 730] (by decide +kernel) (by decide +kernel)
set_option maxRecDepth 20000 in
theorem gL_law_X8_packetAt : GoodIn wsL_law (wsV RL 59 RX8 yX8_packetAt wsX8_packetAt) := goodIn_app (goodIn_of _ (by decide +kernel)) ggL_law_X8_packetAt
set_option maxRecDepth 20000 in
theorem ggL_law_X7_hopCount : GoodIn wsL_law wsX7_hopCount := goodIn_r _ [414, 19, 23, 415, 317, 318, 319, 18, 320, 62, 680, 681, 682, 683, 684, 685, 686, 687, 688, 745, 746, 747, 748, 749, 750, 739, 740, 741, 742, 743, 744] (by decide +kernel) (by decide +kernel)
set_option maxRecDepth 20000 in
theorem gL_law_X7_hopCount : GoodIn wsL_law (wsV RL 60 RX7 yX7_hopCount wsX7_hopCount) := goodIn_app (goodIn_of _ (by decide +kernel)) ggL_law_X7_hopCount
set_option maxRecDepth 20000 in
theorem ggL_law_X8_hopCount : GoodIn wsL_law wsX8_hopCount := goodIn_r _ [419, 325, 326, 327, 5, 328, 267, 148, 149, 150, 420, 421, 422, 423, 112, 689, 690, 691, 692, 693, 694, 695, 696, 697, 698, 699, 700, 701, 702, 703, 704, 705, 706, 707, 708, 709, 710, 711, 712, 713, 714, 715, 716, 717, 718, 719, 720, 721, 722, 723, 724, 725, 726, 727, 728, 729, 730] (by decide +kernel) (by decide +kernel)
set_option maxRecDepth 20000 in
theorem gL_law_X8_hopCount : GoodIn wsL_law (wsV RL 63 RX8 yX8_hopCount wsX8_hopCount) := goodIn_app (goodIn_of _ (by decide +kernel)) ggL_law_X8_hopCount
set_option maxRecDepth 20000 in
theorem ggL_law_X7_floodLength : GoodIn wsL_law wsX7_floodLength := goodIn_r _ [427, 23, 428, 680, 681, 682, 683, 684, 685, 686, 687, 688, 745, 746, 747, 748, 749, 750] (by decide +kernel) (by decide +kernel)
set_option maxRecDepth 20000 in
theorem gL_law_X7_floodLength : GoodIn wsL_law (wsV RL 64 RX7 yX7_floodLength wsX7_floodLength) := goodIn_app (goodIn_of _ (by decide +kernel)) ggL_law_X7_floodLength

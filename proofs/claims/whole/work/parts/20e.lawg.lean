set_option maxRecDepth 20000 in
theorem ggL_law_X7_lostPackets : GoodIn wsL_law wsX7_lostPackets := goodIn_r _ [491, 27, 473, 492, 453, 454, 455, 26, 456, 83, 680, 681, 682, 683, 684, 685, 686, 687, 688, 751, 752, 757, 758, 759, 760, 761, 762, 763] (by decide +kernel) (by decide +kernel)
set_option maxRecDepth 20000 in
theorem gL_law_X7_lostPackets : GoodIn wsL_law (wsV RL 85 RX7 yX7_lostPackets wsX7_lostPackets) := goodIn_app (goodIn_of _ (by decide +kernel)) ggL_law_X7_lostPackets
set_option maxRecDepth 20000 in
theorem ggL_law_X8_lostPackets : GoodIn wsL_law wsX8_lostPackets := goodIn_r _ [496, 126, 465, 466, 467, 5, 468, 270, 148, 149, 150, 689, 690, 691, 692, 693, 694, 695, 696, 697, 698, 699, 700, 701, 702, 703, 704, 705, 706, 707, 708, 709, 710, 711, 712, 713, 714, 715, 716, 717, 718, 719, 720, 721, 722, 723, 724, 725, 726, 727, 728, 729, 730] (by decide +kernel) (by decide +kernel)
set_option maxRecDepth 20000 in
theorem gL_law_X8_lostPackets : GoodIn wsL_law (wsV RL 88 RX8 yX8_lostPackets wsX8_lostPackets) := goodIn_app (goodIn_of _ (by decide +kernel)) ggL_law_X8_lostPackets
set_option maxRecDepth 20000 in
theorem ggL_law_X7_runRounds : GoodIn wsL_law wsX7_runRounds := goodIn_r _ [500, 19, 34, 35, 317, 318, 319, 18, 320, 62, 501, 502, 503, 2, 504, 27, 315, 31, 32, 23, 239, 505, 506, 507, 26, 508, 83, 82, 509, 510, 511, 85, 512, 92, 91, 93, 95, 89, 513, 514, 515, 30, 516, 100, 517, 518, 519, 520, 521, 350, 522, 523, 524, 525, 526, 99, 527, 528, 529, 530, 337, 338, 339, 22, 340, 341, 74, 342, 259, 260, 261, 72, 73, 262, 173, 174, 175, 343, 344, 345, 346, 347, 75, 348, 349, 351, 352, 353, 354, 355, 356, 357, 358, 359, 360, 361, 71, 362, 363, 364, 365, 366, 367, 368, 44, 369, 56, 55, 370, 371, 372, 373, 76, 531, 532, 533, 534, 67, 535, 65, 64, 536, 537, 538, 539, 473, 540, 541, 542, 406, 483, 492, 543, 544, 545, 546, 547, 548, 549, 550, 551, 552, 553, 554, 240, 316, 33, 680, 681, 682, 683, 684, 685, 686, 687, 688, 739, 740, 741, 742, 743, 744, 753, 754, 751, 752, 757, 758, 759, 760, 761, 762, 763, 745, 746, 747, 748, 749, 750, 755, 756] (by decide +kernel) (by decide +kernel)
set_option maxRecDepth 20000 in
theorem gL_law_X7_runRounds : GoodIn wsL_law (wsV RL 89 RX7 yX7_runRounds wsX7_runRounds) := goodIn_app (goodIn_of _ (by decide +kernel)) ggL_law_X7_runRounds
set_option maxRecDepth 20000 in
theorem ggL_law_X8_runRounds : GoodIn wsL_law wsX8_runRounds := goodIn_r _ [558, 267, 269, 148, 149, 5, 150, 559, 560, 561, 562, 271, 127, 563, 564, 565, 566, 270, 122, 121, 123, 126, 124, 567, 568, 569, 570, 110, 115, 134, 111, 114, 571, 572, 573, 574, 118, 575, 576, 577, 578, 382, 383, 384, 385, 112, 133, 113, 276, 272, 273, 274, 275, 386, 387, 388, 389, 116, 390, 391, 392, 393, 132, 268, 106, 107, 109, 108, 117, 394, 395, 396, 397, 398, 399, 400, 401, 579, 580, 581, 582, 120, 125, 583, 584, 585, 586, 587, 588, 589, 590, 119, 689, 690, 691, 692, 693, 694, 695, 696, 697, 698, 699, 700, 701, 702, 703, 704, 705, 706, 707, 708, 709, 710, 711, 712, 713, 714, 715, 716, 717, 718, 719, 720, 721, 722, 723, 724, 725, 726, 727, 728, 729, 730] (by decide +kernel) (by decide +kernel)
set_option maxRecDepth 20000 in
theorem gL_law_X8_runRounds : GoodIn wsL_law (wsV RL 92 RX8 yX8_runRounds wsX8_runRounds) := goodIn_app (goodIn_of _ (by decide +kernel)) ggL_law_X8_runRounds
set_option maxRecDepth 20000 in
theorem ggL_law_X7_scheduledStream : GoodIn wsL_law wsX7_scheduledStream := goodIn_r _ [594, 31, 239, 540, 680, 681, 682, 683, 684, 685, 686, 687, 688, 753, 754] (by decide +kernel) (by decide +kernel)
set_option maxRecDepth 20000 in
theorem gL_law_X7_scheduledStream : GoodIn wsL_law (wsV RL 93 RX7 yX7_scheduledStream wsX7_scheduledStream) := goodIn_app (goodIn_of _ (by decide +kernel)) ggL_law_X7_scheduledStream
set_option maxRecDepth 20000 in
theorem ggL_law_X8_scheduledStream : GoodIn wsL_law wsX8_scheduledStream := goodIn_r _ [598, 271, 127, 148, 149, 5, 150, 689, 690, 691, 692, 693, 694, 695, 696, 697, 698, 699, 700, 701, 702, 703, 704, 705, 706, 707, 708, 709, 710, 711, 712, 713, 714, 715, 716, 717, 718, 719, 720, 721, 722, 723, 724, 725, 726, 727, 728, 729, 730] (by decide +kernel) (by decide +kernel)
set_option maxRecDepth 20000 in
theorem gL_law_X8_scheduledStream : GoodIn wsL_law (wsV RL 96 RX8 yX8_scheduledStream wsX8_scheduledStream) := goodIn_app (goodIn_of _ (by decide +kernel)) ggL_law_X8_scheduledStream
set_option maxRecDepth 20000 in
theorem ggL_law_X7_scheduleBits : GoodIn wsL_law wsX7_scheduleBits := goodIn_r _ [602, 31, 27, 603, 604, 605, 30, 606, 100, 520, 521, 350, 522, 607, 608, 609, 610, 518, 99, 611, 680, 681, 682, 683, 684, 685, 686, 687, 688, 753, 754, 751, 752, 757, 758, 759, 760, 761, 762, 763] (by decide +kernel) (by decide +kernel)
set_option maxRecDepth 20000 in
theorem gL_law_X7_scheduleBits : GoodIn wsL_law (wsV RL 97 RX7 yX7_scheduleBits wsX7_scheduleBits) := goodIn_app (goodIn_of _ (by decide +kernel)) ggL_law_X7_scheduleBits
set_option maxRecDepth 20000 in
theorem ggL_law_X8_scheduleBits : GoodIn wsL_law wsX8_scheduleBits := goodIn_r _ [615, 271, 616, 617, 618, 5, 619, 120, 127, 689, 690, 691, 692, 693, 694, 695, 696, 697, 698, 699, 700, 701, 702, 703, 704, 705, 706, 707, 708, 709, 710, 711, 712, 713, 714, 715, 716, 717, 718, 719, 720, 721, 722, 723, 724, 725, 726, 727, 728, 729, 730] (by decide +kernel) (by decide +kernel)
set_option maxRecDepth 20000 in
theorem gL_law_X8_scheduleBits : GoodIn wsL_law (wsV RL 100 RX8 yX8_scheduleBits wsX8_scheduleBits) := goodIn_app (goodIn_of _ (by decide +kernel)) ggL_law_X8_scheduleBits
set_option maxRecDepth 20000 in
theorem ggL_law_X7_host : GoodIn wsL_law wsX7_host := goodIn_r _ [623, 34, 680, 681, 682, 683, 684, 685, 686, 687, 688] (by decide +kernel) (by decide +kernel)
set_option maxRecDepth 20000 in
theorem gL_law_X7_host : GoodIn wsL_law (wsV RL 101 RX7 yX7_host wsX7_host) := goodIn_app (goodIn_of _ (by decide +kernel)) ggL_law_X7_host

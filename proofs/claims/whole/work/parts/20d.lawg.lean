set_option maxRecDepth 20000 in
theorem ggL_law_X8_floodLength : GoodIn wsL_law wsX8_floodLength := goodIn_r _ [432, 276, 689, 690, 691, 692, 693, 694, 695, 696, 697, 698, 699, 700, 701, 702, 703, 704, 705, 706, 707, 708, 709, 710, 711, 712, 713, 714, 715, 716, 717, 718, 719, 720, 721, 722, 723, 724, 725, 726, 727, 728, 729, 730] (by decide +kernel) (by decide +kernel)
set_option maxRecDepth 20000 in
theorem gL_law_X8_floodLength : GoodIn wsL_law (wsV RL 67 RX8 yX8_floodLength wsX8_floodLength) := goodIn_app (goodIn_of _ (by decide +kernel)) ggL_law_X8_floodLength
set_option maxRecDepth 20000 in
theorem ggL_law_X7_addStream : GoodIn wsL_law wsX7_addStream := goodIn_r _ [436, 19, 27, 317, 318, 319, 18, 320, 62, 437, 438, 439, 26, 440, 83, 82, 441, 442, 443, 85, 444, 90, 91, 92, 93, 94, 95, 680, 681, 682, 683, 684, 685, 686, 687, 688, 739, 740, 741, 742, 743, 744, 751, 752, 757, 758, 759, 760, 761, 762, 763] (by decide +kernel) (by decide +kernel)
set_option maxRecDepth 20000 in
theorem gL_law_X7_addStream : GoodIn wsL_law (wsV RL 68 RX7 yX7_addStream wsX7_addStream) := goodIn_app (goodIn_of _ (by decide +kernel)) ggL_law_X7_addStream
set_option maxRecDepth 20000 in
theorem ggL_law_X8_addStream : GoodIn wsL_law wsX8_addStream := goodIn_r _ [448, 270, 120, 121, 122, 123, 125, 126, 325, 326, 327, 5, 328, 267, 148, 149, 150, 689, 690, 691, 692, 693, 694, 695, 696, 697, 698, 699, 700, 701, 702, 703, 704, 705, 706, 707, 708, 709, 710, 711, 712, 713, 714, 715, 716, 717, 718, 719, 720, 721, 722, 723, 724, 725, 726, 727, 728, 729, 730] (by decide +kernel) (by decide +kernel)
set_option maxRecDepth 20000 in
theorem gL_law_X8_addStream : GoodIn wsL_law (wsV RL 72 RX8 yX8_addStream wsX8_addStream) := goodIn_app (goodIn_of _ (by decide +kernel)) ggL_law_X8_addStream
set_option maxRecDepth 20000 in
theorem ggL_law_X7_removeStream : GoodIn wsL_law wsX7_removeStream := goodIn_r _ [452, 27, 31, 239, 238, 453, 454, 455, 26, 456, 83, 457, 458, 459, 460, 82, 680, 681, 682, 683, 684, 685, 686, 687, 688, 753, 754, 751, 752] (by decide +kernel) (by decide +kernel)
set_option maxRecDepth 20000 in
theorem gL_law_X7_removeStream : GoodIn wsL_law (wsV RL 73 RX7 yX7_removeStream wsX7_removeStream) := goodIn_app (goodIn_of _ (by decide +kernel)) ggL_law_X7_removeStream
set_option maxRecDepth 20000 in
theorem ggL_law_X8_removeStream : GoodIn wsL_law wsX8_removeStream := goodIn_r _ [464, 270, 120, 121, 122, 123, 125, 126, 124, 271, 465, 466, 467, 5, 468, 148, 149, 150, 689, 690, 691, 692, 693, 694, 695, 696, 697, 698, 699, 700, 701, 702, 703, 704, 705, 706, 707, 708, 709, 710, 711, 712, 713, 714, 715, 716, 717, 718, 719, 720, 721, 722, 723, 724, 725, 726, 727, 728, 729, 730] (by decide +kernel) (by decide +kernel)
set_option maxRecDepth 20000 in
theorem gL_law_X8_removeStream : GoodIn wsL_law (wsV RL 76 RX8 yX8_removeStream wsX8_removeStream) := goodIn_app (goodIn_of _ (by decide +kernel)) ggL_law_X8_removeStream
set_option maxRecDepth 20000 in
theorem ggL_law_X7_waitingPackets : GoodIn wsL_law wsX7_waitingPackets := goodIn_r _ [472, 27, 473, 474, 453, 454, 455, 26, 456, 83, 680, 681, 682, 683, 684, 685, 686, 687, 688, 751, 752, 757, 758, 759, 760, 761, 762, 763] (by decide +kernel) (by decide +kernel)
set_option maxRecDepth 20000 in
theorem gL_law_X7_waitingPackets : GoodIn wsL_law (wsV RL 77 RX7 yX7_waitingPackets wsX7_waitingPackets) := goodIn_app (goodIn_of _ (by decide +kernel)) ggL_law_X7_waitingPackets
set_option maxRecDepth 20000 in
theorem ggL_law_X8_waitingPackets : GoodIn wsL_law wsX8_waitingPackets := goodIn_r _ [478, 123, 465, 466, 467, 5, 468, 270, 148, 149, 150, 689, 690, 691, 692, 693, 694, 695, 696, 697, 698, 699, 700, 701, 702, 703, 704, 705, 706, 707, 708, 709, 710, 711, 712, 713, 714, 715, 716, 717, 718, 719, 720, 721, 722, 723, 724, 725, 726, 727, 728, 729, 730] (by decide +kernel) (by decide +kernel)
set_option maxRecDepth 20000 in
theorem gL_law_X8_waitingPackets : GoodIn wsL_law (wsV RL 80 RX8 yX8_waitingPackets wsX8_waitingPackets) := goodIn_app (goodIn_of _ (by decide +kernel)) ggL_law_X8_waitingPackets
set_option maxRecDepth 20000 in
theorem ggL_law_X7_deliveredPackets : GoodIn wsL_law wsX7_deliveredPackets := goodIn_r _ [482, 27, 473, 483, 453, 454, 455, 26, 456, 83, 680, 681, 682, 683, 684, 685, 686, 687, 688, 751, 752, 757, 758, 759, 760, 761, 762, 763] (by decide +kernel) (by decide +kernel)
set_option maxRecDepth 20000 in
theorem gL_law_X7_deliveredPackets : GoodIn wsL_law (wsV RL 81 RX7 yX7_deliveredPackets wsX7_deliveredPackets) := goodIn_app (goodIn_of _ (by decide +kernel)) ggL_law_X7_deliveredPackets
set_option maxRecDepth 20000 in
theorem ggL_law_X8_deliveredPackets : GoodIn wsL_law wsX8_deliveredPackets := goodIn_r _ [487, 125, 465, 466, 467, 5, 468, 270, 148, 149, 150, 689, 690, 691, 692, 693, 694, 695, 696, 697, 698, 699, 700, 701, 702, 703, 704, 705, 706, 707, 708, 709, 710, 711, 712, 713, 714, 715, 716, 717, 718, 719, 720, 721, 722, 723, 724, 725, 726, 727, 728, 729, 730] (by decide +kernel) (by decide +kernel)
set_option maxRecDepth 20000 in
theorem gL_law_X8_deliveredPackets : GoodIn wsL_law (wsV RL 84 RX8 yX8_deliveredPackets wsX8_deliveredPackets) := goodIn_app (goodIn_of _ (by decide +kernel)) ggL_law_X8_deliveredPackets

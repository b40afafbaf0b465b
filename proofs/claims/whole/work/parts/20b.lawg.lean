set_option maxRecDepth 20000 in
theorem ggL_law_X8_loadNetwork : GoodIn wsL_law wsX8_loadNetwork := goodIn_r _ [266, 227, 225, 267, 226, 268, 106, 128, 107, 129, 108, 130, 109, 131, 110, 113, 114, 115, 269, 270, 271, 147, 221, 222, 223, 5, 224, 220, 105, 148, 149, 150, 228, 229, 230, 231, 272, 273, 274, 275, 111, 112, 276, 689, 690, 691, 692, 693, 694, 695, 696, 697, 698, 699, 700, 701, 702, 703, 704, 705, 706, 707, 708, 709, 710, 711, 712, 713, 714, 715, 716, 717, 718, 719, 720, 721, 722, 723, 724, 725, 726, 727, 728, 729, 730] (by decide +kernel) (by decide +kernel)
set_option maxRecDepth 20000 in
theorem gL_law_X8_loadNetwork : GoodIn wsL_law (wsV RL 30 RX8 yX8_loadNetwork wsX8_loadNetwork) := goodIn_app (goodIn_of _ (by decide +kernel)) ggL_law_X8_loadNetwork
set_option maxRecDepth 20000 in
theorem ggL_law_X7_setTransmissionLimit : GoodIn wsL_law wsX7_setTransmissionLimit := goodIn_r _ [280, 23, 281, 680, 681, 682, 683, 684, 685, 686, 687, 688, 745, 746, 747, 748, 749, 750] (by decide +kernel) (by decide +kernel)
set_option maxRecDepth 20000 in
theorem gL_law_X7_setTransmissionLimit : GoodIn wsL_law (wsV RL 31 RX7 yX7_setTransmissionLimit wsX7_setTransmissionLimit) := goodIn_app (goodIn_of _ (by decide +kernel)) ggL_law_X7_setTransmissionLimit
set_option maxRecDepth 20000 in
theorem ggL_law_X8_setTransmissionLimit : GoodIn wsL_law wsX8_setTransmissionLimit := goodIn_r _ [285, 116, 148, 149, 5, 150, 689, 690, 691, 692, 693, 694, 695, 696, 697, 698, 699, 700, 701, 702, 703, 704, 705, 706, 707, 708, 709, 710, 711, 712, 713, 714, 715, 716, 717, 718, 719, 720, 721, 722, 723, 724, 725, 726, 727, 728, 729, 730] (by decide +kernel) (by decide +kernel)
set_option maxRecDepth 20000 in
theorem gL_law_X8_setTransmissionLimit : GoodIn wsL_law (wsV RL 34 RX8 yX8_setTransmissionLimit wsX8_setTransmissionLimit) := goodIn_app (goodIn_of _ (by decide +kernel)) ggL_law_X8_setTransmissionLimit
set_option maxRecDepth 20000 in
theorem ggL_law_X7_setCaptureMargin : GoodIn wsL_law wsX7_setCaptureMargin := goodIn_r _ [289, 23, 290, 680, 681, 682, 683, 684, 685, 686, 687, 688, 745, 746, 747, 748, 749, 750] (by decide +kernel) (by decide +kernel)
set_option maxRecDepth 20000 in
theorem gL_law_X7_setCaptureMargin : GoodIn wsL_law (wsV RL 35 RX7 yX7_setCaptureMargin wsX7_setCaptureMargin) := goodIn_app (goodIn_of _ (by decide +kernel)) ggL_law_X7_setCaptureMargin
set_option maxRecDepth 20000 in
theorem ggL_law_X8_setCaptureMargin : GoodIn wsL_law wsX8_setCaptureMargin := goodIn_r _ [294, 117, 148, 149, 5, 150, 689, 690, 691, 692, 693, 694, 695, 696, 697, 698, 699, 700, 701, 702, 703, 704, 705, 706, 707, 708, 709, 710, 711, 712, 713, 714, 715, 716, 717, 718, 719, 720, 721, 722, 723, 724, 725, 726, 727, 728, 729, 730] (by decide +kernel) (by decide +kernel)
set_option maxRecDepth 20000 in
theorem gL_law_X8_setCaptureMargin : GoodIn wsL_law (wsV RL 38 RX8 yX8_setCaptureMargin wsX8_setCaptureMargin) := goodIn_app (goodIn_of _ (by decide +kernel)) ggL_law_X8_setCaptureMargin
set_option maxRecDepth 20000 in
theorem ggL_law_X7_setSlotLimit : GoodIn wsL_law wsX7_setSlotLimit := goodIn_r _ [298, 32, 680, 681, 682, 683, 684, 685, 686, 687, 688] (by decide +kernel) (by decide +kernel)
set_option maxRecDepth 20000 in
theorem gL_law_X7_setSlotLimit : GoodIn wsL_law (wsV RL 39 RX7 yX7_setSlotLimit wsX7_setSlotLimit) := goodIn_app (goodIn_of _ (by decide +kernel)) ggL_law_X7_setSlotLimit
set_option maxRecDepth 20000 in
theorem ggL_law_X8_setSlotLimit : GoodIn wsL_law wsX8_setSlotLimit := goodIn_r _ [302, 118, 148, 149, 5, 150, 689, 690, 691, 692, 693, 694, 695, 696, 697, 698, 699, 700, 701, 702, 703, 704, 705, 706, 707, 708, 709, 710, 711, 712, 713, 714, 715, 716, 717, 718, 719, 720, 721, 722, 723, 724, 725, 726, 727, 728, 729, 730] (by decide +kernel) (by decide +kernel)
set_option maxRecDepth 20000 in
theorem gL_law_X8_setSlotLimit : GoodIn wsL_law (wsV RL 42 RX8 yX8_setSlotLimit wsX8_setSlotLimit) := goodIn_app (goodIn_of _ (by decide +kernel)) ggL_law_X8_setSlotLimit
set_option maxRecDepth 20000 in
theorem ggL_law_X7_setTakeoverLimit : GoodIn wsL_law wsX7_setTakeoverLimit := goodIn_r _ [306, 33, 680, 681, 682, 683, 684, 685, 686, 687, 688] (by decide +kernel) (by decide +kernel)
set_option maxRecDepth 20000 in
theorem gL_law_X7_setTakeoverLimit : GoodIn wsL_law (wsV RL 43 RX7 yX7_setTakeoverLimit wsX7_setTakeoverLimit) := goodIn_app (goodIn_of _ (by decide +kernel)) ggL_law_X7_setTakeoverLimit
set_option maxRecDepth 20000 in
theorem ggL_law_X8_setTakeoverLimit : GoodIn wsL_law wsX8_setTakeoverLimit := goodIn_r _ [310, 119, 148, 149, 5, 150, 689, 690, 691, 692, 693, 694, 695, 696, 697, 698, 699, 700, 701, 702, 703, 704, 705, 706, 707, 708, 709, 710, 711, 712, 713, 714, 715, 716, 717, 718, 719, 720, 721, 722, 723, 724, 725, 726, 727, 728, 729, 730] (by decide +kernel) (by decide +kernel)
set_option maxRecDepth 20000 in
theorem gL_law_X8_setTakeoverLimit : GoodIn wsL_law (wsV RL 46 RX8 yX8_setTakeoverLimit wsX8_setTakeoverLimit) := goodIn_app (goodIn_of _ (by decide +kernel)) ggL_law_X8_setTakeoverLimit

set_option maxRecDepth 20000 in
theorem ggL_law_X8_host : GoodIn wsL_law wsX8_host := goodIn_r _ [627, 115, 689, 690, 691, 692, 693, 694, 695, 696, 697, 698, 699, 700, 701, 702, 703, 704, 705, 706, 707, 708, 709, 710, 711, 712, 713, 714, 715, 716, 717, 718, 719, 720, 721, 722, 723, 724, 725, 726, 727, 728, 729, 730] (by decide +kernel) (by decide +kernel)
set_option maxRecDepth 20000 in
theorem gL_law_X8_host : GoodIn wsL_law (wsV RL 104 RX8 yX8_host wsX8_host) := goodIn_app (goodIn_of _ (by decide +kernel)) ggL_law_X8_host
set_option maxRecDepth 20000 in
theorem ggL_law_X7_missedSchedules : GoodIn wsL_law wsX7_missedSchedules := goodIn_r _ [631, 19, 316, 317, 318, 319, 18, 320, 62, 680, 681, 682, 683, 684, 685, 686, 687, 688, 739, 740, 741, 742, 743, 744] (by decide +kernel) (by decide +kernel)
set_option maxRecDepth 20000 in
theorem gL_law_X7_missedSchedules : GoodIn wsL_law (wsV RL 105 RX7 yX7_missedSchedules wsX7_missedSchedules) := goodIn_app (goodIn_of _ (by decide +kernel)) ggL_law_X7_missedSchedules
set_option maxRecDepth 20000 in
theorem ggL_law_X8_missedSchedules : GoodIn wsL_law wsX8_missedSchedules := goodIn_r _ [635, 114, 325, 326, 327, 5, 328, 267, 148, 149, 150, 689, 690, 691, 692, 693, 694, 695, 696, 697, 698, 699, 700, 701, 702, 703, 704, 705, 706, 707, 708, 709, 710, 711, 712, 713, 714, 715, 716, 717, 718, 719, 720, 721, 722, 723, 724, 725, 726, 727, 728, 729, 730] (by decide +kernel) (by decide +kernel)
set_option maxRecDepth 20000 in
theorem gL_law_X8_missedSchedules : GoodIn wsL_law (wsV RL 108 RX8 yX8_missedSchedules wsX8_missedSchedules) := goodIn_app (goodIn_of _ (by decide +kernel)) ggL_law_X8_missedSchedules
set_option maxRecDepth 20000 in
theorem ggL_law_X7_transmissions : GoodIn wsL_law wsX7_transmissions := goodIn_r _ [639, 19, 640, 317, 318, 319, 18, 320, 62, 680, 681, 682, 683, 684, 685, 686, 687, 688, 739, 740, 741, 742, 743, 744] (by decide +kernel) (by decide +kernel)
set_option maxRecDepth 20000 in
theorem gL_law_X7_transmissions : GoodIn wsL_law (wsV RL 109 RX7 yX7_transmissions wsX7_transmissions) := goodIn_app (goodIn_of _ (by decide +kernel)) ggL_law_X7_transmissions
set_option maxRecDepth 20000 in
theorem ggL_law_X8_transmissions : GoodIn wsL_law wsX8_transmissions := goodIn_r _ [644, 113, 325, 326, 327, 5, 328, 267, 148, 149, 150, 689, 690, 691, 692, 693, 694, 695, 696, 697, 698, 699, 700, 701, 702, 703, 704, 705, 706, 707, 708, 709, 710, 711, 712, 713, 714, 715, 716, 717, 718, 719, 720, 721, 722, 723, 724, 725, 726, 727, 728, 729, 730] (by decide +kernel) (by decide +kernel)
set_option maxRecDepth 20000 in
theorem gL_law_X8_transmissions : GoodIn wsL_law (wsV RL 112 RX8 yX8_transmissions wsX8_transmissions) := goodIn_app (goodIn_of _ (by decide +kernel)) ggL_law_X8_transmissions
set_option maxRecDepth 20000 in
theorem ggL_law_X7_roundNumber : GoodIn wsL_law wsX7_roundNumber := goodIn_r _ [648, 35, 680, 681, 682, 683, 684, 685, 686, 687, 688] (by decide +kernel) (by decide +kernel)
set_option maxRecDepth 20000 in
theorem gL_law_X7_roundNumber : GoodIn wsL_law (wsV RL 113 RX7 yX7_roundNumber wsX7_roundNumber) := goodIn_app (goodIn_of _ (by decide +kernel)) ggL_law_X7_roundNumber
set_option maxRecDepth 20000 in
theorem ggL_law_X8_roundNumber : GoodIn wsL_law wsX8_roundNumber := goodIn_r _ [652, 269, 689, 690, 691, 692, 693, 694, 695, 696, 697, 698, 699, 700, 701, 702, 703, 704, 705, 706, 707, 708, 709, 710, 711, 712, 713, 714, 715, 716, 717, 718, 719, 720, 721, 722, 723, 724, 725, 726, 727, 728, 729, 730] (by decide +kernel) (by decide +kernel)
set_option maxRecDepth 20000 in
theorem gL_law_X8_roundNumber : GoodIn wsL_law (wsV RL 116 RX8 yX8_roundNumber wsX8_roundNumber) := goodIn_app (goodIn_of _ (by decide +kernel)) ggL_law_X8_roundNumber
set_option maxRecDepth 20000 in
theorem ggL_law_X7_digest : GoodIn wsL_law wsX7_digest := goodIn_r _ [656, 657, 658, 23, 428, 31, 239, 540, 27, 34, 35, 15, 155, 659, 660, 661, 662, 2, 663, 19, 240, 406, 415, 316, 640, 315, 664, 665, 666, 667, 238, 473, 474, 483, 492, 603, 604, 605, 30, 606, 100, 520, 521, 350, 522, 607, 608, 609, 610, 518, 99, 611, 680, 681, 682, 683, 684, 685, 686, 687, 688, 745, 746, 747, 748, 749, 750, 753, 754, 731, 732, 733, 734, 735, 736, 737, 738, 739, 740, 741, 742, 743, 744, 751, 752, 757, 758, 759, 760, 761, 762, 763] (by decide +kernel) (by decide +kernel)
set_option maxRecDepth 20000 in
theorem gL_law_X7_digest : GoodIn wsL_law (wsV RL 117 RX7 yX7_digest wsX7_digest) := goodIn_app (goodIn_of _ (by decide +kernel)) ggL_law_X7_digest
set_option maxRecDepth 20000 in
theorem ggL_law_X8_digest : GoodIn wsL_law wsX8_digest := goodIn_r _ [671, 672, 673, 267, 111, 114, 113, 110, 276, 270, 123, 125, 126, 271, 127, 115, 269, 147, 105, 674, 675, 676, 5, 677, 678, 420, 421, 422, 423, 112, 679, 613, 614, 615, 616, 617, 618, 619, 120, 689, 690, 691, 692, 693, 694, 695, 696, 697, 698, 699, 700, 701, 702, 703, 704, 705, 706, 707, 708, 709, 710, 711, 712, 713, 714, 715, 716, 717, 718, 719, 720, 721, 722, 723, 724, 725, 726, 727, 728, 729, 730] (by decide +kernel) (by decide +kernel)
set_option maxRecDepth 20000 in
theorem gL_law_X8_digest : GoodIn wsL_law (wsV RL 121 RX8 yX8_digest wsX8_digest) := goodIn_app (goodIn_of _ (by decide +kernel)) ggL_law_X8_digest

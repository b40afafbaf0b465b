set_option maxRecDepth 20000 in
theorem in_wsL_law_r1 : ∀ w ∈ wsL_law_r1, w ∈ lw_tbl := fun w h => (goodIn_r wsL_law_r1 [53, 54, 41, 580, 581, 49, 55, 56, 57, 58, 59, 60, 61, 62, 42, 247, 112, 113, 44, 248, 149, 150, 45, 249] (by decide +kernel) (by decide +kernel) w h).1
set_option maxRecDepth 20000 in
theorem in_wsL_law_r2 : ∀ w ∈ wsL_law_r2, w ∈ lw_tbl := fun w h => (goodIn_r wsL_law_r2 [180, 181, 46, 250, 232, 233, 48, 251, 252, 253, 254, 255, 64, 65, 66, 82, 83, 85, 67, 68, 43, 87, 89, 91] (by decide +kernel) (by decide +kernel) w h).1
set_option maxRecDepth 20000 in
theorem in_wsL_law_r3 : ∀ w ∈ wsL_law_r3, w ∈ lw_tbl := fun w h => (goodIn_r wsL_law_r3 [92, 93, 94, 70, 71, 72, 73, 75, 76, 115, 116, 117, 118, 120, 122, 148, 125, 128, 130, 133, 152, 153, 154, 155] (by decide +kernel) (by decide +kernel) w h).1
set_option maxRecDepth 20000 in
theorem in_wsL_law_r4 : ∀ w ∈ wsL_law_r4, w ∈ lw_tbl := fun w h => (goodIn_r wsL_law_r4 [156, 159, 161, 163, 165, 182, 183, 184, 185, 186, 221, 224, 188, 47, 190, 191, 192, 193, 194, 197, 198, 199, 202, 204] (by decide +kernel) (by decide +kernel) w h).1
set_option maxRecDepth 20000 in
theorem in_wsL_law_r5 : ∀ w ∈ wsL_law_r5, w ∈ lw_tbl := fun w h => (goodIn_r wsL_law_r5 [235, 236, 237, 238, 240, 582, 583, 584, 585, 587, 590, 591, 592, 593, 594, 595, 596, 597, 598, 600, 602, 603, 604, 605] (by decide +kernel) (by decide +kernel) w h).1
set_option maxRecDepth 20000 in
theorem in_wsL_law_r6 : ∀ w ∈ wsL_law_r6, w ∈ lw_tbl := fun w h => (goodIn_r wsL_law_r6 [607, 608, 609, 610, 611, 612, 613, 615, 618, 619, 620, 621, 624, 625, 626, 275, 276, 277, 278, 279, 280, 281, 282, 713] (by decide +kernel) (by decide +kernel) w h).1
set_option maxRecDepth 20000 in
theorem in_wsL_law_r7 : ∀ w ∈ wsL_law_r7, w ∈ lw_tbl := fun w h => (goodIn_r wsL_law_r7 [714, 715, 716, 586, 717, 718, 719, 283, 284, 285, 286, 86, 720, 721, 722, 723, 287, 288, 289, 290, 291, 292, 293, 294] (by decide +kernel) (by decide +kernel) w h).1
set_option maxRecDepth 20000 in
theorem in_wsL_law_r8 : ∀ w ∈ wsL_law_r8, w ∈ lw_tbl := fun w h => (goodIn_r wsL_law_r8 [295, 296, 297, 298, 299, 300, 50, 301, 302, 304, 0, 305, 306, 308, 1, 309, 310, 312, 2, 313, 314, 316, 3, 317] (by decide +kernel) (by decide +kernel) w h).1
set_option maxRecDepth 20000 in
theorem in_wsL_law_r9 : ∀ w ∈ wsL_law_r9, w ∈ lw_tbl := fun w h => (goodIn_r wsL_law_r9 [318, 320, 4, 321, 322, 323, 324, 325, 326, 328, 5, 329, 330, 331, 332, 333, 334, 336, 6, 337, 338, 339, 340, 341] (by decide +kernel) (by decide +kernel) w h).1
set_option maxRecDepth 20000 in
theorem in_wsL_law_r10 : ∀ w ∈ wsL_law_r10, w ∈ lw_tbl := fun w h => (goodIn_r wsL_law_r10 [724, 725, 726, 727, 622, 728, 730, 19, 731, 616, 617, 623, 732, 734, 20, 735, 342, 343, 344, 345, 90, 88, 226, 241] (by decide +kernel) (by decide +kernel) w h).1
set_option maxRecDepth 20000 in
theorem in_wsL_law_r11 : ∀ w ∈ wsL_law_r11, w ∈ lw_tbl := fun w h => (goodIn_r wsL_law_r11 [124, 346, 347, 348, 349, 350, 351, 352, 353, 354, 355, 356, 357, 358, 359, 361, 360, 51, 362, 363, 364, 365, 366, 736] (by decide +kernel) (by decide +kernel) w h).1
set_option maxRecDepth 20000 in
theorem in_wsL_law_r12 : ∀ w ∈ wsL_law_r12, w ∈ lw_tbl := fun w h => (goodIn_r wsL_law_r12 [737, 738, 739, 588, 589, 601, 606, 614, 740, 742, 21, 743, 599, 367, 368, 369, 370, 164, 744, 745, 746, 747, 371, 372] (by decide +kernel) (by decide +kernel) w h).1
set_option maxRecDepth 20000 in
theorem in_wsL_law_r13 : ∀ w ∈ wsL_law_r13, w ∈ lw_tbl := fun w h => (goodIn_r wsL_law_r13 [373, 374, 166, 748, 749, 750, 751, 375, 376, 377, 378, 752, 753, 754, 755, 379, 380, 381, 382, 756, 757, 758, 759, 383] (by decide +kernel) (by decide +kernel) w h).1
set_option maxRecDepth 20000 in
theorem in_wsL_law_r14 : ∀ w ∈ wsL_law_r14, w ∈ lw_tbl := fun w h => (goodIn_r wsL_law_r14 [384, 385, 386, 127, 129, 387, 388, 389, 390, 760, 761, 762, 763, 764, 766, 22, 767, 391, 392, 393, 394, 395, 396, 397] (by decide +kernel) (by decide +kernel) w h).1
set_option maxRecDepth 20000 in
theorem in_wsL_law_r15 : ∀ w ∈ wsL_law_r15, w ∈ lw_tbl := fun w h => (goodIn_r wsL_law_r15 [398, 399, 400, 401, 402, 123, 403, 404, 406, 7, 407, 131, 408, 409, 52, 410, 411, 413, 8, 414, 126, 121, 415, 417] (by decide +kernel) (by decide +kernel) w h).1
set_option maxRecDepth 20000 in
theorem in_wsL_law_r16 : ∀ w ∈ wsL_law_r16, w ∈ lw_tbl := fun w h => (goodIn_r wsL_law_r16 [9, 418, 419, 421, 10, 422, 423, 424, 425, 426, 427, 429, 11, 430, 431, 432, 433, 434, 768, 769, 770, 771, 772, 774] (by decide +kernel) (by decide +kernel) w h).1
set_option maxRecDepth 20000 in
theorem in_wsL_law_r17 : ∀ w ∈ wsL_law_r17, w ∈ lw_tbl := fun w h => (goodIn_r wsL_law_r17 [23, 775, 776, 778, 24, 779, 780, 782, 25, 783, 784, 786, 26, 787, 788, 790, 27, 791, 435, 436, 437, 438, 158, 792] (by decide +kernel) (by decide +kernel) w h).1
set_option maxRecDepth 20000 in
theorem in_wsL_law_r18 : ∀ w ∈ wsL_law_r18, w ∈ lw_tbl := fun w h => (goodIn_r wsL_law_r18 [793, 794, 795, 439, 440, 441, 442, 160, 796, 797, 798, 799, 800, 802, 28, 803, 443, 444, 445, 446, 162, 804, 805, 806] (by decide +kernel) (by decide +kernel) w h).1
set_option maxRecDepth 20000 in
theorem in_wsL_law_r19 : ∀ w ∈ wsL_law_r19, w ∈ lw_tbl := fun w h => (goodIn_r wsL_law_r19 [807, 447, 448, 449, 450, 451, 452, 453, 454, 455, 456, 457, 458, 808, 809, 810, 811, 459, 460, 461, 462, 463, 464, 465] (by decide +kernel) (by decide +kernel) w h).1

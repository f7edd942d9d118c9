set_option maxRecDepth 20000 in
theorem ggL_law_X9_tree : GoodIn wsL_law wsX9_tree := goodIn_r _ [493, 494, 495, 496, 497, 254, 255, 2, 256, 498, 499, 500, 501, 502, 503, 220, 221, 222, 174, 175, 176, 504, 505, 506, 507, 19, 72, 508, 509, 510, 10, 11, 24, 511, 512, 513, 514, 515, 516, 517, 327, 328, 329, 330, 71, 223, 224, 225, 18, 226, 32, 331, 332, 333, 334, 335, 186, 183, 187, 188, 189, 190, 191, 192, 193, 194, 336, 337, 338, 339, 340, 341, 342, 343, 344, 345, 346, 347, 348, 349, 350, 351, 352, 257, 258, 259, 260, 33, 353, 354, 355, 356, 357, 358, 359, 360, 361, 362, 363, 364, 365, 366, 367, 368, 369, 370, 371, 372, 373, 374, 375, 376, 377, 378, 379, 380, 381, 382, 383, 384, 385, 386, 387, 388, 389, 390, 391, 392, 393, 394, 395, 396, 397, 398, 403, 404, 405, 406, 407, 408, 409, 410, 411, 412, 413, 414, 415, 416, 417, 418, 419, 420, 421, 422, 423, 424, 425, 426, 518, 519, 520, 521, 522, 523, 524, 525, 526, 527, 528, 529, 530, 531, 532, 533, 534, 535, 536, 537, 538, 539, 540, 541, 542, 543, 544, 545, 546, 547, 548, 549, 550, 551, 552, 553, 554, 790, 791, 792, 793, 794, 842, 843, 844, 845, 846, 826, 827, 828, 829, 830, 831, 832, 833, 834, 835, 836, 837, 838, 839, 840, 841] (by decide +kernel) (by decide +kernel)
set_option maxRecDepth 20000 in
theorem gL_law_X9_tree : GoodIn wsL_law (wsV RL 66 RX9 yX9_tree wsX9_tree) := goodIn_app (goodIn_of _ (by decide +kernel)) ggL_law_X9_tree
set_option maxRecDepth 20000 in
theorem ggL_law_X10_tree : GoodIn wsL_law wsX10_tree := goodIn_r _ [558, 559, 560, 561, 49, 270, 271, 5, 272, 273, 80, 81, 82, 204, 205, 206, 207, 562, 563, 564, 565, 61, 566, 567, 568, 569, 48, 570, 571, 572, 573, 38, 39, 47, 44, 448, 449, 450, 451, 43, 452, 45, 46, 453, 454, 455, 456, 40, 457, 458, 459, 460, 60, 461, 462, 463, 464, 465, 466, 467, 307, 308, 309, 310, 243, 244, 245, 246, 311, 312, 313, 314, 574, 575, 576, 577, 578, 579, 580, 581, 582, 583, 584, 585, 795, 796, 797, 798, 799, 800, 801, 802, 803, 804, 805, 806, 807, 808, 809, 810, 811, 812, 813, 814, 815, 816, 817, 818, 819, 820, 821, 822] (by decide +kernel) (by decide +kernel)
set_option maxRecDepth 20000 in
theorem gL_law_X10_tree : GoodIn wsL_law (wsV RL 69 RX10 yX10_tree wsX10_tree) := goodIn_app (goodIn_of _ (by decide +kernel)) ggL_law_X10_tree
set_option maxRecDepth 20000 in
theorem ggL_law_X9_lost : GoodIn wsL_law wsX9_lost := goodIn_r _ [589, 19, 71, 254, 255, 2, 256, 498, 499, 500, 504, 505, 506, 507, 72, 339, 340, 341, 342, 343, 344, 345, 346, 347, 348, 349, 10, 11, 350, 351, 24, 352, 590, 591, 592, 593, 594, 529, 385, 530, 220, 221, 222, 174, 175, 176, 327, 328, 329, 330, 223, 224, 225, 18, 226, 32, 331, 332, 333, 334, 335, 186, 183, 187, 188, 189, 190, 191, 192, 193, 194, 336, 337, 338, 257, 258, 259, 260, 33, 353, 354, 355, 356, 357, 358, 359, 360, 361, 362, 363, 364, 365, 366, 367, 368, 369, 370, 371, 372, 373, 374, 375, 376, 377, 378, 379, 380, 381, 382, 383, 384, 386, 387, 388, 389, 390, 391, 392, 393, 394, 395, 396, 397, 398, 595, 596, 597, 598, 599, 600, 601, 602, 407, 408, 409, 410, 411, 412, 413, 414, 415, 416, 417, 418, 419, 420, 421, 422, 423, 424, 425, 426, 603, 604, 605, 606, 607, 608, 609, 610, 611, 612, 613, 614, 615, 616, 617, 212, 213, 214, 215, 227, 228, 229, 142, 230, 144, 790, 791, 792, 793, 794, 826, 827, 828, 829, 830, 831, 832, 833, 834, 835, 836, 837, 838, 839, 840, 841] (by decide +kernel) (by decide +kernel)
set_option maxRecDepth 20000 in
theorem gL_law_X9_lost : GoodIn wsL_law (wsV RL 70 RX9 yX9_lost wsX9_lost) := goodIn_app (goodIn_of _ (by decide +kernel)) ggL_law_X9_lost
set_option maxRecDepth 20000 in
theorem ggL_law_X10_lost : GoodIn wsL_law wsX10_lost := goodIn_r _ [621, 559, 50, 38, 39, 51, 270, 271, 5, 272, 273, 80, 81, 82, 562, 563, 564, 565, 61, 453, 454, 455, 456, 40, 622, 623, 624, 625, 626, 627, 628, 629, 457, 458, 459, 460, 60, 461, 462, 463, 464, 465, 466, 467, 307, 308, 309, 310, 243, 244, 245, 246, 311, 312, 313, 314, 235, 236, 237, 238, 247, 248, 249, 795, 796, 797, 798, 799, 800, 801, 802, 803, 804, 805, 806, 807, 808, 809, 810, 811, 812, 813, 814, 815, 816, 817, 818, 819, 820, 821, 822] (by decide +kernel) (by decide +kernel)
set_option maxRecDepth 20000 in
theorem gL_law_X10_lost : GoodIn wsL_law (wsV RL 73 RX10 yX10_lost wsX10_lost) := goodIn_app (goodIn_of _ (by decide +kernel)) ggL_law_X10_lost
set_option maxRecDepth 20000 in
theorem ggL_law_X9_wished : GoodIn wsL_law wsX9_wished := goodIn_r _ [633, 19, 71, 15, 174, 175, 2, 176, 254, 255, 256, 216, 217, 218, 219, 72, 220, 221, 222, 112, 113, 114, 14, 115, 92, 116, 117, 118, 119, 120, 121, 122, 123, 124, 125, 126, 127, 128, 129, 130, 131, 25, 132, 133, 134, 135, 136, 137, 138, 139, 140, 141, 142, 143, 144, 145, 146, 147, 148, 223, 224, 225, 18, 226, 32, 634, 635, 636, 637, 638, 227, 186, 183, 187, 188, 189, 190, 191, 192, 193, 194, 639, 337, 333, 338, 339, 340, 341, 342, 343, 344, 345, 346, 347, 348, 349, 10, 11, 350, 351, 24, 352, 257, 258, 259, 260, 33, 353, 354, 355, 356, 357, 358, 359, 360, 361, 362, 363, 364, 365, 366, 367, 368, 369, 370, 371, 372, 373, 374, 375, 376, 377, 378, 379, 380, 381, 382, 383, 384, 385, 386, 387, 388, 389, 390, 391, 392, 393, 394, 395, 396, 397, 398, 399, 400, 401, 402, 403, 404, 405, 406, 407, 408, 409, 410, 411, 412, 413, 414, 415, 416, 417, 418, 419, 420, 421, 422, 423, 424, 425, 426, 427, 428, 429, 430, 431, 432, 433, 434, 435, 436, 437, 438, 439, 293, 294, 295, 296, 297, 182, 184, 185, 790, 791, 792, 793, 794, 826, 827, 828, 829, 830, 831, 823, 824, 825, 832, 833, 834, 835, 836, 837, 838, 839, 840, 841] (by decide +kernel) (by decide +kernel)
set_option maxRecDepth 20000 in
theorem gL_law_X9_wished : GoodIn wsL_law (wsV RL 74 RX9 yX9_wished wsX9_wished) := goodIn_app (goodIn_of _ (by decide +kernel)) ggL_law_X9_wished
set_option maxRecDepth 20000 in
theorem ggL_law_X10_wished : GoodIn wsL_law wsX10_wished := goodIn_r _ [643, 60, 38, 39, 452, 43, 44, 204, 205, 5, 206, 207, 80, 81, 82, 270, 271, 272, 273, 239, 240, 241, 242, 61, 153, 154, 155, 156, 99, 41, 157, 158, 159, 160, 161, 448, 449, 450, 451, 45, 46, 453, 454, 455, 456, 40, 457, 458, 459, 460, 461, 462, 463, 464, 465, 466, 467, 307, 308, 309, 310, 243, 244, 245, 246, 311, 312, 313, 314, 644, 645, 646, 647, 468, 469, 470, 471, 795, 796, 797, 798, 799, 800, 801, 802, 803, 804, 805, 806, 807, 808, 809, 810, 811, 812, 813, 814, 815, 816, 817, 818, 819, 820, 821, 822] (by decide +kernel) (by decide +kernel)
set_option maxRecDepth 20000 in
theorem gL_law_X10_wished : GoodIn wsL_law (wsV RL 77 RX10 yX10_wished wsX10_wished) := goodIn_app (goodIn_of _ (by decide +kernel)) ggL_law_X10_wished
set_option maxRecDepth 20000 in
theorem ggL_law_X9_holds : GoodIn wsL_law wsX9_holds := goodIn_r _ [651, 19, 71, 212, 213, 214, 2, 215, 498, 499, 500, 504, 505, 506, 507, 72, 652, 653, 654, 655, 656, 657, 658, 659, 220, 221, 222, 174, 175, 176, 223, 224, 225, 18, 226, 32, 227, 186, 183, 187, 188, 189, 190, 191, 192, 193, 194, 228, 229, 142, 230, 144, 660, 661, 662, 663, 664, 665, 666, 790, 791, 792, 793, 794, 826, 827, 828, 829, 830, 831] (by decide +kernel) (by decide +kernel)
set_option maxRecDepth 20000 in
theorem gL_law_X9_holds : GoodIn wsL_law (wsV RL 78 RX9 yX9_holds wsX9_holds) := goodIn_app (goodIn_of _ (by decide +kernel)) ggL_law_X9_holds
set_option maxRecDepth 20000 in
theorem ggL_law_X10_holds : GoodIn wsL_law wsX10_holds := goodIn_r _ [670, 559, 60, 235, 236, 237, 5, 238, 80, 81, 82, 562, 563, 564, 565, 61, 671, 672, 673, 674, 38, 243, 244, 245, 246, 40, 247, 248, 249, 675, 676, 677, 678, 795, 796, 797, 798, 799, 800, 801, 802, 803, 804, 805, 806, 807, 808, 809, 810, 811, 812, 813, 814, 815, 816, 817, 818, 819, 820, 821, 822] (by decide +kernel) (by decide +kernel)
set_option maxRecDepth 20000 in
theorem gL_law_X10_holds : GoodIn wsL_law (wsV RL 81 RX10 yX10_holds wsX10_holds) := goodIn_app (goodIn_of _ (by decide +kernel)) ggL_law_X10_holds
set_option maxRecDepth 20000 in
theorem ggL_law_X9_spades : GoodIn wsL_law wsX9_spades := goodIn_r _ [682, 19, 683, 790, 791, 792, 793, 794, 826, 827, 828, 829, 830, 831] (by decide +kernel) (by decide +kernel)
set_option maxRecDepth 20000 in
theorem gL_law_X9_spades : GoodIn wsL_law (wsV RL 82 RX9 yX9_spades wsX9_spades) := goodIn_app (goodIn_of _ (by decide +kernel)) ggL_law_X9_spades
set_option maxRecDepth 20000 in
theorem ggL_law_X10_spades : GoodIn wsL_law wsX10_spades := goodIn_r _ [687, 79, 55, 80, 81, 5, 82, 795, 796, 797, 798, 799, 800, 801, 802, 803, 804, 805, 806, 807, 808, 809, 810, 811, 812, 813, 814, 815, 816, 817, 818, 819, 820, 821, 822] (by decide +kernel) (by decide +kernel)
set_option maxRecDepth 20000 in
theorem gL_law_X10_spades : GoodIn wsL_law (wsV RL 85 RX10 yX10_spades wsX10_spades) := goodIn_app (goodIn_of _ (by decide +kernel)) ggL_law_X10_spades
set_option maxRecDepth 20000 in
theorem ggL_law_X9_land : GoodIn wsL_law wsX9_land := goodIn_r _ [691, 19, 73, 212, 213, 214, 2, 215, 71, 227, 186, 183, 187, 188, 189, 190, 191, 192, 193, 194, 228, 229, 142, 230, 144, 790, 791, 792, 793, 794, 826, 827, 828, 829, 830, 831] (by decide +kernel) (by decide +kernel)
set_option maxRecDepth 20000 in
theorem gL_law_X9_land : GoodIn wsL_law (wsV RL 86 RX9 yX9_land wsX9_land) := goodIn_app (goodIn_of _ (by decide +kernel)) ggL_law_X9_land
set_option maxRecDepth 20000 in
theorem ggL_law_X10_land : GoodIn wsL_law wsX10_land := goodIn_r _ [695, 62, 235, 236, 237, 5, 238, 60, 80, 81, 82, 243, 244, 245, 246, 40, 247, 248, 249, 795, 796, 797, 798, 799, 800, 801, 802, 803, 804, 805, 806, 807, 808, 809, 810, 811, 812, 813, 814, 815, 816, 817, 818, 819, 820, 821, 822] (by decide +kernel) (by decide +kernel)
set_option maxRecDepth 20000 in
theorem gL_law_X10_land : GoodIn wsL_law (wsV RL 89 RX10 yX10_land wsX10_land) := goodIn_app (goodIn_of _ (by decide +kernel)) ggL_law_X10_land
set_option maxRecDepth 20000 in
theorem ggL_law_X9_years : GoodIn wsL_law wsX9_years := goodIn_r _ [699, 19, 73, 683, 700, 609, 610, 611, 174, 175, 2, 176, 216, 217, 218, 219, 72, 220, 221, 222, 223, 224, 225, 18, 226, 32, 701, 702, 183, 703, 185, 186, 187, 188, 189, 190, 191, 192, 193, 194, 790, 791, 792, 793, 794, 826, 827, 828, 829, 830, 831] (by decide +kernel) (by decide +kernel)
set_option maxRecDepth 20000 in
theorem gL_law_X9_years : GoodIn wsL_law (wsV RL 90 RX9 yX9_years wsX9_years) := goodIn_app (goodIn_of _ (by decide +kernel)) ggL_law_X9_years
set_option maxRecDepth 20000 in
theorem ggL_law_X10_years : GoodIn wsL_law wsX10_years := goodIn_r _ [707, 62, 38, 55, 204, 205, 5, 206, 207, 80, 81, 82, 239, 240, 241, 242, 61, 708, 709, 710, 711, 60, 243, 244, 245, 246, 40, 795, 796, 797, 798, 799, 800, 801, 802, 803, 804, 805, 806, 807, 808, 809, 810, 811, 812, 813, 814, 815, 816, 817, 818, 819, 820, 821, 822] (by decide +kernel) (by decide +kernel)
set_option maxRecDepth 20000 in
theorem gL_law_X10_years : GoodIn wsL_law (wsV RL 93 RX10 yX10_years wsX10_years) := goodIn_app (goodIn_of _ (by decide +kernel)) ggL_law_X10_years
set_option maxRecDepth 20000 in
theorem ggL_law_X9_follow : GoodIn wsL_law wsX9_follow := goodIn_r _ [715, 19, 683, 71, 73, 174, 175, 2, 176, 216, 217, 218, 219, 72, 220, 221, 222, 223, 224, 225, 18, 226, 32, 227, 186, 183, 187, 188, 189, 190, 191, 192, 193, 194, 716, 182, 184, 185, 701, 702, 703, 790, 791, 792, 793, 794, 826, 827, 828, 829, 830, 831] (by decide +kernel) (by decide +kernel)
set_option maxRecDepth 20000 in
theorem gL_law_X9_follow : GoodIn wsL_law (wsV RL 94 RX9 yX9_follow wsX9_follow) := goodIn_app (goodIn_of _ (by decide +kernel)) ggL_law_X9_follow
set_option maxRecDepth 20000 in
theorem ggL_law_X10_follow : GoodIn wsL_law wsX10_follow := goodIn_r _ [720, 489, 55, 60, 38, 62, 204, 205, 5, 206, 207, 80, 81, 82, 239, 240, 241, 242, 61, 243, 244, 245, 246, 40, 311, 312, 313, 314, 708, 709, 710, 711, 795, 796, 797, 798, 799, 800, 801, 802, 803, 804, 805, 806, 807, 808, 809, 810, 811, 812, 813, 814, 815, 816, 817, 818, 819, 820, 821, 822] (by decide +kernel) (by decide +kernel)
set_option maxRecDepth 20000 in
theorem gL_law_X10_follow : GoodIn wsL_law (wsV RL 97 RX10 yX10_follow wsX10_follow) := goodIn_app (goodIn_of _ (by decide +kernel)) ggL_law_X10_follow
set_option maxRecDepth 20000 in
theorem ggL_law_X9_drawn : GoodIn wsL_law wsX9_drawn := goodIn_r _ [724, 19, 725, 174, 175, 2, 176, 254, 255, 256, 212, 213, 214, 215, 71, 216, 217, 218, 219, 72, 220, 221, 222, 223, 224, 225, 18, 226, 32, 257, 258, 259, 260, 33, 726, 727, 728, 729, 432, 433, 134, 434, 435, 730, 731, 732, 733, 436, 437, 438, 439, 133, 135, 293, 294, 295, 296, 186, 183, 187, 188, 189, 190, 191, 192, 193, 194, 297, 182, 184, 185, 701, 702, 703, 227, 228, 229, 142, 230, 144, 790, 791, 792, 793, 794, 826, 827, 828, 829, 830, 831] (by decide +kernel) (by decide +kernel)
set_option maxRecDepth 20000 in
theorem gL_law_X9_drawn : GoodIn wsL_law (wsV RL 98 RX9 yX9_drawn wsX9_drawn) := goodIn_app (goodIn_of _ (by decide +kernel)) ggL_law_X9_drawn
set_option maxRecDepth 20000 in
theorem ggL_law_X10_drawn : GoodIn wsL_law wsX10_drawn := goodIn_r _ [737, 738, 739, 38, 740, 741, 742, 39, 306, 204, 205, 5, 206, 207, 80, 81, 82, 270, 271, 272, 273, 235, 236, 237, 238, 60, 239, 240, 241, 242, 61, 743, 744, 745, 746, 457, 458, 459, 460, 461, 462, 463, 464, 465, 466, 467, 307, 308, 309, 310, 243, 244, 245, 246, 40, 311, 312, 313, 314, 708, 709, 710, 711, 247, 248, 249, 795, 796, 797, 798, 799, 800, 801, 802, 803, 804, 805, 806, 807, 808, 809, 810, 811, 812, 813, 814, 815, 816, 817, 818, 819, 820, 821, 822] (by decide +kernel) (by decide +kernel)
set_option maxRecDepth 20000 in
theorem gL_law_X10_drawn : GoodIn wsL_law (wsV RL 102 RX10 yX10_drawn wsX10_drawn) := goodIn_app (goodIn_of _ (by decide +kernel)) ggL_law_X10_drawn
set_option maxRecDepth 20000 in
theorem ggL_law_X9_image : GoodIn wsL_law wsX9_image := goodIn_r _ [750, 20, 16, 17, 18, 19, 27, 28, 29, 10, 11, 30, 31, 24, 32, 33, 751, 752, 753, 754, 199, 755, 756, 224, 225, 226, 757, 258, 259, 260, 790, 791, 792, 793, 794, 826, 827, 828, 829, 830, 831] (by decide +kernel) (by decide +kernel)
set_option maxRecDepth 20000 in
theorem gL_law_X9_image : GoodIn wsL_law (wsV RL 103 RX9 yX9_image wsX9_image) := goodIn_app (goodIn_of _ (by decide +kernel)) ggL_law_X9_image
set_option maxRecDepth 20000 in
theorem ggL_law_X10_image : GoodIn wsL_law wsX10_image := goodIn_r _ [761, 762, 763, 54, 80, 81, 5, 82, 764, 765, 766, 767, 60, 61, 62, 55, 38, 39, 768, 769, 770, 771, 52, 63, 64, 65, 66, 40, 795, 796, 797, 798, 799, 800, 801, 802, 803, 804, 805, 806, 807, 808, 809, 810, 811, 812, 813, 814, 815, 816, 817, 818, 819, 820, 821, 822] (by decide +kernel) (by decide +kernel)
set_option maxRecDepth 20000 in
theorem gL_law_X10_image : GoodIn wsL_law (wsV RL 106 RX10 yX10_image wsX10_image) := goodIn_app (goodIn_of _ (by decide +kernel)) ggL_law_X10_image
set_option maxRecDepth 20000 in
theorem ggL_law_X9_restore : GoodIn wsL_law wsX9_restore := goodIn_r _ [775, 20, 19, 751, 752, 753, 18, 754, 30, 199, 31, 755, 32, 33, 756, 224, 225, 226, 757, 258, 259, 260, 790, 791, 792, 793, 794, 826, 827, 828, 829, 830, 831] (by decide +kernel) (by decide +kernel)
set_option maxRecDepth 20000 in
theorem gL_law_X9_restore : GoodIn wsL_law (wsV RL 107 RX9 yX9_restore wsX9_restore) := goodIn_app (goodIn_of _ (by decide +kernel)) ggL_law_X9_restore
set_option maxRecDepth 20000 in
theorem ggL_law_X10_restore : GoodIn wsL_law wsX10_restore := goodIn_r _ [779, 54, 762, 763, 80, 81, 5, 82, 764, 765, 766, 767, 60, 61, 62, 55, 38, 39, 768, 769, 770, 771, 52, 63, 64, 65, 66, 40, 795, 796, 797, 798, 799, 800, 801, 802, 803, 804, 805, 806, 807, 808, 809, 810, 811, 812, 813, 814, 815, 816, 817, 818, 819, 820, 821, 822] (by decide +kernel) (by decide +kernel)
set_option maxRecDepth 20000 in
theorem gL_law_X10_restore : GoodIn wsL_law (wsV RL 110 RX10 yX10_restore wsX10_restore) := goodIn_app (goodIn_of _ (by decide +kernel)) ggL_law_X10_restore
set_option maxRecDepth 20000 in
theorem ggL_law_X9_told : GoodIn wsL_law wsX9_told := goodIn_r _ [783, 19, 15, 87, 71, 72, 683, 254, 255, 2, 256, 257, 258, 259, 18, 260, 33, 790, 791, 792, 793, 794, 823, 824, 825, 826, 827, 828, 829, 830, 831] (by decide +kernel) (by decide +kernel)
set_option maxRecDepth 20000 in
theorem gL_law_X9_told : GoodIn wsL_law (wsV RL 111 RX9 yX9_told wsX9_told) := goodIn_app (goodIn_of _ (by decide +kernel)) ggL_law_X9_told
set_option maxRecDepth 20000 in
theorem ggL_law_X10_told : GoodIn wsL_law wsX10_told := goodIn_r _ [787, 788, 789, 39, 99, 60, 61, 55, 80, 81, 5, 82, 795, 796, 797, 798, 799, 800, 801, 802, 803, 804, 805, 806, 807, 808, 809, 810, 811, 812, 813, 814, 815, 816, 817, 818, 819, 820, 821, 822] (by decide +kernel) (by decide +kernel)
set_option maxRecDepth 20000 in
theorem gL_law_X10_told : GoodIn wsL_law (wsV RL 114 RX10 yX10_told wsX10_told) := goodIn_app (goodIn_of _ (by decide +kernel)) ggL_law_X10_told

set_option maxRecDepth 20000 in
theorem ggL_law_X9_init : GoodIn wsL_law wsX9_init := goodIn_r _ [8, 9, 10, 11, 12, 13, 14, 15, 16, 17, 18, 19, 20, 21, 22, 23, 24, 25, 26, 27, 28, 29, 30, 31, 32, 33, 823, 824, 825, 790, 791, 792, 793, 794, 826, 827, 828, 829, 830, 831] (by decide +kernel) (by decide +kernel)
set_option maxRecDepth 20000 in
theorem gL_law_X9_init : GoodIn wsL_law (wsX9_init) := ggL_law_X9_init
set_option maxRecDepth 20000 in
theorem ggL_law_X10_init : GoodIn wsL_law wsX10_init := goodIn_r _ [36, 37, 10, 11, 24, 38, 39, 40, 41, 42, 43, 44, 45, 46, 47, 48, 49, 50, 51, 52, 53, 54, 55, 56, 57, 58, 5, 59, 60, 61, 62, 63, 64, 65, 66, 795, 796, 797, 798, 799, 800, 801, 802, 803, 804, 805, 806, 807, 808, 809, 810, 811, 812, 813, 814, 815, 816, 817, 818, 819, 820, 821, 822] (by decide +kernel) (by decide +kernel)
set_option maxRecDepth 20000 in
theorem gL_law_X10_init : GoodIn wsL_law (wsX10_init) := ggL_law_X10_init
set_option maxRecDepth 20000 in
theorem ggL_law_X9_sites : GoodIn wsL_law wsX9_sites := goodIn_r _ [70, 19, 71, 72, 73, 790, 791, 792, 793, 794, 826, 827, 828, 829, 830, 831] (by decide +kernel) (by decide +kernel)
set_option maxRecDepth 20000 in
theorem gL_law_X9_sites : GoodIn wsL_law (wsV RL 13 RX9 yX9_sites wsX9_sites) := goodIn_app (goodIn_of _ (by decide +kernel)) ggL_law_X9_sites
set_option maxRecDepth 20000 in
theorem ggL_law_X10_sites : GoodIn wsL_law wsX10_sites := goodIn_r _ [77, 78, 79, 60, 80, 81, 5, 82, 56, 57, 58, 59, 61, 62, 38, 63, 64, 65, 66, 40, 795, 796, 797, 798, 799, 800, 801, 802, 803, 804, 805, 806, 807, 808, 809, 810, 811, 812, 813, 814, 815, 816, 817, 818, 819, 820, 821, 822] (by decide +kernel) (by decide +kernel)
set_option maxRecDepth 20000 in
theorem gL_law_X10_sites : GoodIn wsL_law (wsV RL 17 RX10 yX10_sites wsX10_sites) := goodIn_app (goodIn_of _ (by decide +kernel)) ggL_law_X10_sites
set_option maxRecDepth 20000 in
theorem ggL_law_X9_say : GoodIn wsL_law wsX9_say := goodIn_r _ [86, 15, 87, 88, 89, 90, 14, 91, 92, 25, 790, 791, 792, 793, 794, 823, 824, 825] (by decide +kernel) (by decide +kernel)
set_option maxRecDepth 20000 in
theorem gL_law_X9_say : GoodIn wsL_law (wsV RL 18 RX9 yX9_say wsX9_say) := goodIn_app (goodIn_of _ (by decide +kernel)) ggL_law_X9_say
set_option maxRecDepth 20000 in
theorem ggL_law_X10_say : GoodIn wsL_law wsX10_say := goodIn_r _ [96, 97, 98, 99, 41, 80, 81, 5, 82, 795, 796, 797, 798, 799, 800, 801, 802, 803, 804, 805, 806, 807, 808, 809, 810, 811, 812, 813, 814, 815, 816, 817, 818, 819, 820, 821, 822] (by decide +kernel) (by decide +kernel)
set_option maxRecDepth 20000 in
theorem gL_law_X10_say : GoodIn wsL_law (wsV RL 21 RX10 yX10_say wsX10_say) := goodIn_app (goodIn_of _ (by decide +kernel)) ggL_law_X10_say
set_option maxRecDepth 20000 in
theorem ggL_law_X9_wipe : GoodIn wsL_law wsX9_wipe := goodIn_r _ [103, 15, 87, 790, 791, 792, 793, 794, 823, 824, 825] (by decide +kernel) (by decide +kernel)
set_option maxRecDepth 20000 in
theorem gL_law_X9_wipe : GoodIn wsL_law (wsV RL 22 RX9 yX9_wipe wsX9_wipe) := goodIn_app (goodIn_of _ (by decide +kernel)) ggL_law_X9_wipe
set_option maxRecDepth 20000 in
theorem ggL_law_X10_wipe : GoodIn wsL_law wsX10_wipe := goodIn_r _ [107, 99, 795, 796, 797, 798, 799, 800, 801, 802, 803, 804, 805, 806, 807, 808, 809, 810, 811, 812, 813, 814, 815, 816, 817, 818, 819, 820, 821, 822] (by decide +kernel) (by decide +kernel)
set_option maxRecDepth 20000 in
theorem gL_law_X10_wipe : GoodIn wsL_law (wsV RL 26 RX10 yX10_wipe wsX10_wipe) := goodIn_app (goodIn_of _ (by decide +kernel)) ggL_law_X10_wipe
set_option maxRecDepth 20000 in
theorem ggL_law_X9_fault : GoodIn wsL_law wsX9_fault := goodIn_r _ [111, 15, 19, 71, 112, 113, 114, 14, 115, 92, 116, 117, 118, 119, 120, 121, 122, 123, 124, 125, 126, 127, 128, 129, 130, 131, 25, 132, 133, 134, 135, 136, 137, 138, 139, 140, 141, 142, 143, 144, 145, 146, 147, 148, 790, 791, 792, 793, 794, 826, 827, 828, 829, 830, 831, 823, 824, 825] (by decide +kernel) (by decide +kernel)
set_option maxRecDepth 20000 in
theorem gL_law_X9_fault : GoodIn wsL_law (wsV RL 27 RX9 yX9_fault wsX9_fault) := goodIn_app (goodIn_of _ (by decide +kernel)) ggL_law_X9_fault
set_option maxRecDepth 20000 in
theorem ggL_law_X10_fault : GoodIn wsL_law wsX10_fault := goodIn_r _ [152, 153, 154, 155, 5, 156, 99, 41, 60, 157, 158, 159, 160, 161, 80, 81, 82, 162, 163, 164, 165, 166, 42, 167, 168, 169, 795, 796, 797, 798, 799, 800, 801, 802, 803, 804, 805, 806, 807, 808, 809, 810, 811, 812, 813, 814, 815, 816, 817, 818, 819, 820, 821, 822] (by decide +kernel) (by decide +kernel)
set_option maxRecDepth 20000 in
theorem gL_law_X10_fault : GoodIn wsL_law (wsV RL 30 RX10 yX10_fault wsX10_fault) := goodIn_app (goodIn_of _ (by decide +kernel)) ggL_law_X10_fault
set_option maxRecDepth 20000 in
theorem ggL_law_X9_map : GoodIn wsL_law wsX9_map := goodIn_r _ [173, 15, 19, 71, 87, 174, 175, 2, 176, 112, 113, 114, 14, 115, 92, 116, 117, 118, 119, 120, 121, 122, 123, 124, 125, 126, 127, 128, 129, 130, 131, 25, 132, 133, 134, 135, 136, 137, 138, 139, 140, 141, 142, 143, 144, 145, 146, 147, 148, 177, 178, 179, 180, 181, 182, 183, 184, 185, 186, 187, 188, 189, 190, 191, 192, 193, 194, 195, 196, 197, 18, 198, 32, 199, 790, 791, 792, 793, 794, 826, 827, 828, 829, 830, 831, 823, 824, 825] (by decide +kernel) (by decide +kernel)
set_option maxRecDepth 20000 in
theorem gL_law_X9_map : GoodIn wsL_law (wsV RL 31 RX9 yX9_map wsX9_map) := goodIn_app (goodIn_of _ (by decide +kernel)) ggL_law_X9_map
set_option maxRecDepth 20000 in
theorem ggL_law_X10_map : GoodIn wsL_law wsX10_map := goodIn_r _ [203, 60, 41, 38, 61, 99, 204, 205, 5, 206, 207, 80, 81, 82, 153, 154, 155, 156, 157, 158, 159, 160, 161, 795, 796, 797, 798, 799, 800, 801, 802, 803, 804, 805, 806, 807, 808, 809, 810, 811, 812, 813, 814, 815, 816, 817, 818, 819, 820, 821, 822] (by decide +kernel) (by decide +kernel)
set_option maxRecDepth 20000 in
theorem gL_law_X10_map : GoodIn wsL_law (wsV RL 34 RX10 yX10_map wsX10_map) := goodIn_app (goodIn_of _ (by decide +kernel)) ggL_law_X10_map
set_option maxRecDepth 20000 in
theorem ggL_law_X9_at : GoodIn wsL_law wsX9_at := goodIn_r _ [211, 19, 174, 175, 2, 176, 212, 213, 214, 215, 71, 216, 217, 218, 219, 72, 220, 221, 222, 223, 224, 225, 18, 226, 32, 227, 186, 183, 187, 188, 189, 190, 191, 192, 193, 194, 228, 229, 142, 230, 144, 790, 791, 792, 793, 794, 826, 827, 828, 829, 830, 831] (by decide +kernel) (by decide +kernel)
set_option maxRecDepth 20000 in
theorem gL_law_X9_at : GoodIn wsL_law (wsV RL 35 RX9 yX9_at wsX9_at) := goodIn_app (goodIn_of _ (by decide +kernel)) ggL_law_X9_at
set_option maxRecDepth 20000 in
theorem ggL_law_X10_at : GoodIn wsL_law wsX10_at := goodIn_r _ [234, 38, 204, 205, 5, 206, 207, 80, 81, 82, 235, 236, 237, 238, 60, 239, 240, 241, 242, 61, 243, 244, 245, 246, 40, 247, 248, 249, 795, 796, 797, 798, 799, 800, 801, 802, 803, 804, 805, 806, 807, 808, 809, 810, 811, 812, 813, 814, 815, 816, 817, 818, 819, 820, 821, 822] (by decide +kernel) (by decide +kernel)
set_option maxRecDepth 20000 in
theorem gL_law_X10_at : GoodIn wsL_law (wsV RL 39 RX10 yX10_at wsX10_at) := goodIn_app (goodIn_of _ (by decide +kernel)) ggL_law_X10_at
set_option maxRecDepth 20000 in
theorem ggL_law_X9_hand : GoodIn wsL_law wsX9_hand := goodIn_r _ [253, 19, 254, 255, 2, 256, 257, 258, 259, 18, 260, 33, 261, 262, 263, 264, 790, 791, 792, 793, 794, 826, 827, 828, 829, 830, 831] (by decide +kernel) (by decide +kernel)
set_option maxRecDepth 20000 in
theorem gL_law_X9_hand : GoodIn wsL_law (wsV RL 40 RX9 yX9_hand wsX9_hand) := goodIn_app (goodIn_of _ (by decide +kernel)) ggL_law_X9_hand
set_option maxRecDepth 20000 in
theorem ggL_law_X10_hand : GoodIn wsL_law wsX10_hand := goodIn_r _ [268, 269, 39, 270, 271, 5, 272, 273, 80, 81, 82, 795, 796, 797, 798, 799, 800, 801, 802, 803, 804, 805, 806, 807, 808, 809, 810, 811, 812, 813, 814, 815, 816, 817, 818, 819, 820, 821, 822] (by decide +kernel) (by decide +kernel)
set_option maxRecDepth 20000 in
theorem gL_law_X10_hand : GoodIn wsL_law (wsV RL 43 RX10 yX10_hand wsX10_hand) := goodIn_app (goodIn_of _ (by decide +kernel)) ggL_law_X10_hand
set_option maxRecDepth 20000 in
theorem ggL_law_X9_judge : GoodIn wsL_law wsX9_judge := goodIn_r _ [277, 15, 19, 71, 174, 175, 2, 176, 216, 217, 218, 219, 72, 220, 221, 222, 112, 113, 114, 14, 115, 92, 116, 117, 118, 119, 120, 121, 122, 123, 124, 125, 126, 127, 128, 129, 130, 131, 25, 132, 133, 134, 135, 136, 137, 138, 139, 140, 141, 142, 143, 144, 145, 146, 147, 148, 223, 224, 225, 18, 226, 32, 278, 279, 280, 281, 282, 283, 284, 285, 26, 286, 287, 288, 289, 290, 291, 292, 293, 294, 295, 296, 186, 183, 187, 188, 189, 190, 191, 192, 193, 194, 297, 182, 184, 185, 790, 791, 792, 793, 794, 826, 827, 828, 829, 830, 831, 823, 824, 825] (by decide +kernel) (by decide +kernel)
set_option maxRecDepth 20000 in
theorem gL_law_X9_judge : GoodIn wsL_law (wsV RL 44 RX9 yX9_judge wsX9_judge) := goodIn_app (goodIn_of _ (by decide +kernel)) ggL_law_X9_judge
set_option maxRecDepth 20000 in
theorem ggL_law_X10_judge : GoodIn wsL_law wsX10_judge := goodIn_r _ [301, 38, 204, 205, 5, 206, 207, 80, 81, 82, 239, 240, 241, 242, 61, 162, 163, 164, 165, 166, 99, 41, 60, 160, 161, 42, 167, 168, 169, 302, 303, 304, 305, 306, 307, 308, 309, 310, 243, 244, 245, 246, 40, 311, 312, 313, 314, 795, 796, 797, 798, 799, 800, 801, 802, 803, 804, 805, 806, 807, 808, 809, 810, 811, 812, 813, 814, 815, 816, 817, 818, 819, 820, 821, 822] (by decide +kernel) (by decide +kernel)
set_option maxRecDepth 20000 in
theorem gL_law_X10_judge : GoodIn wsL_law (wsV RL 47 RX10 yX10_judge wsX10_judge) := goodIn_app (goodIn_of _ (by decide +kernel)) ggL_law_X10_judge
set_option maxRecDepth 20000 in
theorem ggL_law_X9_copy : GoodIn wsL_law wsX9_copy := goodIn_r _ [318, 15, 19, 71, 87, 174, 175, 2, 176, 216, 217, 218, 219, 72, 220, 221, 222, 112, 113, 114, 14, 115, 92, 116, 117, 118, 119, 120, 121, 122, 123, 124, 125, 126, 127, 128, 129, 130, 131, 25, 132, 133, 134, 135, 136, 137, 138, 139, 140, 141, 142, 143, 144, 145, 146, 147, 148, 223, 224, 225, 18, 226, 32, 278, 279, 280, 281, 282, 283, 284, 285, 26, 286, 287, 288, 289, 290, 291, 292, 293, 294, 295, 296, 186, 183, 187, 188, 189, 190, 191, 192, 193, 194, 297, 182, 184, 185, 195, 196, 197, 198, 199, 790, 791, 792, 793, 794, 826, 827, 828, 829, 830, 831, 823, 824, 825] (by decide +kernel) (by decide +kernel)
set_option maxRecDepth 20000 in
theorem gL_law_X9_copy : GoodIn wsL_law (wsV RL 48 RX9 yX9_copy wsX9_copy) := goodIn_app (goodIn_of _ (by decide +kernel)) ggL_law_X9_copy
set_option maxRecDepth 20000 in
theorem ggL_law_X10_copy : GoodIn wsL_law wsX10_copy := goodIn_r _ [322, 38, 306, 61, 99, 166, 204, 205, 5, 206, 207, 80, 81, 82, 239, 240, 241, 242, 162, 163, 164, 165, 41, 60, 160, 161, 42, 167, 168, 169, 302, 303, 304, 305, 307, 308, 309, 310, 243, 244, 245, 246, 40, 311, 312, 313, 314, 795, 796, 797, 798, 799, 800, 801, 802, 803, 804, 805, 806, 807, 808, 809, 810, 811, 812, 813, 814, 815, 816, 817, 818, 819, 820, 821, 822] (by decide +kernel) (by decide +kernel)
set_option maxRecDepth 20000 in
theorem gL_law_X10_copy : GoodIn wsL_law (wsV RL 51 RX10 yX10_copy wsX10_copy) := goodIn_app (goodIn_of _ (by decide +kernel)) ggL_law_X10_copy
set_option maxRecDepth 20000 in
theorem ggL_law_X9_far : GoodIn wsL_law wsX9_far := goodIn_r _ [326, 19, 174, 175, 2, 176, 254, 255, 256, 216, 217, 218, 219, 72, 220, 221, 222, 327, 328, 329, 330, 71, 223, 224, 225, 18, 226, 32, 331, 332, 333, 334, 335, 186, 183, 187, 188, 189, 190, 191, 192, 193, 194, 336, 337, 338, 339, 340, 341, 342, 343, 344, 345, 346, 347, 348, 349, 10, 11, 350, 351, 24, 352, 257, 258, 259, 260, 33, 353, 354, 355, 356, 357, 358, 359, 360, 361, 362, 363, 364, 365, 366, 367, 368, 369, 370, 371, 372, 373, 374, 375, 376, 377, 378, 379, 380, 381, 382, 383, 384, 385, 386, 387, 388, 389, 390, 391, 392, 393, 394, 395, 396, 397, 398, 399, 400, 401, 402, 403, 404, 405, 406, 407, 408, 409, 410, 411, 412, 413, 414, 415, 416, 417, 418, 419, 420, 421, 422, 423, 424, 425, 426, 427, 428, 429, 430, 431, 432, 433, 134, 434, 435, 436, 437, 438, 439, 133, 135, 293, 294, 295, 296, 297, 182, 184, 185, 790, 791, 792, 793, 794, 826, 827, 828, 829, 830, 831, 832, 833, 834, 835, 836, 837, 838, 839, 840, 841] (by decide +kernel) (by decide +kernel)
set_option maxRecDepth 20000 in
theorem gL_law_X9_far : GoodIn wsL_law (wsV RL 52 RX9 yX9_far wsX9_far) := goodIn_app (goodIn_of _ (by decide +kernel)) ggL_law_X9_far
set_option maxRecDepth 20000 in
theorem ggL_law_X10_far : GoodIn wsL_law wsX10_far := goodIn_r _ [443, 38, 39, 204, 205, 5, 206, 207, 80, 81, 82, 270, 271, 272, 273, 239, 240, 241, 242, 61, 444, 445, 446, 447, 44, 448, 449, 450, 451, 43, 452, 45, 46, 453, 454, 455, 456, 40, 457, 458, 459, 460, 60, 461, 462, 463, 464, 465, 466, 467, 307, 308, 309, 310, 243, 244, 245, 246, 311, 312, 313, 314, 468, 469, 470, 471, 795, 796, 797, 798, 799, 800, 801, 802, 803, 804, 805, 806, 807, 808, 809, 810, 811, 812, 813, 814, 815, 816, 817, 818, 819, 820, 821, 822] (by decide +kernel) (by decide +kernel)
set_option maxRecDepth 20000 in
theorem gL_law_X10_far : GoodIn wsL_law (wsV RL 56 RX10 yX10_far wsX10_far) := goodIn_app (goodIn_of _ (by decide +kernel)) ggL_law_X10_far
set_option maxRecDepth 20000 in
theorem ggL_law_X9_who : GoodIn wsL_law wsX9_who := goodIn_r _ [475, 19, 174, 175, 2, 176, 216, 217, 218, 219, 72, 220, 221, 222, 327, 328, 329, 330, 71, 223, 224, 225, 18, 226, 32, 331, 332, 333, 334, 335, 186, 183, 187, 188, 189, 190, 191, 192, 193, 194, 336, 337, 338, 339, 340, 341, 342, 343, 344, 345, 346, 347, 348, 349, 10, 11, 350, 351, 24, 352, 257, 258, 259, 260, 33, 353, 354, 355, 356, 357, 358, 359, 360, 361, 362, 363, 364, 365, 366, 367, 368, 369, 370, 371, 372, 373, 374, 375, 376, 377, 378, 379, 380, 381, 382, 383, 384, 385, 386, 387, 388, 389, 390, 391, 392, 393, 394, 395, 396, 397, 398, 403, 404, 405, 406, 407, 408, 409, 410, 411, 412, 413, 414, 415, 416, 417, 418, 419, 420, 421, 422, 423, 424, 425, 426, 790, 791, 792, 793, 794, 826, 827, 828, 829, 830, 831, 832, 833, 834, 835, 836, 837, 838, 839, 840, 841] (by decide +kernel) (by decide +kernel)
set_option maxRecDepth 20000 in
theorem gL_law_X9_who : GoodIn wsL_law (wsV RL 57 RX9 yX9_who wsX9_who) := goodIn_app (goodIn_of _ (by decide +kernel)) ggL_law_X9_who
set_option maxRecDepth 20000 in
theorem ggL_law_X10_who : GoodIn wsL_law wsX10_who := goodIn_r _ [479, 480, 38, 39, 204, 205, 5, 206, 207, 80, 81, 82, 239, 240, 241, 242, 61, 444, 445, 446, 447, 44, 448, 449, 450, 451, 43, 452, 45, 46, 453, 454, 455, 456, 40, 457, 458, 459, 460, 60, 461, 462, 463, 464, 465, 466, 467, 307, 308, 309, 310, 243, 244, 245, 246, 311, 312, 313, 314, 795, 796, 797, 798, 799, 800, 801, 802, 803, 804, 805, 806, 807, 808, 809, 810, 811, 812, 813, 814, 815, 816, 817, 818, 819, 820, 821, 822] (by decide +kernel) (by decide +kernel)
set_option maxRecDepth 20000 in
theorem gL_law_X10_who : GoodIn wsL_law (wsV RL 61 RX10 yX10_who wsX10_who) := goodIn_app (goodIn_of _ (by decide +kernel)) ggL_law_X10_who
set_option maxRecDepth 20000 in
theorem ggL_law_X9_between : GoodIn wsL_law wsX9_between := goodIn_r _ [484, 19, 174, 175, 2, 176, 254, 255, 256, 216, 217, 218, 219, 72, 220, 221, 222, 327, 328, 329, 330, 71, 223, 224, 225, 18, 226, 32, 331, 332, 333, 334, 335, 186, 183, 187, 188, 189, 190, 191, 192, 193, 194, 336, 337, 338, 339, 340, 341, 342, 343, 344, 345, 346, 347, 348, 349, 10, 11, 350, 351, 24, 352, 257, 258, 259, 260, 33, 353, 354, 355, 356, 357, 358, 359, 360, 361, 362, 363, 364, 365, 366, 367, 368, 369, 370, 371, 372, 373, 374, 375, 376, 377, 378, 379, 380, 381, 382, 383, 384, 385, 386, 387, 388, 389, 390, 391, 392, 393, 394, 395, 396, 397, 398, 403, 404, 405, 406, 407, 408, 409, 410, 411, 412, 413, 414, 415, 416, 417, 418, 419, 420, 421, 422, 423, 424, 425, 426, 790, 791, 792, 793, 794, 826, 827, 828, 829, 830, 831, 832, 833, 834, 835, 836, 837, 838, 839, 840, 841] (by decide +kernel) (by decide +kernel)
set_option maxRecDepth 20000 in
theorem gL_law_X9_between : GoodIn wsL_law (wsV RL 62 RX9 yX9_between wsX9_between) := goodIn_app (goodIn_of _ (by decide +kernel)) ggL_law_X9_between
set_option maxRecDepth 20000 in
theorem ggL_law_X10_between : GoodIn wsL_law wsX10_between := goodIn_r _ [488, 489, 38, 39, 204, 205, 5, 206, 207, 80, 81, 82, 270, 271, 272, 273, 239, 240, 241, 242, 61, 444, 445, 446, 447, 44, 448, 449, 450, 451, 43, 452, 45, 46, 453, 454, 455, 456, 40, 457, 458, 459, 460, 60, 461, 462, 463, 464, 465, 466, 467, 307, 308, 309, 310, 243, 244, 245, 246, 311, 312, 313, 314, 795, 796, 797, 798, 799, 800, 801, 802, 803, 804, 805, 806, 807, 808, 809, 810, 811, 812, 813, 814, 815, 816, 817, 818, 819, 820, 821, 822] (by decide +kernel) (by decide +kernel)
set_option maxRecDepth 20000 in
theorem gL_law_X10_between : GoodIn wsL_law (wsV RL 65 RX10 yX10_between wsX10_between) := goodIn_app (goodIn_of _ (by decide +kernel)) ggL_law_X10_between

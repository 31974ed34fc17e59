theorem dJ6_bitCount_0f7a4_0 : decode cJ6_bitCount_0f7a4 0 = .ok (.iload_n 0, 1) := by decide +kernel
theorem dJ6_bitCount_0f7a4_1 : decode cJ6_bitCount_0f7a4 1 = .ok (.iload_n 0, 1) := by decide +kernel
theorem dJ6_bitCount_0f7a4_2 : decode cJ6_bitCount_0f7a4 2 = .ok (.iconst 1, 1) := by decide +kernel
theorem dJ6_bitCount_0f7a4_3 : decode cJ6_bitCount_0f7a4 3 = .ok (.iushr, 1) := by decide +kernel
theorem dJ6_bitCount_0f7a4_4 : decode cJ6_bitCount_0f7a4 4 = .ok (.ldc_w 265, 3) := by decide +kernel
theorem dJ6_bitCount_0f7a4_7 : decode cJ6_bitCount_0f7a4 7 = .ok (.iand, 1) := by decide +kernel
theorem dJ6_bitCount_0f7a4_8 : decode cJ6_bitCount_0f7a4 8 = .ok (.isub, 1) := by decide +kernel
theorem dJ6_bitCount_0f7a4_9 : decode cJ6_bitCount_0f7a4 9 = .ok (.istore_n 0, 1) := by decide +kernel
theorem dJ6_bitCount_0f7a4_10 : decode cJ6_bitCount_0f7a4 10 = .ok (.iload_n 0, 1) := by decide +kernel
theorem dJ6_bitCount_0f7a4_11 : decode cJ6_bitCount_0f7a4 11 = .ok (.ldc_w 266, 3) := by decide +kernel
theorem dJ6_bitCount_0f7a4_14 : decode cJ6_bitCount_0f7a4 14 = .ok (.iand, 1) := by decide +kernel
theorem dJ6_bitCount_0f7a4_15 : decode cJ6_bitCount_0f7a4 15 = .ok (.iload_n 0, 1) := by decide +kernel
theorem dJ6_bitCount_0f7a4_16 : decode cJ6_bitCount_0f7a4 16 = .ok (.iconst 2, 1) := by decide +kernel
theorem dJ6_bitCount_0f7a4_17 : decode cJ6_bitCount_0f7a4 17 = .ok (.iushr, 1) := by decide +kernel
theorem dJ6_bitCount_0f7a4_18 : decode cJ6_bitCount_0f7a4 18 = .ok (.ldc_w 266, 3) := by decide +kernel
theorem dJ6_bitCount_0f7a4_21 : decode cJ6_bitCount_0f7a4 21 = .ok (.iand, 1) := by decide +kernel
theorem dJ6_bitCount_0f7a4_22 : decode cJ6_bitCount_0f7a4 22 = .ok (.iadd, 1) := by decide +kernel
theorem dJ6_bitCount_0f7a4_23 : decode cJ6_bitCount_0f7a4 23 = .ok (.istore_n 0, 1) := by decide +kernel
theorem dJ6_bitCount_0f7a4_24 : decode cJ6_bitCount_0f7a4 24 = .ok (.iload_n 0, 1) := by decide +kernel
theorem dJ6_bitCount_0f7a4_25 : decode cJ6_bitCount_0f7a4 25 = .ok (.iload_n 0, 1) := by decide +kernel
theorem dJ6_bitCount_0f7a4_26 : decode cJ6_bitCount_0f7a4 26 = .ok (.iconst 4, 1) := by decide +kernel
theorem dJ6_bitCount_0f7a4_27 : decode cJ6_bitCount_0f7a4 27 = .ok (.iushr, 1) := by decide +kernel
theorem dJ6_bitCount_0f7a4_28 : decode cJ6_bitCount_0f7a4 28 = .ok (.iadd, 1) := by decide +kernel
theorem dJ6_bitCount_0f7a4_29 : decode cJ6_bitCount_0f7a4 29 = .ok (.ldc_w 267, 3) := by decide +kernel
theorem dJ6_bitCount_0f7a4_32 : decode cJ6_bitCount_0f7a4 32 = .ok (.iand, 1) := by decide +kernel
theorem dJ6_bitCount_0f7a4_33 : decode cJ6_bitCount_0f7a4 33 = .ok (.istore_n 0, 1) := by decide +kernel
theorem dJ6_bitCount_0f7a4_34 : decode cJ6_bitCount_0f7a4 34 = .ok (.iload_n 0, 1) := by decide +kernel
theorem dJ6_bitCount_0f7a4_35 : decode cJ6_bitCount_0f7a4 35 = .ok (.iload_n 0, 1) := by decide +kernel
theorem dJ6_bitCount_0f7a4_36 : decode cJ6_bitCount_0f7a4 36 = .ok (.bipush 8, 2) := by decide +kernel
theorem dJ6_bitCount_0f7a4_38 : decode cJ6_bitCount_0f7a4 38 = .ok (.iushr, 1) := by decide +kernel
theorem dJ6_bitCount_0f7a4_39 : decode cJ6_bitCount_0f7a4 39 = .ok (.iadd, 1) := by decide +kernel
theorem dJ6_bitCount_0f7a4_40 : decode cJ6_bitCount_0f7a4 40 = .ok (.istore_n 0, 1) := by decide +kernel
theorem dJ6_bitCount_0f7a4_41 : decode cJ6_bitCount_0f7a4 41 = .ok (.iload_n 0, 1) := by decide +kernel
theorem dJ6_bitCount_0f7a4_42 : decode cJ6_bitCount_0f7a4 42 = .ok (.iload_n 0, 1) := by decide +kernel
theorem dJ6_bitCount_0f7a4_43 : decode cJ6_bitCount_0f7a4 43 = .ok (.bipush 16, 2) := by decide +kernel
theorem dJ6_bitCount_0f7a4_45 : decode cJ6_bitCount_0f7a4 45 = .ok (.iushr, 1) := by decide +kernel
theorem dJ6_bitCount_0f7a4_46 : decode cJ6_bitCount_0f7a4 46 = .ok (.iadd, 1) := by decide +kernel
theorem dJ6_bitCount_0f7a4_47 : decode cJ6_bitCount_0f7a4 47 = .ok (.istore_n 0, 1) := by decide +kernel
theorem dJ6_bitCount_0f7a4_48 : decode cJ6_bitCount_0f7a4 48 = .ok (.iload_n 0, 1) := by decide +kernel
theorem dJ6_bitCount_0f7a4_49 : decode cJ6_bitCount_0f7a4 49 = .ok (.bipush 63, 2) := by decide +kernel
theorem dJ6_bitCount_0f7a4_51 : decode cJ6_bitCount_0f7a4 51 = .ok (.iand, 1) := by decide +kernel
theorem dJ6_bitCount_0f7a4_52 : decode cJ6_bitCount_0f7a4 52 = .ok (.ireturn, 1) := by decide +kernel
theorem dJ9_max_7cf53_0 : decode cJ9_max_7cf53 0 = .ok (.iload_n 0, 1) := by decide +kernel
theorem dJ9_max_7cf53_1 : decode cJ9_max_7cf53 1 = .ok (.iload_n 1, 1) := by decide +kernel
theorem dJ9_max_7cf53_2 : decode cJ9_max_7cf53 2 = .ok (.if_icmp .lt 7, 3) := by decide +kernel
theorem dJ9_max_7cf53_5 : decode cJ9_max_7cf53 5 = .ok (.iload_n 0, 1) := by decide +kernel
theorem dJ9_max_7cf53_6 : decode cJ9_max_7cf53 6 = .ok (.goto 4, 3) := by decide +kernel
theorem dJ9_max_7cf53_9 : decode cJ9_max_7cf53 9 = .ok (.iload_n 1, 1) := by decide +kernel
theorem dJ9_max_7cf53_10 : decode cJ9_max_7cf53 10 = .ok (.ireturn, 1) := by decide +kernel
theorem dJ9_min_7cf53_0 : decode cJ9_min_7cf53 0 = .ok (.iload_n 0, 1) := by decide +kernel
theorem dJ9_min_7cf53_1 : decode cJ9_min_7cf53 1 = .ok (.iload_n 1, 1) := by decide +kernel
theorem dJ9_min_7cf53_2 : decode cJ9_min_7cf53 2 = .ok (.if_icmp .gt 7, 3) := by decide +kernel
theorem dJ9_min_7cf53_5 : decode cJ9_min_7cf53 5 = .ok (.iload_n 0, 1) := by decide +kernel
theorem dJ9_min_7cf53_6 : decode cJ9_min_7cf53 6 = .ok (.goto 4, 3) := by decide +kernel
theorem dJ9_min_7cf53_9 : decode cJ9_min_7cf53 9 = .ok (.iload_n 1, 1) := by decide +kernel
theorem dJ9_min_7cf53_10 : decode cJ9_min_7cf53 10 = .ok (.ireturn, 1) := by decide +kernel
set_option maxRecDepth 20000 in
theorem ggL_law_X5_init : GoodIn wsL_law wsX5_init := goodIn_r _ [8, 9, 10, 11, 12, 13, 14, 15, 16, 17, 18, 19, 20, 21, 22, 23, 24, 25, 26, 27, 28, 29, 30, 31, 32, 33, 34, 35, 36, 37, 38, 39, 40, 41, 42, 43, 44, 45, 46, 47, 48, 49, 50, 51, 52, 53, 54, 55, 56, 57, 58, 59, 60, 61, 62, 63, 64, 65, 66, 67, 68, 69, 70, 71, 72, 882, 883, 884, 885, 886, 887, 888, 889, 890, 891, 892, 839, 840, 841, 842, 843, 844, 845, 846, 847, 893, 894, 895, 896, 897, 898, 899, 900, 901, 902, 903, 904, 905, 906, 907, 908, 909] (by decide +kernel) (by decide +kernel)
set_option maxRecDepth 20000 in
theorem gL_law_X5_init : GoodIn wsL_law (wsX5_init) := ggL_law_X5_init
set_option maxRecDepth 20000 in
theorem ggL_law_X6_init : GoodIn wsL_law wsX6_init := goodIn_r _ [75, 76, 10, 11, 39, 77, 78, 79, 80, 81, 82, 83, 84, 85, 86, 87, 88, 89, 90, 91, 92, 93, 94, 71, 95, 96, 97, 98, 99, 848, 849, 850, 851, 852, 853, 854, 855, 856, 857, 858, 859, 860, 861, 862, 863, 864, 865, 866, 867, 868, 869, 870, 871, 872, 873, 874, 875, 876, 877, 878, 879, 880, 881] (by decide +kernel) (by decide +kernel)
set_option maxRecDepth 20000 in
theorem gL_law_X6_init : GoodIn wsL_law (wsX6_init) := ggL_law_X6_init
set_option maxRecDepth 20000 in
theorem ggL_law_X5_courtier : GoodIn wsL_law wsX5_courtier := goodIn_r _ [103, 104, 15, 105, 106, 107, 2, 108, 109, 110, 111, 14, 112, 113, 40, 41, 42, 43, 44, 114, 115, 116, 117, 118, 119, 120, 839, 840, 841, 842, 843, 844, 845, 846, 847, 882, 883, 884, 885, 886, 887, 888, 889, 890, 891, 892] (by decide +kernel) (by decide +kernel)
set_option maxRecDepth 20000 in
theorem gL_law_X5_courtier : GoodIn wsL_law (wsV RL 13 RX5 yX5_courtier wsX5_courtier) := goodIn_app (goodIn_of _ (by decide +kernel)) ggL_law_X5_courtier
set_option maxRecDepth 20000 in
theorem ggL_law_X6_courtier : GoodIn wsL_law wsX6_courtier := goodIn_r _ [124, 125, 126, 127, 77, 78, 79, 80, 128, 129, 5, 130, 131, 132, 133, 134, 135, 136, 848, 849, 850, 851, 852, 853, 854, 855, 856, 857, 858, 859, 860, 861, 862, 863, 864, 865, 866, 867, 868, 869, 870, 871, 872, 873, 874, 875, 876, 877, 878, 879, 880, 881] (by decide +kernel) (by decide +kernel)
set_option maxRecDepth 20000 in
theorem gL_law_X6_courtier : GoodIn wsL_law (wsV RL 17 RX6 yX6_courtier wsX6_courtier) := goodIn_app (goodIn_of _ (by decide +kernel)) ggL_law_X6_courtier
set_option maxRecDepth 20000 in
theorem ggL_law_X5_leave : GoodIn wsL_law wsX5_leave := goodIn_r _ [140, 15, 105, 141, 142, 143, 14, 144, 113, 145, 146, 147, 148, 40, 149, 114, 115, 116, 117, 118, 119, 120, 839, 840, 841, 842, 843, 844, 845, 846, 847, 882, 883, 884, 885, 886, 887, 888, 889, 890, 891, 892] (by decide +kernel) (by decide +kernel)
set_option maxRecDepth 20000 in
theorem gL_law_X5_leave : GoodIn wsL_law (wsV RL 18 RX5 yX5_leave wsX5_leave) := goodIn_app (goodIn_of _ (by decide +kernel)) ggL_law_X5_leave
set_option maxRecDepth 20000 in
theorem ggL_law_X6_leave : GoodIn wsL_law wsX6_leave := goodIn_r _ [153, 127, 154, 155, 156, 5, 157, 125, 128, 129, 130, 134, 135, 136, 848, 849, 850, 851, 852, 853, 854, 855, 856, 857, 858, 859, 860, 861, 862, 863, 864, 865, 866, 867, 868, 869, 870, 871, 872, 873, 874, 875, 876, 877, 878, 879, 880, 881] (by decide +kernel) (by decide +kernel)
set_option maxRecDepth 20000 in
theorem gL_law_X6_leave : GoodIn wsL_law (wsV RL 22 RX6 yX6_leave wsX6_leave) := goodIn_app (goodIn_of _ (by decide +kernel)) ggL_law_X6_leave
set_option maxRecDepth 20000 in
theorem ggL_law_X5_set : GoodIn wsL_law wsX5_set := goodIn_r _ [161, 15, 162, 163, 106, 107, 2, 108, 839, 840, 841, 842, 843, 844, 845, 846, 847, 882, 883, 884, 885, 886, 887, 888, 889, 890, 891, 892] (by decide +kernel) (by decide +kernel)
set_option maxRecDepth 20000 in
theorem gL_law_X5_set : GoodIn wsL_law (wsV RL 23 RX5 yX5_set wsX5_set) := goodIn_app (goodIn_of _ (by decide +kernel)) ggL_law_X5_set
set_option maxRecDepth 20000 in
theorem ggL_law_X6_set : GoodIn wsL_law wsX6_set := goodIn_r _ [167, 168, 169, 170, 99, 128, 129, 5, 130, 848, 849, 850, 851, 852, 853, 854, 855, 856, 857, 858, 859, 860, 861, 862, 863, 864, 865, 866, 867, 868, 869, 870, 871, 872, 873, 874, 875, 876, 877, 878, 879, 880, 881] (by decide +kernel) (by decide +kernel)
set_option maxRecDepth 20000 in
theorem gL_law_X6_set : GoodIn wsL_law (wsV RL 26 RX6 yX6_set wsX6_set) := goodIn_app (goodIn_of _ (by decide +kernel)) ggL_law_X6_set
set_option maxRecDepth 20000 in
theorem ggL_law_X5_say : GoodIn wsL_law wsX5_say := goodIn_r _ [174, 21, 175, 106, 107, 2, 108, 176, 177, 178, 20, 179, 180, 49, 839, 840, 841, 842, 843, 844, 845, 846, 847, 893, 894] (by decide +kernel) (by decide +kernel)
set_option maxRecDepth 20000 in
theorem gL_law_X5_say : GoodIn wsL_law (wsV RL 27 RX5 yX5_say wsX5_say) := goodIn_app (goodIn_of _ (by decide +kernel)) ggL_law_X5_say
set_option maxRecDepth 20000 in
theorem ggL_law_X6_say : GoodIn wsL_law wsX6_say := goodIn_r _ [184, 185, 186, 187, 83, 128, 129, 5, 130, 848, 849, 850, 851, 852, 853, 854, 855, 856, 857, 858, 859, 860, 861, 862, 863, 864, 865, 866, 867, 868, 869, 870, 871, 872, 873, 874, 875, 876, 877, 878, 879, 880, 881] (by decide +kernel) (by decide +kernel)
set_option maxRecDepth 20000 in
theorem gL_law_X6_say : GoodIn wsL_law (wsV RL 30 RX6 yX6_say wsX6_say) := goodIn_app (goodIn_of _ (by decide +kernel)) ggL_law_X6_say
set_option maxRecDepth 20000 in
theorem ggL_law_X5_wipe : GoodIn wsL_law wsX5_wipe := goodIn_r _ [191, 21, 175, 839, 840, 841, 842, 843, 844, 845, 846, 847, 893, 894] (by decide +kernel) (by decide +kernel)
set_option maxRecDepth 20000 in
theorem gL_law_X5_wipe : GoodIn wsL_law (wsV RL 31 RX5 yX5_wipe wsX5_wipe) := goodIn_app (goodIn_of _ (by decide +kernel)) ggL_law_X5_wipe
set_option maxRecDepth 20000 in
theorem ggL_law_X6_wipe : GoodIn wsL_law wsX6_wipe := goodIn_r _ [195, 187, 848, 849, 850, 851, 852, 853, 854, 855, 856, 857, 858, 859, 860, 861, 862, 863, 864, 865, 866, 867, 868, 869, 870, 871, 872, 873, 874, 875, 876, 877, 878, 879, 880, 881] (by decide +kernel) (by decide +kernel)
set_option maxRecDepth 20000 in
theorem gL_law_X6_wipe : GoodIn wsL_law (wsV RL 35 RX6 yX6_wipe wsX6_wipe) := goodIn_app (goodIn_of _ (by decide +kernel)) ggL_law_X6_wipe
set_option maxRecDepth 20000 in
theorem ggL_law_X5_fault : GoodIn wsL_law wsX5_fault := goodIn_r _ [199, 21, 200, 201, 202, 20, 203, 180, 204, 205, 206, 207, 49, 107, 2, 108, 208, 209, 210, 211, 212, 213, 214, 215, 216, 839, 840, 841, 842, 843, 844, 845, 846, 847, 893, 894] (by decide +kernel) (by decide +kernel)
set_option maxRecDepth 20000 in
theorem gL_law_X5_fault : GoodIn wsL_law (wsV RL 36 RX5 yX5_fault wsX5_fault) := goodIn_app (goodIn_of _ (by decide +kernel)) ggL_law_X5_fault
set_option maxRecDepth 20000 in
theorem ggL_law_X6_fault : GoodIn wsL_law wsX6_fault := goodIn_r _ [220, 221, 187, 83, 222, 223, 224, 5, 225, 87, 86, 226, 227, 228, 229, 84, 230, 231, 232, 233, 85, 234, 235, 236, 237, 238, 128, 129, 130, 239, 240, 241, 242, 243, 244, 245, 246, 848, 849, 850, 851, 852, 853, 854, 855, 856, 857, 858, 859, 860, 861, 862, 863, 864, 865, 866, 867, 868, 869, 870, 871, 872, 873, 874, 875, 876, 877, 878, 879, 880, 881] (by decide +kernel) (by decide +kernel)
set_option maxRecDepth 20000 in
theorem gL_law_X6_fault : GoodIn wsL_law (wsV RL 39 RX6 yX6_fault wsX6_fault) := goodIn_app (goodIn_of _ (by decide +kernel)) ggL_law_X6_fault
set_option maxRecDepth 20000 in
theorem ggL_law_X5_judge : GoodIn wsL_law wsX5_judge := goodIn_r _ [250, 25, 15, 21, 251, 252, 253, 106, 107, 2, 108, 254, 255, 256, 24, 257, 258, 259, 260, 261, 262, 201, 202, 20, 203, 180, 204, 205, 206, 207, 49, 208, 209, 210, 211, 212, 213, 214, 215, 216, 263, 264, 265, 266, 55, 267, 268, 269, 270, 14, 271, 113, 272, 38, 273, 274, 275, 40, 276, 277, 278, 279, 41, 42, 43, 44, 280, 281, 282, 283, 284, 285, 286, 287, 288, 149, 142, 143, 144, 289, 290, 291, 292, 293, 294, 295, 296, 297, 298, 299, 300, 301, 302, 303, 304, 305, 306, 307, 308, 309, 310, 311, 312, 313, 314, 315, 316, 317, 318, 319, 320, 321, 322, 323, 324, 325, 326, 327, 328, 329, 330, 331, 332, 56, 57, 333, 58, 334, 335, 336, 337, 338, 339, 340, 341, 342, 343, 344, 345, 346, 347, 348, 349, 350, 351, 352, 353, 354, 355, 356, 357, 358, 359, 360, 361, 839, 840, 841, 842, 843, 844, 845, 846, 847, 895, 896, 897, 898, 899, 900, 901, 902, 903, 893, 894, 882, 883, 884, 885, 886, 887, 888, 889, 890, 891, 892] (by decide +kernel) (by decide +kernel)
set_option maxRecDepth 20000 in
theorem gL_law_X5_judge : GoodIn wsL_law (wsV RL 40 RX5 yX5_judge wsX5_judge) := goodIn_app (goodIn_of _ (by decide +kernel)) ggL_law_X5_judge
set_option maxRecDepth 20000 in
theorem ggL_law_X6_judge : GoodIn wsL_law wsX6_judge := goodIn_r _ [365, 366, 367, 368, 369, 128, 129, 5, 130, 370, 371, 372, 373, 91, 92, 374, 218, 219, 220, 221, 187, 83, 222, 223, 224, 225, 87, 86, 226, 227, 228, 229, 84, 230, 231, 232, 233, 85, 234, 235, 236, 237, 238, 239, 240, 241, 242, 243, 244, 245, 246, 375, 376, 377, 378, 77, 78, 79, 80, 170, 379, 380, 381, 382, 383, 384, 385, 386, 387, 388, 389, 390, 391, 392, 393, 394, 395, 396, 154, 155, 156, 157, 125, 127, 397, 398, 399, 400, 131, 132, 133, 401, 402, 403, 404, 405, 406, 407, 408, 88, 89, 90, 99, 409, 410, 411, 412, 413, 414, 415, 416, 417, 418, 419, 420, 421, 422, 423, 424, 425, 426, 427, 428, 848, 849, 850, 851, 852, 853, 854, 855, 856, 857, 858, 859, 860, 861, 862, 863, 864, 865, 866, 867, 868, 869, 870, 871, 872, 873, 874, 875, 876, 877, 878, 879, 880, 881] (by decide +kernel) (by decide +kernel)
set_option maxRecDepth 20000 in
theorem gL_law_X6_judge : GoodIn wsL_law (wsV RL 43 RX6 yX6_judge wsX6_judge) := goodIn_app (goodIn_of _ (by decide +kernel)) ggL_law_X6_judge
set_option maxRecDepth 20000 in
theorem ggL_law_X5_behind : GoodIn wsL_law wsX5_behind := goodIn_r _ [432, 15, 25, 21, 433, 141, 142, 143, 14, 144, 113, 106, 107, 2, 108, 254, 255, 256, 24, 257, 258, 259, 260, 261, 262, 201, 202, 20, 203, 180, 204, 205, 206, 207, 49, 208, 209, 210, 211, 212, 213, 214, 215, 216, 263, 264, 265, 266, 55, 267, 268, 269, 270, 271, 272, 38, 273, 274, 275, 40, 276, 277, 278, 279, 41, 42, 43, 44, 280, 281, 282, 283, 284, 285, 286, 287, 288, 149, 289, 290, 291, 292, 293, 294, 295, 296, 297, 298, 299, 300, 301, 302, 303, 304, 305, 306, 307, 308, 309, 310, 311, 312, 313, 314, 315, 316, 317, 318, 319, 320, 321, 322, 323, 324, 325, 326, 327, 328, 329, 330, 331, 332, 56, 57, 333, 58, 334, 335, 336, 337, 338, 339, 340, 341, 342, 343, 344, 345, 346, 347, 348, 349, 350, 351, 352, 353, 354, 355, 356, 357, 358, 359, 360, 361, 434, 435, 436, 437, 438, 439, 440, 441, 839, 840, 841, 842, 843, 844, 845, 846, 847, 895, 896, 897, 898, 899, 900, 901, 902, 903, 882, 883, 884, 885, 886, 887, 888, 889, 890, 891, 892, 893, 894] (by decide +kernel) (by decide +kernel)
set_option maxRecDepth 20000 in
theorem gL_law_X5_behind : GoodIn wsL_law (wsV RL 44 RX5 yX5_behind wsX5_behind) := goodIn_app (goodIn_of _ (by decide +kernel)) ggL_law_X5_behind
set_option maxRecDepth 20000 in
theorem ggL_law_X6_behind : GoodIn wsL_law wsX6_behind := goodIn_r _ [445, 446, 92, 154, 155, 156, 5, 157, 125, 127, 128, 129, 130, 370, 371, 372, 373, 91, 367, 374, 218, 219, 220, 221, 187, 83, 222, 223, 224, 225, 87, 86, 226, 227, 228, 229, 84, 230, 231, 232, 233, 85, 234, 235, 236, 237, 238, 239, 240, 241, 242, 243, 244, 245, 246, 375, 376, 377, 378, 77, 78, 79, 80, 170, 379, 380, 381, 382, 368, 383, 384, 385, 386, 369, 387, 388, 389, 390, 391, 392, 393, 394, 395, 396, 397, 398, 399, 400, 131, 132, 133, 401, 402, 403, 404, 405, 406, 407, 408, 88, 89, 90, 99, 409, 410, 411, 412, 413, 414, 415, 416, 417, 418, 419, 420, 421, 422, 423, 424, 425, 426, 427, 428, 447, 448, 449, 450, 848, 849, 850, 851, 852, 853, 854, 855, 856, 857, 858, 859, 860, 861, 862, 863, 864, 865, 866, 867, 868, 869, 870, 871, 872, 873, 874, 875, 876, 877, 878, 879, 880, 881] (by decide +kernel) (by decide +kernel)
set_option maxRecDepth 20000 in
theorem gL_law_X6_behind : GoodIn wsL_law (wsV RL 47 RX6 yX6_behind wsX6_behind) := goodIn_app (goodIn_of _ (by decide +kernel)) ggL_law_X6_behind
set_option maxRecDepth 20000 in
theorem ggL_law_X5_wear : GoodIn wsL_law wsX5_wear := goodIn_r _ [454, 15, 25, 21, 433, 141, 142, 143, 14, 144, 113, 106, 107, 2, 108, 254, 255, 256, 24, 257, 258, 259, 260, 261, 262, 201, 202, 20, 203, 180, 204, 205, 206, 207, 49, 208, 209, 210, 211, 212, 213, 214, 215, 216, 263, 264, 265, 266, 55, 267, 268, 269, 270, 271, 272, 38, 273, 274, 275, 40, 276, 277, 278, 279, 41, 42, 43, 44, 280, 281, 282, 283, 284, 285, 286, 287, 288, 149, 289, 290, 291, 292, 293, 294, 295, 296, 297, 298, 299, 300, 301, 302, 303, 304, 305, 306, 307, 308, 309, 310, 311, 312, 313, 314, 315, 316, 317, 318, 319, 320, 321, 322, 323, 324, 325, 326, 327, 328, 329, 330, 331, 332, 56, 57, 333, 58, 334, 335, 336, 337, 338, 339, 340, 341, 342, 343, 344, 345, 346, 347, 348, 349, 350, 351, 352, 353, 354, 355, 356, 357, 358, 359, 360, 361, 455, 456, 457, 458, 839, 840, 841, 842, 843, 844, 845, 846, 847, 895, 896, 897, 898, 899, 900, 901, 902, 903, 882, 883, 884, 885, 886, 887, 888, 889, 890, 891, 892, 893, 894] (by decide +kernel) (by decide +kernel)
set_option maxRecDepth 20000 in
theorem gL_law_X5_wear : GoodIn wsL_law (wsV RL 48 RX5 yX5_wear wsX5_wear) := goodIn_app (goodIn_of _ (by decide +kernel)) ggL_law_X5_wear
set_option maxRecDepth 20000 in
theorem ggL_law_X6_wear : GoodIn wsL_law wsX6_wear := goodIn_r _ [462, 92, 154, 155, 156, 5, 157, 125, 127, 128, 129, 130, 463, 464, 465, 168, 370, 371, 372, 373, 91, 367, 374, 218, 219, 220, 221, 187, 83, 222, 223, 224, 225, 87, 86, 226, 227, 228, 229, 84, 230, 231, 232, 233, 85, 234, 235, 236, 237, 238, 239, 240, 241, 242, 243, 244, 245, 246, 375, 376, 377, 378, 77, 78, 79, 80, 170, 379, 380, 381, 382, 368, 383, 384, 385, 386, 369, 387, 388, 389, 390, 391, 392, 393, 394, 395, 396, 397, 398, 399, 400, 131, 132, 133, 401, 402, 403, 404, 405, 406, 407, 408, 88, 89, 90, 99, 409, 410, 411, 412, 413, 414, 415, 416, 417, 418, 419, 420, 421, 422, 423, 424, 425, 426, 427, 428, 848, 849, 850, 851, 852, 853, 854, 855, 856, 857, 858, 859, 860, 861, 862, 863, 864, 865, 866, 867, 868, 869, 870, 871, 872, 873, 874, 875, 876, 877, 878, 879, 880, 881] (by decide +kernel) (by decide +kernel)
set_option maxRecDepth 20000 in
theorem gL_law_X6_wear : GoodIn wsL_law (wsV RL 51 RX6 yX6_wear wsX6_wear) := goodIn_app (goodIn_of _ (by decide +kernel)) ggL_law_X6_wear
set_option maxRecDepth 20000 in
theorem ggL_law_X5_deed : GoodIn wsL_law wsX5_deed := goodIn_r _ [469, 25, 15, 21, 106, 107, 2, 108, 254, 255, 256, 24, 257, 258, 259, 260, 261, 262, 201, 202, 20, 203, 180, 204, 205, 206, 207, 49, 208, 209, 210, 211, 212, 213, 214, 215, 216, 263, 264, 265, 266, 55, 267, 268, 269, 270, 14, 271, 113, 272, 38, 273, 274, 275, 40, 276, 277, 278, 279, 41, 42, 43, 44, 280, 281, 282, 283, 284, 285, 286, 287, 288, 149, 142, 143, 144, 289, 290, 291, 292, 293, 294, 295, 296, 297, 298, 299, 300, 301, 302, 303, 304, 305, 306, 307, 308, 309, 310, 311, 312, 313, 314, 315, 316, 317, 318, 319, 320, 321, 322, 323, 324, 325, 326, 327, 328, 329, 330, 331, 332, 56, 57, 333, 58, 334, 335, 336, 337, 338, 339, 340, 341, 342, 343, 344, 345, 346, 347, 348, 349, 350, 351, 352, 353, 354, 355, 356, 357, 358, 359, 360, 361, 470, 471, 472, 473, 474, 475, 476, 477, 839, 840, 841, 842, 843, 844, 845, 846, 847, 893, 894, 895, 896, 897, 898, 899, 900, 901, 902, 903, 882, 883, 884, 885, 886, 887, 888, 889, 890, 891, 892] (by decide +kernel) (by decide +kernel)
set_option maxRecDepth 20000 in
theorem gL_law_X5_deed : GoodIn wsL_law (wsV RL 52 RX5 yX5_deed wsX5_deed) := goodIn_app (goodIn_of _ (by decide +kernel)) ggL_law_X5_deed
set_option maxRecDepth 20000 in
theorem ggL_law_X6_deed : GoodIn wsL_law wsX6_deed := goodIn_r _ [481, 366, 369, 88, 89, 90, 128, 129, 5, 130, 370, 371, 372, 373, 91, 92, 367, 374, 218, 219, 220, 221, 187, 83, 222, 223, 224, 225, 87, 86, 226, 227, 228, 229, 84, 230, 231, 232, 233, 85, 234, 235, 236, 237, 238, 239, 240, 241, 242, 243, 244, 245, 246, 375, 376, 377, 378, 77, 78, 79, 80, 170, 379, 380, 381, 382, 368, 383, 384, 385, 386, 387, 388, 389, 390, 391, 392, 393, 394, 395, 396, 154, 155, 156, 157, 125, 127, 397, 398, 399, 400, 131, 132, 133, 401, 402, 403, 404, 405, 406, 407, 408, 99, 409, 410, 411, 412, 413, 414, 415, 416, 417, 418, 419, 420, 421, 422, 423, 424, 425, 426, 427, 428, 848, 849, 850, 851, 852, 853, 854, 855, 856, 857, 858, 859, 860, 861, 862, 863, 864, 865, 866, 867, 868, 869, 870, 871, 872, 873, 874, 875, 876, 877, 878, 879, 880, 881] (by decide +kernel) (by decide +kernel)
set_option maxRecDepth 20000 in
theorem gL_law_X6_deed : GoodIn wsL_law (wsV RL 55 RX6 yX6_deed wsX6_deed) := goodIn_app (goodIn_of _ (by decide +kernel)) ggL_law_X6_deed
set_option maxRecDepth 20000 in
theorem ggL_law_X5_late : GoodIn wsL_law wsX5_late := goodIn_r _ [485, 25, 15, 21, 106, 107, 2, 108, 254, 255, 256, 24, 257, 258, 259, 260, 261, 262, 201, 202, 20, 203, 180, 204, 205, 206, 207, 49, 208, 209, 210, 211, 212, 213, 214, 215, 216, 263, 264, 265, 266, 55, 267, 268, 269, 270, 14, 271, 113, 272, 38, 273, 274, 275, 40, 276, 277, 278, 279, 41, 42, 43, 44, 280, 281, 282, 283, 284, 285, 286, 287, 288, 149, 142, 143, 144, 289, 290, 291, 292, 293, 294, 295, 296, 297, 298, 299, 300, 301, 302, 303, 304, 305, 306, 307, 308, 309, 310, 311, 312, 313, 314, 315, 316, 317, 318, 319, 320, 321, 322, 323, 324, 325, 326, 327, 328, 329, 330, 331, 332, 56, 57, 333, 58, 334, 335, 336, 337, 338, 339, 340, 341, 342, 343, 344, 345, 346, 347, 348, 349, 350, 351, 352, 353, 354, 355, 356, 357, 358, 359, 360, 361, 486, 487, 488, 489, 490, 491, 492, 493, 474, 475, 476, 477, 494, 495, 496, 497, 839, 840, 841, 842, 843, 844, 845, 846, 847, 893, 894, 895, 896, 897, 898, 899, 900, 901, 902, 903, 882, 883, 884, 885, 886, 887, 888, 889, 890, 891, 892] (by decide +kernel) (by decide +kernel)
set_option maxRecDepth 20000 in
theorem gL_law_X5_late : GoodIn wsL_law (wsV RL 56 RX5 yX5_late wsX5_late) := goodIn_app (goodIn_of _ (by decide +kernel)) ggL_law_X5_late
set_option maxRecDepth 20000 in
theorem ggL_law_X6_late : GoodIn wsL_law wsX6_late := goodIn_r _ [501, 387, 388, 128, 129, 5, 130, 370, 371, 372, 373, 91, 92, 367, 374, 218, 219, 220, 221, 187, 83, 222, 223, 224, 225, 87, 86, 226, 227, 228, 229, 84, 230, 231, 232, 233, 85, 234, 235, 236, 237, 238, 239, 240, 241, 242, 243, 244, 245, 246, 375, 376, 377, 378, 77, 78, 79, 80, 170, 379, 380, 381, 382, 368, 383, 384, 385, 386, 369, 389, 390, 391, 392, 393, 394, 395, 396, 154, 155, 156, 157, 125, 127, 397, 398, 399, 400, 131, 132, 133, 401, 402, 403, 404, 405, 406, 407, 408, 88, 89, 90, 99, 409, 410, 411, 412, 413, 414, 415, 416, 417, 418, 419, 420, 421, 422, 423, 424, 425, 426, 427, 428, 848, 849, 850, 851, 852, 853, 854, 855, 856, 857, 858, 859, 860, 861, 862, 863, 864, 865, 866, 867, 868, 869, 870, 871, 872, 873, 874, 875, 876, 877, 878, 879, 880, 881] (by decide +kernel) (by decide +kernel)
set_option maxRecDepth 20000 in
theorem gL_law_X6_late : GoodIn wsL_law (wsV RL 59 RX6 yX6_late wsX6_late) := goodIn_app (goodIn_of _ (by decide +kernel)) ggL_law_X6_late
set_option maxRecDepth 20000 in
theorem ggL_law_X5_done : GoodIn wsL_law wsX5_done := goodIn_r _ [505, 25, 15, 21, 433, 175, 506, 254, 255, 256, 24, 257, 258, 259, 260, 261, 262, 201, 202, 20, 203, 180, 204, 205, 206, 207, 49, 107, 2, 108, 208, 209, 210, 211, 212, 213, 214, 215, 216, 263, 264, 265, 266, 55, 267, 268, 269, 270, 14, 271, 113, 272, 38, 273, 274, 275, 40, 276, 277, 278, 279, 41, 42, 43, 44, 280, 281, 282, 283, 284, 285, 286, 287, 288, 149, 142, 143, 144, 289, 290, 291, 292, 293, 294, 295, 296, 297, 298, 299, 300, 301, 302, 303, 304, 305, 306, 307, 308, 309, 310, 311, 312, 313, 314, 315, 316, 317, 318, 319, 320, 321, 322, 323, 324, 325, 326, 327, 328, 329, 330, 331, 332, 56, 57, 333, 58, 334, 335, 336, 337, 338, 339, 340, 341, 342, 343, 344, 345, 346, 347, 348, 349, 350, 351, 352, 353, 354, 355, 356, 357, 358, 359, 360, 361, 507, 839, 840, 841, 842, 843, 844, 845, 846, 847, 895, 896, 897, 898, 899, 900, 901, 902, 903, 893, 894, 882, 883, 884, 885, 886, 887, 888, 889, 890, 891, 892] (by decide +kernel) (by decide +kernel)
set_option maxRecDepth 20000 in
theorem gL_law_X5_done : GoodIn wsL_law (wsV RL 60 RX5 yX5_done wsX5_done) := goodIn_app (goodIn_of _ (by decide +kernel)) ggL_law_X5_done
set_option maxRecDepth 20000 in
theorem ggL_law_X6_done : GoodIn wsL_law wsX6_done := goodIn_r _ [511, 187, 221, 370, 371, 372, 5, 373, 91, 92, 367, 374, 218, 219, 220, 83, 222, 223, 224, 225, 87, 86, 226, 227, 228, 229, 84, 230, 231, 232, 233, 85, 234, 235, 236, 237, 238, 128, 129, 130, 239, 240, 241, 242, 243, 244, 245, 246, 375, 376, 377, 378, 77, 78, 79, 80, 170, 379, 380, 381, 382, 368, 383, 384, 385, 386, 369, 387, 388, 389, 390, 391, 392, 393, 394, 395, 396, 154, 155, 156, 157, 125, 127, 397, 398, 399, 400, 131, 132, 133, 401, 402, 403, 404, 405, 406, 407, 408, 88, 89, 90, 99, 409, 410, 411, 412, 413, 414, 415, 416, 417, 418, 419, 420, 421, 422, 423, 424, 425, 426, 427, 428, 848, 849, 850, 851, 852, 853, 854, 855, 856, 857, 858, 859, 860, 861, 862, 863, 864, 865, 866, 867, 868, 869, 870, 871, 872, 873, 874, 875, 876, 877, 878, 879, 880, 881] (by decide +kernel) (by decide +kernel)
set_option maxRecDepth 20000 in
theorem gL_law_X6_done : GoodIn wsL_law (wsV RL 63 RX6 yX6_done wsX6_done) := goodIn_app (goodIn_of _ (by decide +kernel)) ggL_law_X6_done
set_option maxRecDepth 20000 in
theorem ggL_law_X5_proper : GoodIn wsL_law wsX5_proper := goodIn_r _ [515, 15, 516, 290, 291, 14, 292, 42, 272, 41, 149, 142, 143, 144, 113, 839, 840, 841, 842, 843, 844, 845, 846, 847, 882, 883, 884, 885, 886, 887, 888, 889, 890, 891, 892] (by decide +kernel) (by decide +kernel)
set_option maxRecDepth 20000 in
theorem gL_law_X5_proper : GoodIn wsL_law (wsV RL 64 RX5 yX5_proper wsX5_proper) := goodIn_app (goodIn_of _ (by decide +kernel)) ggL_law_X5_proper
set_option maxRecDepth 20000 in
theorem ggL_law_X6_proper : GoodIn wsL_law wsX6_proper := goodIn_r _ [520, 421, 422, 423, 5, 424, 170, 78, 77, 154, 155, 156, 157, 125, 127, 128, 129, 130, 848, 849, 850, 851, 852, 853, 854, 855, 856, 857, 858, 859, 860, 861, 862, 863, 864, 865, 866, 867, 868, 869, 870, 871, 872, 873, 874, 875, 876, 877, 878, 879, 880, 881] (by decide +kernel) (by decide +kernel)
set_option maxRecDepth 20000 in
theorem gL_law_X6_proper : GoodIn wsL_law (wsV RL 67 RX6 yX6_proper wsX6_proper) := goodIn_app (goodIn_of _ (by decide +kernel)) ggL_law_X6_proper
set_option maxRecDepth 20000 in
theorem ggL_law_X5_can : GoodIn wsL_law wsX5_can := goodIn_r _ [524, 15, 105, 525, 526, 527, 528, 106, 107, 2, 108, 529, 530, 531, 14, 532, 305, 306, 307, 308, 40, 114, 115, 116, 117, 118, 119, 120, 839, 840, 841, 842, 843, 844, 845, 846, 847, 882, 883, 884, 885, 886, 887, 888, 889, 890, 891, 892] (by decide +kernel) (by decide +kernel)
set_option maxRecDepth 20000 in
theorem gL_law_X5_can : GoodIn wsL_law (wsV RL 68 RX5 yX5_can wsX5_can) := goodIn_app (goodIn_of _ (by decide +kernel)) ggL_law_X5_can
set_option maxRecDepth 20000 in
theorem ggL_law_X6_can : GoodIn wsL_law wsX6_can := goodIn_r _ [536, 537, 127, 128, 129, 5, 130, 463, 464, 465, 168, 538, 539, 540, 541, 397, 398, 399, 400, 80, 154, 155, 156, 157, 125, 131, 132, 133, 134, 135, 136, 848, 849, 850, 851, 852, 853, 854, 855, 856, 857, 858, 859, 860, 861, 862, 863, 864, 865, 866, 867, 868, 869, 870, 871, 872, 873, 874, 875, 876, 877, 878, 879, 880, 881] (by decide +kernel) (by decide +kernel)
set_option maxRecDepth 20000 in
theorem gL_law_X6_can : GoodIn wsL_law (wsV RL 72 RX6 yX6_can wsX6_can) := goodIn_app (goodIn_of _ (by decide +kernel)) ggL_law_X6_can
set_option maxRecDepth 20000 in
theorem ggL_law_X5_match : GoodIn wsL_law wsX5_match := goodIn_r _ [545, 104, 29, 15, 106, 107, 2, 108, 546, 547, 548, 549, 550, 551, 28, 552, 553, 65, 66, 554, 115, 116, 117, 118, 119, 120, 555, 530, 531, 14, 532, 305, 306, 307, 308, 40, 556, 557, 558, 559, 560, 561, 562, 563, 564, 526, 527, 528, 565, 566, 567, 568, 569, 570, 571, 572, 573, 574, 575, 576, 577, 839, 840, 841, 842, 843, 844, 845, 846, 847, 904, 905, 906, 882, 883, 884, 885, 886, 887, 888, 889, 890, 891, 892] (by decide +kernel) (by decide +kernel)
set_option maxRecDepth 20000 in
theorem gL_law_X5_match : GoodIn wsL_law (wsV RL 73 RX5 yX5_match wsX5_match) := goodIn_app (goodIn_of _ (by decide +kernel)) ggL_law_X5_match
set_option maxRecDepth 20000 in
theorem ggL_law_X6_match : GoodIn wsL_law wsX6_match := goodIn_r _ [581, 126, 582, 93, 128, 129, 5, 130, 463, 464, 465, 168, 583, 584, 585, 586, 538, 539, 540, 541, 397, 398, 399, 400, 80, 154, 155, 156, 157, 125, 127, 131, 132, 133, 587, 588, 589, 590, 848, 849, 850, 851, 852, 853, 854, 855, 856, 857, 858, 859, 860, 861, 862, 863, 864, 865, 866, 867, 868, 869, 870, 871, 872, 873, 874, 875, 876, 877, 878, 879, 880, 881] (by decide +kernel) (by decide +kernel)
set_option maxRecDepth 20000 in
theorem gL_law_X6_match : GoodIn wsL_law (wsV RL 76 RX6 yX6_match wsX6_match) := goodIn_app (goodIn_of _ (by decide +kernel)) ggL_law_X6_match
set_option maxRecDepth 20000 in
theorem ggL_law_X5_all : GoodIn wsL_law wsX5_all := goodIn_r _ [594, 104, 15, 106, 107, 2, 108, 114, 115, 116, 117, 118, 119, 120, 595, 596, 597, 14, 598, 599, 435, 436, 437, 40, 149, 142, 143, 144, 113, 839, 840, 841, 842, 843, 844, 845, 846, 847, 882, 883, 884, 885, 886, 887, 888, 889, 890, 891, 892] (by decide +kernel) (by decide +kernel)
set_option maxRecDepth 20000 in
theorem gL_law_X5_all : GoodIn wsL_law (wsV RL 77 RX5 yX5_all wsX5_all) := goodIn_app (goodIn_of _ (by decide +kernel)) ggL_law_X5_all
set_option maxRecDepth 20000 in
theorem ggL_law_X6_all : GoodIn wsL_law wsX6_all := goodIn_r _ [603, 126, 127, 128, 129, 5, 130, 604, 605, 606, 607, 397, 398, 399, 400, 80, 154, 155, 156, 157, 125, 131, 132, 133, 134, 135, 136, 848, 849, 850, 851, 852, 853, 854, 855, 856, 857, 858, 859, 860, 861, 862, 863, 864, 865, 866, 867, 868, 869, 870, 871, 872, 873, 874, 875, 876, 877, 878, 879, 880, 881] (by decide +kernel) (by decide +kernel)
set_option maxRecDepth 20000 in
theorem gL_law_X6_all : GoodIn wsL_law (wsV RL 80 RX6 yX6_all wsX6_all) := goodIn_app (goodIn_of _ (by decide +kernel)) ggL_law_X6_all
set_option maxRecDepth 20000 in
theorem ggL_law_X5_mended : GoodIn wsL_law wsX5_mended := goodIn_r _ [611, 25, 15, 21, 251, 106, 107, 2, 108, 254, 255, 256, 24, 257, 258, 259, 260, 261, 262, 201, 202, 20, 203, 180, 204, 205, 206, 207, 49, 208, 209, 210, 211, 212, 213, 214, 215, 216, 263, 264, 265, 266, 55, 267, 268, 269, 270, 14, 271, 113, 272, 38, 273, 274, 275, 40, 276, 277, 278, 279, 41, 42, 43, 44, 280, 281, 282, 283, 284, 285, 286, 287, 288, 149, 142, 143, 144, 289, 290, 291, 292, 293, 294, 295, 296, 297, 298, 299, 300, 301, 302, 303, 304, 305, 306, 307, 308, 309, 310, 311, 312, 313, 314, 315, 316, 317, 318, 319, 320, 321, 322, 323, 324, 325, 326, 327, 328, 329, 330, 331, 332, 56, 57, 333, 58, 334, 335, 336, 337, 338, 339, 340, 341, 342, 343, 344, 345, 346, 347, 348, 349, 350, 351, 352, 353, 354, 355, 356, 357, 358, 359, 360, 361, 612, 613, 614, 615, 59, 616, 617, 527, 618, 474, 475, 476, 477, 619, 620, 621, 622, 623, 624, 625, 626, 839, 840, 841, 842, 843, 844, 845, 846, 847, 895, 896, 897, 898, 899, 900, 901, 902, 903, 893, 894, 882, 883, 884, 885, 886, 887, 888, 889, 890, 891, 892] (by decide +kernel) (by decide +kernel)
set_option maxRecDepth 20000 in
theorem gL_law_X5_mended : GoodIn wsL_law (wsV RL 81 RX5 yX5_mended wsX5_mended) := goodIn_app (goodIn_of _ (by decide +kernel)) ggL_law_X5_mended
set_option maxRecDepth 20000 in
theorem ggL_law_X6_mended : GoodIn wsL_law wsX6_mended := goodIn_r _ [630, 369, 94, 88, 128, 129, 5, 130, 370, 371, 372, 373, 91, 92, 367, 374, 218, 219, 220, 221, 187, 83, 222, 223, 224, 225, 87, 86, 226, 227, 228, 229, 84, 230, 231, 232, 233, 85, 234, 235, 236, 237, 238, 239, 240, 241, 242, 243, 244, 245, 246, 375, 376, 377, 378, 77, 78, 79, 80, 170, 379, 380, 381, 382, 368, 383, 384, 385, 386, 387, 388, 389, 390, 391, 392, 393, 394, 395, 396, 154, 155, 156, 157, 125, 127, 397, 398, 399, 400, 131, 132, 133, 401, 402, 403, 404, 405, 406, 407, 408, 89, 90, 99, 409, 410, 411, 412, 413, 414, 415, 416, 417, 418, 419, 420, 421, 422, 423, 424, 425, 426, 427, 428, 631, 632, 633, 634, 848, 849, 850, 851, 852, 853, 854, 855, 856, 857, 858, 859, 860, 861, 862, 863, 864, 865, 866, 867, 868, 869, 870, 871, 872, 873, 874, 875, 876, 877, 878, 879, 880, 881] (by decide +kernel) (by decide +kernel)
set_option maxRecDepth 20000 in
theorem gL_law_X6_mended : GoodIn wsL_law (wsV RL 84 RX6 yX6_mended wsX6_mended) := goodIn_app (goodIn_of _ (by decide +kernel)) ggL_law_X6_mended
set_option maxRecDepth 20000 in
theorem ggL_law_X5_strikes : GoodIn wsL_law wsX5_strikes := goodIn_r _ [638, 639, 640, 2, 641, 106, 107, 108, 642, 643, 644] (by decide +kernel) (by decide +kernel)
set_option maxRecDepth 20000 in
theorem gL_law_X5_strikes : GoodIn wsL_law (wsV RL 85 RX5 yX5_strikes wsX5_strikes) := goodIn_app (goodIn_of _ (by decide +kernel)) ggL_law_X5_strikes
set_option maxRecDepth 20000 in
theorem ggL_law_X6_strikes : GoodIn wsL_law wsX6_strikes := goodIn_r _ [648, 649, 650, 651, 5, 652, 653, 128, 129, 130] (by decide +kernel) (by decide +kernel)
set_option maxRecDepth 20000 in
theorem gL_law_X6_strikes : GoodIn wsL_law (wsV RL 89 RX6 yX6_strikes wsX6_strikes) := goodIn_app (goodIn_of _ (by decide +kernel)) ggL_law_X6_strikes
set_option maxRecDepth 20000 in
theorem ggL_law_X5_often : GoodIn wsL_law wsX5_often := goodIn_r _ [657, 658, 639, 640, 2, 641, 106, 107, 108, 642, 643, 644, 659, 660, 661] (by decide +kernel) (by decide +kernel)
set_option maxRecDepth 20000 in
theorem gL_law_X5_often : GoodIn wsL_law (wsV RL 90 RX5 yX5_often wsX5_often) := goodIn_app (goodIn_of _ (by decide +kernel)) ggL_law_X5_often
set_option maxRecDepth 20000 in
theorem ggL_law_X6_often : GoodIn wsL_law wsX6_often := goodIn_r _ [665, 666, 650, 651, 5, 652, 653, 128, 129, 130] (by decide +kernel) (by decide +kernel)
set_option maxRecDepth 20000 in
theorem gL_law_X6_often : GoodIn wsL_law (wsV RL 94 RX6 yX6_often wsX6_often) := goodIn_app (goodIn_of _ (by decide +kernel)) ggL_law_X6_often
set_option maxRecDepth 20000 in
theorem ggL_law_X5_seen : GoodIn wsL_law wsX5_seen := goodIn_r _ [670, 15, 671, 106, 107, 2, 108, 672, 673, 674, 14, 675, 273, 274, 275, 839, 840, 841, 842, 843, 844, 845, 846, 847, 882, 883, 884, 885, 886, 887, 888, 889, 890, 891, 892] (by decide +kernel) (by decide +kernel)
set_option maxRecDepth 20000 in
theorem gL_law_X5_seen : GoodIn wsL_law (wsV RL 95 RX5 yX5_seen wsX5_seen) := goodIn_app (goodIn_of _ (by decide +kernel)) ggL_law_X5_seen
set_option maxRecDepth 20000 in
theorem ggL_law_X6_seen : GoodIn wsL_law wsX6_seen := goodIn_r _ [679, 680, 81, 82, 463, 464, 5, 465, 168, 128, 129, 130, 848, 849, 850, 851, 852, 853, 854, 855, 856, 857, 858, 859, 860, 861, 862, 863, 864, 865, 866, 867, 868, 869, 870, 871, 872, 873, 874, 875, 876, 877, 878, 879, 880, 881] (by decide +kernel) (by decide +kernel)
set_option maxRecDepth 20000 in
theorem gL_law_X6_seen : GoodIn wsL_law (wsV RL 99 RX6 yX6_seen wsX6_seen) := goodIn_app (goodIn_of _ (by decide +kernel)) ggL_law_X6_seen
set_option maxRecDepth 20000 in
theorem ggL_law_X5_forget : GoodIn wsL_law wsX5_forget := goodIn_r _ [684, 15, 685, 686, 687, 14, 688, 273, 274, 275, 839, 840, 841, 842, 843, 844, 845, 846, 847, 882, 883, 884, 885, 886, 887, 888, 889, 890, 891, 892] (by decide +kernel) (by decide +kernel)
set_option maxRecDepth 20000 in
theorem gL_law_X5_forget : GoodIn wsL_law (wsV RL 100 RX5 yX5_forget wsX5_forget) := goodIn_app (goodIn_of _ (by decide +kernel)) ggL_law_X5_forget
set_option maxRecDepth 20000 in
theorem ggL_law_X6_forget : GoodIn wsL_law wsX6_forget := goodIn_r _ [692, 680, 848, 849, 850, 851, 852, 853, 854, 855, 856, 857, 858, 859, 860, 861, 862, 863, 864, 865, 866, 867, 868, 869, 870, 871, 872, 873, 874, 875, 876, 877, 878, 879, 880, 881] (by decide +kernel) (by decide +kernel)
set_option maxRecDepth 20000 in
theorem gL_law_X6_forget : GoodIn wsL_law (wsV RL 103 RX6 yX6_forget wsX6_forget) := goodIn_app (goodIn_of _ (by decide +kernel)) ggL_law_X6_forget
set_option maxRecDepth 20000 in
theorem ggL_law_X5_wore : GoodIn wsL_law wsX5_wore := goodIn_r _ [696, 15, 697, 698, 699, 14, 700, 274, 275, 599, 435, 436, 437, 40, 149, 142, 143, 144, 113, 839, 840, 841, 842, 843, 844, 845, 846, 847, 882, 883, 884, 885, 886, 887, 888, 889, 890, 891, 892] (by decide +kernel) (by decide +kernel)
set_option maxRecDepth 20000 in
theorem gL_law_X5_wore : GoodIn wsL_law (wsV RL 104 RX5 yX5_wore wsX5_wore) := goodIn_app (goodIn_of _ (by decide +kernel)) ggL_law_X5_wore
set_option maxRecDepth 20000 in
theorem ggL_law_X6_wore : GoodIn wsL_law wsX6_wore := goodIn_r _ [704, 127, 680, 81, 82, 538, 539, 540, 5, 541, 397, 398, 399, 400, 80, 154, 155, 156, 157, 125, 128, 129, 130, 131, 132, 133, 848, 849, 850, 851, 852, 853, 854, 855, 856, 857, 858, 859, 860, 861, 862, 863, 864, 865, 866, 867, 868, 869, 870, 871, 872, 873, 874, 875, 876, 877, 878, 879, 880, 881] (by decide +kernel) (by decide +kernel)
set_option maxRecDepth 20000 in
theorem gL_law_X6_wore : GoodIn wsL_law (wsV RL 107 RX6 yX6_wore wsX6_wore) := goodIn_app (goodIn_of _ (by decide +kernel)) ggL_law_X6_wore
set_option maxRecDepth 20000 in
theorem ggL_law_X5_ask : GoodIn wsL_law wsX5_ask := goodIn_r _ [708, 15, 709, 617, 527, 618, 106, 107, 2, 108, 697, 698, 699, 14, 700, 274, 275, 599, 435, 436, 437, 40, 149, 142, 143, 144, 113, 529, 530, 531, 532, 305, 306, 307, 308, 114, 115, 116, 117, 118, 119, 120, 839, 840, 841, 842, 843, 844, 845, 846, 847, 882, 883, 884, 885, 886, 887, 888, 889, 890, 891, 892] (by decide +kernel) (by decide +kernel)
set_option maxRecDepth 20000 in
theorem gL_law_X5_ask : GoodIn wsL_law (wsV RL 108 RX5 yX5_ask wsX5_ask) := goodIn_app (goodIn_of _ (by decide +kernel)) ggL_law_X5_ask
set_option maxRecDepth 20000 in
theorem ggL_law_X6_ask : GoodIn wsL_law wsX6_ask := goodIn_r _ [713, 128, 129, 5, 130, 714, 702, 703, 704, 127, 680, 81, 82, 538, 539, 540, 541, 397, 398, 399, 400, 80, 154, 155, 156, 157, 125, 131, 132, 133, 134, 135, 136, 848, 849, 850, 851, 852, 853, 854, 855, 856, 857, 858, 859, 860, 861, 862, 863, 864, 865, 866, 867, 868, 869, 870, 871, 872, 873, 874, 875, 876, 877, 878, 879, 880, 881] (by decide +kernel) (by decide +kernel)
set_option maxRecDepth 20000 in
theorem gL_law_X6_ask : GoodIn wsL_law (wsV RL 111 RX6 yX6_ask wsX6_ask) := goodIn_app (goodIn_of _ (by decide +kernel)) ggL_law_X6_ask
set_option maxRecDepth 20000 in
theorem ggL_law_X5_tear : GoodIn wsL_law wsX5_tear := goodIn_r _ [718, 719, 33, 720, 721, 106, 107, 2, 108, 722, 723, 724, 32, 725, 72, 726, 727, 728, 729, 730, 731, 732, 733, 734, 735, 736, 737, 659, 660, 661, 839, 840, 841, 842, 843, 844, 845, 846, 847, 907, 908, 909] (by decide +kernel) (by decide +kernel)
set_option maxRecDepth 20000 in
theorem gL_law_X5_tear : GoodIn wsL_law (wsV RL 112 RX5 yX5_tear wsX5_tear) := goodIn_app (goodIn_of _ (by decide +kernel)) ggL_law_X5_tear
set_option maxRecDepth 20000 in
theorem ggL_law_X6_tear : GoodIn wsL_law wsX6_tear := goodIn_r _ [741, 742, 743, 744, 745, 95, 128, 129, 5, 130, 746, 747, 748, 848, 849, 850, 851, 852, 853, 854, 855, 856, 857, 858, 859, 860, 861, 862, 863, 864, 865, 866, 867, 868, 869, 870, 871, 872, 873, 874, 875, 876, 877, 878, 879, 880, 881] (by decide +kernel) (by decide +kernel)
set_option maxRecDepth 20000 in
theorem gL_law_X6_tear : GoodIn wsL_law (wsV RL 116 RX6 yX6_tear wsX6_tear) := goodIn_app (goodIn_of _ (by decide +kernel)) ggL_law_X6_tear
set_option maxRecDepth 20000 in
theorem ggL_law_X5_vespers : GoodIn wsL_law wsX5_vespers := goodIn_r _ [752, 15, 141, 142, 143, 14, 144, 113, 106, 107, 2, 108, 753, 754, 755, 756, 757, 758, 759, 760, 599, 435, 436, 437, 40, 149, 761, 115, 116, 117, 118, 119, 120, 839, 840, 841, 842, 843, 844, 845, 846, 847, 882, 883, 884, 885, 886, 887, 888, 889, 890, 891, 892] (by decide +kernel) (by decide +kernel)
set_option maxRecDepth 20000 in
theorem gL_law_X5_vespers : GoodIn wsL_law (wsV RL 117 RX5 yX5_vespers wsX5_vespers) := goodIn_app (goodIn_of _ (by decide +kernel)) ggL_law_X5_vespers
set_option maxRecDepth 20000 in
theorem ggL_law_X6_vespers : GoodIn wsL_law wsX6_vespers := goodIn_r _ [765, 653, 154, 155, 156, 5, 157, 125, 127, 128, 129, 130, 604, 605, 606, 607, 397, 398, 399, 400, 80, 131, 132, 133, 134, 135, 136, 848, 849, 850, 851, 852, 853, 854, 855, 856, 857, 858, 859, 860, 861, 862, 863, 864, 865, 866, 867, 868, 869, 870, 871, 872, 873, 874, 875, 876, 877, 878, 879, 880, 881] (by decide +kernel) (by decide +kernel)
set_option maxRecDepth 20000 in
theorem gL_law_X6_vespers : GoodIn wsL_law (wsV RL 120 RX6 yX6_vespers wsX6_vespers) := goodIn_app (goodIn_of _ (by decide +kernel)) ggL_law_X6_vespers
set_option maxRecDepth 20000 in
theorem ggL_law_X5_reign : GoodIn wsL_law wsX5_reign := goodIn_r _ [769, 25, 15, 433, 251, 106, 107, 2, 108, 770, 771, 772, 24, 773, 774, 263, 264, 265, 266, 55, 261, 267, 259, 260, 268, 269, 270, 14, 271, 113, 272, 38, 273, 274, 275, 40, 276, 277, 278, 279, 41, 42, 43, 44, 775, 776, 777, 778, 285, 286, 287, 288, 149, 142, 143, 144, 289, 290, 291, 292, 313, 314, 315, 316, 305, 306, 307, 308, 309, 310, 311, 312, 301, 302, 303, 304, 321, 322, 323, 324, 325, 326, 327, 328, 329, 330, 331, 332, 56, 57, 333, 58, 334, 335, 336, 337, 338, 339, 340, 341, 342, 343, 344, 345, 779, 780, 781, 782, 494, 495, 496, 497, 490, 491, 492, 493, 474, 475, 476, 477, 839, 840, 841, 842, 843, 844, 845, 846, 847, 895, 896, 897, 898, 899, 900, 901, 902, 903, 882, 883, 884, 885, 886, 887, 888, 889, 890, 891, 892] (by decide +kernel) (by decide +kernel)
set_option maxRecDepth 20000 in
theorem gL_law_X5_reign : GoodIn wsL_law (wsV RL 121 RX5 yX5_reign wsX5_reign) := goodIn_app (goodIn_of _ (by decide +kernel)) ggL_law_X5_reign
set_option maxRecDepth 20000 in
theorem ggL_law_X6_reign : GoodIn wsL_law wsX6_reign := goodIn_r _ [786, 787, 788, 366, 91, 789, 790, 791, 79, 369, 388, 128, 129, 5, 130, 375, 376, 377, 378, 77, 78, 80, 170, 383, 384, 385, 386, 387, 389, 390, 391, 392, 393, 394, 395, 396, 154, 155, 156, 157, 125, 127, 397, 398, 399, 400, 131, 132, 133, 401, 402, 403, 404, 405, 406, 407, 408, 88, 89, 90, 99, 409, 410, 411, 412, 413, 414, 415, 416, 417, 418, 419, 420, 421, 422, 423, 424, 425, 426, 427, 428, 848, 849, 850, 851, 852, 853, 854, 855, 856, 857, 858, 859, 860, 861, 862, 863, 864, 865, 866, 867, 868, 869, 870, 871, 872, 873, 874, 875, 876, 877, 878, 879, 880, 881] (by decide +kernel) (by decide +kernel)
set_option maxRecDepth 20000 in
theorem gL_law_X6_reign : GoodIn wsL_law (wsV RL 124 RX6 yX6_reign wsX6_reign) := goodIn_app (goodIn_of _ (by decide +kernel)) ggL_law_X6_reign
set_option maxRecDepth 20000 in
theorem ggL_law_X5_image : GoodIn wsL_law wsX5_image := goodIn_r _ [795, 16, 15, 796, 17, 797, 106, 107, 2, 108, 507, 269, 270, 14, 271, 113, 272, 38, 273, 274, 275, 40, 276, 277, 278, 279, 41, 42, 43, 44, 839, 840, 841, 842, 843, 844, 845, 846, 847, 882, 883, 884, 885, 886, 887, 888, 889, 890, 891, 892] (by decide +kernel) (by decide +kernel)
set_option maxRecDepth 20000 in
theorem gL_law_X5_image : GoodIn wsL_law (wsV RL 125 RX5 yX5_image wsX5_image) := goodIn_app (goodIn_of _ (by decide +kernel)) ggL_law_X5_image
set_option maxRecDepth 20000 in
theorem ggL_law_X6_image : GoodIn wsL_law wsX6_image := goodIn_r _ [801, 802, 803, 98, 128, 129, 5, 130, 804, 805, 806, 807, 127, 170, 99, 680, 77, 78, 79, 80, 81, 82, 808, 809, 810, 811, 96, 848, 849, 850, 851, 852, 853, 854, 855, 856, 857, 858, 859, 860, 861, 862, 863, 864, 865, 866, 867, 868, 869, 870, 871, 872, 873, 874, 875, 876, 877, 878, 879, 880, 881] (by decide +kernel) (by decide +kernel)
set_option maxRecDepth 20000 in
theorem gL_law_X6_image : GoodIn wsL_law (wsV RL 128 RX6 yX6_image wsX6_image) := goodIn_app (goodIn_of _ (by decide +kernel)) ggL_law_X6_image
set_option maxRecDepth 20000 in
theorem ggL_law_X5_restore : GoodIn wsL_law wsX5_restore := goodIn_r _ [815, 796, 797, 15, 16, 17, 106, 107, 2, 108, 507, 269, 270, 14, 271, 113, 272, 38, 273, 274, 275, 40, 276, 277, 278, 279, 41, 42, 43, 44, 839, 840, 841, 842, 843, 844, 845, 846, 847, 882, 883, 884, 885, 886, 887, 888, 889, 890, 891, 892] (by decide +kernel) (by decide +kernel)
set_option maxRecDepth 20000 in
theorem gL_law_X5_restore : GoodIn wsL_law (wsV RL 129 RX5 yX5_restore wsX5_restore) := goodIn_app (goodIn_of _ (by decide +kernel)) ggL_law_X5_restore
set_option maxRecDepth 20000 in
theorem ggL_law_X6_restore : GoodIn wsL_law wsX6_restore := goodIn_r _ [819, 98, 802, 803, 128, 129, 5, 130, 804, 805, 806, 807, 127, 170, 99, 680, 77, 78, 79, 80, 81, 82, 808, 809, 810, 811, 96, 848, 849, 850, 851, 852, 853, 854, 855, 856, 857, 858, 859, 860, 861, 862, 863, 864, 865, 866, 867, 868, 869, 870, 871, 872, 873, 874, 875, 876, 877, 878, 879, 880, 881] (by decide +kernel) (by decide +kernel)
set_option maxRecDepth 20000 in
theorem gL_law_X6_restore : GoodIn wsL_law (wsV RL 132 RX6 yX6_restore wsX6_restore) := goodIn_app (goodIn_of _ (by decide +kernel)) ggL_law_X6_restore
set_option maxRecDepth 20000 in
theorem ggL_law_X5_told : GoodIn wsL_law wsX5_told := goodIn_r _ [823, 21, 175, 15, 105, 162, 163, 671, 824, 825, 826, 2, 827, 141, 142, 143, 14, 144, 113, 106, 107, 108, 438, 439, 440, 441, 43, 41, 42, 149, 455, 456, 457, 458, 44, 305, 306, 307, 308, 40, 839, 840, 841, 842, 843, 844, 845, 846, 847, 893, 894, 882, 883, 884, 885, 886, 887, 888, 889, 890, 891, 892] (by decide +kernel) (by decide +kernel)
set_option maxRecDepth 20000 in
theorem gL_law_X5_told : GoodIn wsL_law (wsV RL 133 RX5 yX5_told wsX5_told) := goodIn_app (goodIn_of _ (by decide +kernel)) ggL_law_X5_told
set_option maxRecDepth 20000 in
theorem ggL_law_X6_told : GoodIn wsL_law wsX6_told := goodIn_r _ [831, 832, 833, 80, 744, 834, 187, 127, 170, 99, 680, 128, 129, 5, 130, 154, 155, 156, 157, 125, 463, 464, 465, 168, 131, 132, 133, 835, 836, 837, 838, 77, 78, 79, 848, 849, 850, 851, 852, 853, 854, 855, 856, 857, 858, 859, 860, 861, 862, 863, 864, 865, 866, 867, 868, 869, 870, 871, 872, 873, 874, 875, 876, 877, 878, 879, 880, 881] (by decide +kernel) (by decide +kernel)
set_option maxRecDepth 20000 in
theorem gL_law_X6_told : GoodIn wsL_law (wsV RL 136 RX6 yX6_told wsX6_told) := goodIn_app (goodIn_of _ (by decide +kernel)) ggL_law_X6_told

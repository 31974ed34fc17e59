set_option maxRecDepth 20000 in
theorem ggL_law_X5_match : GoodIn wsL_law wsX5_match := goodIn_r _ [545, 104, 29, 15, 106, 107, 2, 108, 546, 547, 548, 549, 550, 551, 28, 552, 553, 65, 66, 554, 115, 116, 117, 118, 119, 120, 555, 530, 531, 14, 532, 305, 306, 307, 308, 40, 556, 557, 558, 559, 560, 561, 562, 563, 564, 526, 527, 528, 565, 566, 567, 568, 569, 570, 571, 572, 573, 574, 575, 576, 577, 839, 840, 841, 842, 843, 844, 845, 846, 847, 904, 905, 906, 882, 883, 884, 885, 886, 887, 888, 889, 890, 891, 892] (by decide +kernel) (by decide +kernel)
set_option maxRecDepth 20000 in
theorem gL_law_X5_match : GoodIn wsL_law (wsV RL 73 RX5 yX5_match wsX5_match) := goodIn_app (goodIn_of _ (by decide +kernel)) ggL_law_X5_match
set_option maxRecDepth 20000 in
theorem ggL_law_X6_match : GoodIn wsL_law wsX6_match := goodIn_r _ [581, 126, 582, 93, 128, 129, 5, 130, 463, 464, 465, 168, 583, 584, 585, 586, 538, 539, 540, 541, 397, 398, 399, 400, 80, 154, 155, 156, 157, 125, 127, 131, 132, 133, 587, 588, 589, 590, 848, 849, 850, 851, 852, 853, 854, 855, 856, 857, 858, 859, 860, 861, 862, 863, 864, 865, 866, 867, 868, 869, 870, 871, 872, 873, 874, 875, 876, 877, 878, 879, 880, 881] (by decide +kernel) (by decide +kernel)
set_option maxRecDepth 20000 in
theorem gL_law_X6_match : GoodIn wsL_law (wsV RL 76 RX6 yX6_match wsX6_match) := goodIn_app (goodIn_of _ (by decide +kernel)) ggL_law_X6_match
set_option maxRecDepth 20000 in
theorem ggL_law_X5_all : GoodIn wsL_law wsX5_all := goodIn_r _ [594, 104, 15, 106, 107, 2, 108, 114, 115, 116, 117, 118, 119, 120, 595, 596, 597, 14, 598, 599, 435, 436, 437, 40, 149, 142, 143, 144, 113, 839, 840, 841, 842, 843, 844, 845, 846, 847, 882, 883, 884, 885, 886, 887, 888, 889, 890, 891, 892] (by decide +kernel) (by decide +kernel)
set_option maxRecDepth 20000 in
theorem gL_law_X5_all : GoodIn wsL_law (wsV RL 77 RX5 yX5_all wsX5_all) := goodIn_app (goodIn_of _ (by decide +kernel)) ggL_law_X5_all
set_option maxRecDepth 20000 in
theorem ggL_law_X6_all : GoodIn wsL_law wsX6_all := goodIn_r _ [603, 126, 127, 128, 129, 5, 130, 604, 605, 606, 607, 397, 398, 399, 400, 80, 154, 155, 156, 157, 125, 131, 132, 133, 134, 135, 136, 848, 849, 850, 851, 852, 853, 854, 855, 856, 857, 858, 859, 860, 861, 862, 863, 864, 865, 866, 867, 868, 869, 870, 871, 872, 873, 874, 875, 876, 877, 878, 879, 880, 881] (by decide +kernel) (by decide +kernel)
set_option maxRecDepth 20000 in
theorem gL_law_X6_all : GoodIn wsL_law (wsV RL 80 RX6 yX6_all wsX6_all) := goodIn_app (goodIn_of _ (by decide +kernel)) ggL_law_X6_all
set_option maxRecDepth 20000 in
theorem ggL_law_X5_mended : GoodIn wsL_law wsX5_mended := goodIn_r _ [611, 25, 15, 21, 251, 106, 107, 2, 108, 254, 255, 256, 24, 257, 258, 259, 260, 261, 262, 201, 202, 20, 203, 180, 204, 205, 206, 207, 49, 208, 209, 210, 211, 212, 213, 214, 215, 216, 263, 264, 265, 266, 55, 267, 268, 269, 270, 14, 271, 113, 272, 38, 273, 274, 275, 40, 276, 277, 278, 279, 41, 42, 43, 44, 280, 281, 282, 283, 284, 285, 286, 287, 288, 149, 142, 143, 144, 289, 290, 291, 292, 293, 294, 295, 296, 297, 298, 299, 300, 301, 302, 303, 304, 305, 306, 307, 308, 309, 310, 311, 312, 313, 314, 315, 316, 317, 318, 319, 320, 321, 322, 323, 324, 325, 326, 327, 328, 329, 330, 331, 332, 56, 57, 333, 58, 334, 335, 336, 337, 338, 339, 340, 341, 342, 343, 344, 345, 346, 347, 348, 349, 350, 351, 352, 353, 354, 355, 356, 357, 358, 359, 360, 361, 612, 613, 614, 615, 59, 616, 617, 527, 618, 474, 475, 476, 477, 619, 620, 621, 622, 623, 624, 625, 626, 839, 840, 841, 842, 843, 844, 845, 846, 847, 895, 896, 897, 898, 899, 900, 901, 902, 903, 893, 894, 882, 883, 884, 885, 886, 887, 888, 889, 890, 891, 892] (by decide +kernel) (by decide +kernel)
set_option maxRecDepth 20000 in
theorem gL_law_X5_mended : GoodIn wsL_law (wsV RL 81 RX5 yX5_mended wsX5_mended) := goodIn_app (goodIn_of _ (by decide +kernel)) ggL_law_X5_mended
set_option maxRecDepth 20000 in
theorem ggL_law_X6_mended : GoodIn wsL_law wsX6_mended := goodIn_r _ [630, 369, 94, 88, 128, 129, 5, 130, 370, 371, 372, 373, 91, 92, 367, 374, 218, 219, 220, 221, 187, 83, 222, 223, 224, 225, 87, 86, 226, 227, 228, 229, 84, 230, 231, 232, 233, 85, 234, 235, 236, 237, 238, 239, 240, 241, 242, 243, 244, 245, 246, 375, 376, 377, 378, 77, 78, 79, 80, 170, 379, 380, 381, 382, 368, 383, 384, 385, 386, 387, 388, 389, 390, 391, 392, 393, 394, 395, 396, 154, 155, 156, 157, 125, 127, 397, 398, 399, 400, 131, 132, 133, 401, 402, 403, 404, 405, 406, 407, 408, 89, 90, 99, 409, 410, 411, 412, 413, 414, 415, 416, 417, 418, 419, 420, 421, 422, 423, 424, 425, 426, 427, 428, 631, 632, 633, 634, 848, 849, 850, 851, 852, 853, 854, 855, 856, 857, 858, 859, 860, 861, 862, 863, 864, 865, 866, 867, 868, 869, 870, 871, 872, 873, 874, 875, 876, 877, 878, 879, 880, 881] (by decide +kernel) (by decide +kernel)
set_option maxRecDepth 20000 in
theorem gL_law_X6_mended : GoodIn wsL_law (wsV RL 84 RX6 yX6_mended wsX6_mended) := goodIn_app (goodIn_of _ (by decide +kernel)) ggL_law_X6_mended
set_option maxRecDepth 20000 in
theorem ggL_law_X5_strikes : GoodIn wsL_law wsX5_strikes := goodIn_r _ [638, 639, 640, 2, 641, 106, 107, 108, 642, 643, 644] (by decide +kernel) (by decide +kernel)
set_option maxRecDepth 20000 in
theorem gL_law_X5_strikes : GoodIn wsL_law (wsV RL 85 RX5 yX5_strikes wsX5_strikes) := goodIn_app (goodIn_of _ (by decide +kernel)) ggL_law_X5_strikes
set_option maxRecDepth 20000 in
theorem ggL_law_X6_strikes : GoodIn wsL_law wsX6_strikes := goodIn_r _ [648, 649, 650, 651, 5, 652, 653, 128, 129, 130] (by decide +kernel) (by decide +kernel)
set_option maxRecDepth 20000 in
theorem gL_law_X6_strikes : GoodIn wsL_law (wsV RL 89 RX6 yX6_strikes wsX6_strikes) := goodIn_app (goodIn_of _ (by decide +kernel)) ggL_law_X6_strikes
set_option maxRecDepth 20000 in
theorem ggL_law_X5_often : GoodIn wsL_law wsX5_often := goodIn_r _ [657, 658, 639, 640, 2, 641, 106, 107, 108, 642, 643, 644, 659, 660, 661] (by decide +kernel) (by decide +kernel)
set_option maxRecDepth 20000 in
theorem gL_law_X5_often : GoodIn wsL_law (wsV RL 90 RX5 yX5_often wsX5_often) := goodIn_app (goodIn_of _ (by decide +kernel)) ggL_law_X5_often
set_option maxRecDepth 20000 in
theorem ggL_law_X6_often : GoodIn wsL_law wsX6_often := goodIn_r _ [665, 666, 650, 651, 5, 652, 653, 128, 129, 130] (by decide +kernel) (by decide +kernel)
set_option maxRecDepth 20000 in
theorem gL_law_X6_often : GoodIn wsL_law (wsV RL 94 RX6 yX6_often wsX6_often) := goodIn_app (goodIn_of _ (by decide +kernel)) ggL_law_X6_often
set_option maxRecDepth 20000 in
theorem ggL_law_X5_seen : GoodIn wsL_law wsX5_seen := goodIn_r _ [670, 15, 671, 106, 107, 2, 108, 672, 673, 674, 14, 675, 273, 274, 275, 839, 840, 841, 842, 843, 844, 845, 846, 847, 882, 883, 884, 885, 886, 887, 888, 889, 890, 891, 892] (by decide +kernel) (by decide +kernel)
set_option maxRecDepth 20000 in
theorem gL_law_X5_seen : GoodIn wsL_law (wsV RL 95 RX5 yX5_seen wsX5_seen) := goodIn_app (goodIn_of _ (by decide +kernel)) ggL_law_X5_seen
set_option maxRecDepth 20000 in
theorem ggL_law_X6_seen : GoodIn wsL_law wsX6_seen := goodIn_r _ [679, 680, 81, 82, 463, 464, 5, 465, 168, 128, 129, 130, 848, 849, 850, 851, 852, 853, 854, 855, 856, 857, 858, 859, 860, 861, 862, 863, 864, 865, 866, 867, 868, 869, 870, 871, 872, 873, 874, 875, 876, 877, 878, 879, 880, 881] (by decide +kernel) (by decide +kernel)
set_option maxRecDepth 20000 in
theorem gL_law_X6_seen : GoodIn wsL_law (wsV RL 99 RX6 yX6_seen wsX6_seen) := goodIn_app (goodIn_of _ (by decide +kernel)) ggL_law_X6_seen
set_option maxRecDepth 20000 in
theorem ggL_law_X5_forget : GoodIn wsL_law wsX5_forget := goodIn_r _ [684, 15, 685, 686, 687, 14, 688, 273, 274, 275, 839, 840, 841, 842, 843, 844, 845, 846, 847, 882, 883, 884, 885, 886, 887, 888, 889, 890, 891, 892] (by decide +kernel) (by decide +kernel)
set_option maxRecDepth 20000 in
theorem gL_law_X5_forget : GoodIn wsL_law (wsV RL 100 RX5 yX5_forget wsX5_forget) := goodIn_app (goodIn_of _ (by decide +kernel)) ggL_law_X5_forget
set_option maxRecDepth 20000 in
theorem ggL_law_X6_forget : GoodIn wsL_law wsX6_forget := goodIn_r _ [692, 680, 848, 849, 850, 851, 852, 853, 854, 855, 856, 857, 858, 859, 860, 861, 862, 863, 864, 865, 866, 867, 868, 869, 870, 871, 872, 873, 874, 875, 876, 877, 878, 879, 880, 881] (by decide +kernel) (by decide +kernel)
set_option maxRecDepth 20000 in
theorem gL_law_X6_forget : GoodIn wsL_law (wsV RL 103 RX6 yX6_forget wsX6_forget) := goodIn_app (goodIn_of _ (by decide +kernel)) ggL_law_X6_forget
set_option maxRecDepth 20000 in
theorem ggL_law_X5_wore : GoodIn wsL_law wsX5_wore := goodIn_r _ [696, 15, 697, 698, 699, 14, 700, 274, 275, 599, 435, 436, 437, 40, 149, 142, 143, 144, 113, 839, 840, 841, 842, 843, 844, 845, 846, 847, 882, 883, 884, 885, 886, 887, 888, 889, 890, 891, 892] (by decide +kernel) (by decide +kernel)
set_option maxRecDepth 20000 in
theorem gL_law_X5_wore : GoodIn wsL_law (wsV RL 104 RX5 yX5_wore wsX5_wore) := goodIn_app (goodIn_of _ (by decide +kernel)) ggL_law_X5_wore

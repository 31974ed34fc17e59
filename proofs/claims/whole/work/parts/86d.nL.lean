set_option maxRecDepth 20000 in
theorem ggL_law_X6_wore : GoodIn wsL_law wsX6_wore := goodIn_r _ [704, 127, 680, 81, 82, 538, 539, 540, 5, 541, 397, 398, 399, 400, 80, 154, 155, 156, 157, 125, 128, 129, 130, 131, 132, 133, 848, 849, 850, 851, 852, 853, 854, 855, 856, 857, 858, 859, 860, 861, 862, 863, 864, 865, 866, 867, 868, 869, 870, 871, 872, 873, 874, 875, 876, 877, 878, 879, 880, 881] (by decide +kernel) (by decide +kernel)
set_option maxRecDepth 20000 in
theorem gL_law_X6_wore : GoodIn wsL_law (wsV RL 107 RX6 yX6_wore wsX6_wore) := goodIn_app (goodIn_of _ (by decide +kernel)) ggL_law_X6_wore
set_option maxRecDepth 20000 in
theorem ggL_law_X5_ask : GoodIn wsL_law wsX5_ask := goodIn_r _ [708, 15, 709, 617, 527, 618, 106, 107, 2, 108, 697, 698, 699, 14, 700, 274, 275, 599, 435, 436, 437, 40, 149, 142, 143, 144, 113, 529, 530, 531, 532, 305, 306, 307, 308, 114, 115, 116, 117, 118, 119, 120, 839, 840, 841, 842, 843, 844, 845, 846, 847, 882, 883, 884, 885, 886, 887, 888, 889, 890, 891, 892] (by decide +kernel) (by decide +kernel)
set_option maxRecDepth 20000 in
theorem gL_law_X5_ask : GoodIn wsL_law (wsV RL 108 RX5 yX5_ask wsX5_ask) := goodIn_app (goodIn_of _ (by decide +kernel)) ggL_law_X5_ask
set_option maxRecDepth 20000 in
theorem ggL_law_X6_ask : GoodIn wsL_law wsX6_ask := goodIn_r _ [713, 128, 129, 5, 130, 714, 702, 703, 704, 127, 680, 81, 82, 538, 539, 540, 541, 397, 398, 399, 400, 80, 154, 155, 156, 157, 125, 131, 132, 133, 134, 135, 136, 848, 849, 850, 851, 852, 853, 854, 855, 856, 857, 858, 859, 860, 861, 862, 863, 864, 865, 866, 867, 868, 869, 870, 871, 872, 873, 874, 875, 876, 877, 878, 879, 880, 881] (by decide +kernel) (by decide +kernel)
set_option maxRecDepth 20000 in
theorem gL_law_X6_ask : GoodIn wsL_law (wsV RL 111 RX6 yX6_ask wsX6_ask) := goodIn_app (goodIn_of _ (by decide +kernel)) ggL_law_X6_ask
set_option maxRecDepth 20000 in
theorem ggL_law_X5_tear : GoodIn wsL_law wsX5_tear := goodIn_r _ [718, 719, 33, 720, 721, 106, 107, 2, 108, 722, 723, 724, 32, 725, 72, 726, 727, 728, 729, 730, 731, 732, 733, 734, 735, 736, 737, 659, 660, 661, 839, 840, 841, 842, 843, 844, 845, 846, 847, 907, 908, 909] (by decide +kernel) (by decide +kernel)
set_option maxRecDepth 20000 in
theorem gL_law_X5_tear : GoodIn wsL_law (wsV RL 112 RX5 yX5_tear wsX5_tear) := goodIn_app (goodIn_of _ (by decide +kernel)) ggL_law_X5_tear
set_option maxRecDepth 20000 in
theorem ggL_law_X6_tear : GoodIn wsL_law wsX6_tear := goodIn_r _ [741, 742, 743, 744, 745, 95, 128, 129, 5, 130, 746, 747, 748, 848, 849, 850, 851, 852, 853, 854, 855, 856, 857, 858, 859, 860, 861, 862, 863, 864, 865, 866, 867, 868, 869, 870, 871, 872, 873, 874, 875, 876, 877, 878, 879, 880, 881] (by decide +kernel) (by decide +kernel)
set_option maxRecDepth 20000 in
theorem gL_law_X6_tear : GoodIn wsL_law (wsV RL 116 RX6 yX6_tear wsX6_tear) := goodIn_app (goodIn_of _ (by decide +kernel)) ggL_law_X6_tear
set_option maxRecDepth 20000 in
theorem ggL_law_X5_vespers : GoodIn wsL_law wsX5_vespers := goodIn_r _ [752, 15, 141, 142, 143, 14, 144, 113, 106, 107, 2, 108, 753, 754, 755, 756, 757, 758, 759, 760, 599, 435, 436, 437, 40, 149, 761, 115, 116, 117, 118, 119, 120, 839, 840, 841, 842, 843, 844, 845, 846, 847, 882, 883, 884, 885, 886, 887, 888, 889, 890, 891, 892] (by decide +kernel) (by decide +kernel)
set_option maxRecDepth 20000 in
theorem gL_law_X5_vespers : GoodIn wsL_law (wsV RL 117 RX5 yX5_vespers wsX5_vespers) := goodIn_app (goodIn_of _ (by decide +kernel)) ggL_law_X5_vespers
set_option maxRecDepth 20000 in
theorem ggL_law_X6_vespers : GoodIn wsL_law wsX6_vespers := goodIn_r _ [765, 653, 154, 155, 156, 5, 157, 125, 127, 128, 129, 130, 604, 605, 606, 607, 397, 398, 399, 400, 80, 131, 132, 133, 134, 135, 136, 848, 849, 850, 851, 852, 853, 854, 855, 856, 857, 858, 859, 860, 861, 862, 863, 864, 865, 866, 867, 868, 869, 870, 871, 872, 873, 874, 875, 876, 877, 878, 879, 880, 881] (by decide +kernel) (by decide +kernel)
set_option maxRecDepth 20000 in
theorem gL_law_X6_vespers : GoodIn wsL_law (wsV RL 120 RX6 yX6_vespers wsX6_vespers) := goodIn_app (goodIn_of _ (by decide +kernel)) ggL_law_X6_vespers
set_option maxRecDepth 20000 in
theorem ggL_law_X5_reign : GoodIn wsL_law wsX5_reign := goodIn_r _ [769, 25, 15, 433, 251, 106, 107, 2, 108, 770, 771, 772, 24, 773, 774, 263, 264, 265, 266, 55, 261, 267, 259, 260, 268, 269, 270, 14, 271, 113, 272, 38, 273, 274, 275, 40, 276, 277, 278, 279, 41, 42, 43, 44, 775, 776, 777, 778, 285, 286, 287, 288, 149, 142, 143, 144, 289, 290, 291, 292, 313, 314, 315, 316, 305, 306, 307, 308, 309, 310, 311, 312, 301, 302, 303, 304, 321, 322, 323, 324, 325, 326, 327, 328, 329, 330, 331, 332, 56, 57, 333, 58, 334, 335, 336, 337, 338, 339, 340, 341, 342, 343, 344, 345, 779, 780, 781, 782, 494, 495, 496, 497, 490, 491, 492, 493, 474, 475, 476, 477, 839, 840, 841, 842, 843, 844, 845, 846, 847, 895, 896, 897, 898, 899, 900, 901, 902, 903, 882, 883, 884, 885, 886, 887, 888, 889, 890, 891, 892] (by decide +kernel) (by decide +kernel)
set_option maxRecDepth 20000 in
theorem gL_law_X5_reign : GoodIn wsL_law (wsV RL 121 RX5 yX5_reign wsX5_reign) := goodIn_app (goodIn_of _ (by decide +kernel)) ggL_law_X5_reign
set_option maxRecDepth 20000 in
theorem ggL_law_X6_reign : GoodIn wsL_law wsX6_reign := goodIn_r _ [786, 787, 788, 366, 91, 789, 790, 791, 79, 369, 388, 128, 129, 5, 130, 375, 376, 377, 378, 77, 78, 80, 170, 383, 384, 385, 386, 387, 389, 390, 391, 392, 393, 394, 395, 396, 154, 155, 156, 157, 125, 127, 397, 398, 399, 400, 131, 132, 133, 401, 402, 403, 404, 405, 406, 407, 408, 88, 89, 90, 99, 409, 410, 411, 412, 413, 414, 415, 416, 417, 418, 419, 420, 421, 422, 423, 424, 425, 426, 427, 428, 848, 849, 850, 851, 852, 853, 854, 855, 856, 857, 858, 859, 860, 861, 862, 863, 864, 865, 866, 867, 868, 869, 870, 871, 872, 873, 874, 875, 876, 877, 878, 879, 880, 881] (by decide +kernel) (by decide +kernel)
set_option maxRecDepth 20000 in
theorem gL_law_X6_reign : GoodIn wsL_law (wsV RL 124 RX6 yX6_reign wsX6_reign) := goodIn_app (goodIn_of _ (by decide +kernel)) ggL_law_X6_reign
set_option maxRecDepth 20000 in
theorem ggL_law_X5_image : GoodIn wsL_law wsX5_image := goodIn_r _ [795, 16, 15, 796, 17, 797, 106, 107, 2, 108, 507, 269, 270, 14, 271, 113, 272, 38, 273, 274, 275, 40, 276, 277, 278, 279, 41, 42, 43, 44, 839, 840, 841, 842, 843, 844, 845, 846, 847, 882, 883, 884, 885, 886, 887, 888, 889, 890, 891, 892] (by decide +kernel) (by decide +kernel)
set_option maxRecDepth 20000 in
theorem gL_law_X5_image : GoodIn wsL_law (wsV RL 125 RX5 yX5_image wsX5_image) := goodIn_app (goodIn_of _ (by decide +kernel)) ggL_law_X5_image
set_option maxRecDepth 20000 in
theorem ggL_law_X6_image : GoodIn wsL_law wsX6_image := goodIn_r _ [801, 802, 803, 98, 128, 129, 5, 130, 804, 805, 806, 807, 127, 170, 99, 680, 77, 78, 79, 80, 81, 82, 808, 809, 810, 811, 96, 848, 849, 850, 851, 852, 853, 854, 855, 856, 857, 858, 859, 860, 861, 862, 863, 864, 865, 866, 867, 868, 869, 870, 871, 872, 873, 874, 875, 876, 877, 878, 879, 880, 881] (by decide +kernel) (by decide +kernel)
set_option maxRecDepth 20000 in
theorem gL_law_X6_image : GoodIn wsL_law (wsV RL 128 RX6 yX6_image wsX6_image) := goodIn_app (goodIn_of _ (by decide +kernel)) ggL_law_X6_image
set_option maxRecDepth 20000 in
theorem ggL_law_X5_restore : GoodIn wsL_law wsX5_restore := goodIn_r _ [815, 796, 797, 15, 16, 17, 106, 107, 2, 108, 507, 269, 270, 14, 271, 113, 272, 38, 273, 274, 275, 40, 276, 277, 278, 279, 41, 42, 43, 44, 839, 840, 841, 842, 843, 844, 845, 846, 847, 882, 883, 884, 885, 886, 887, 888, 889, 890, 891, 892] (by decide +kernel) (by decide +kernel)
set_option maxRecDepth 20000 in
theorem gL_law_X5_restore : GoodIn wsL_law (wsV RL 129 RX5 yX5_restore wsX5_restore) := goodIn_app (goodIn_of _ (by decide +kernel)) ggL_law_X5_restore
set_option maxRecDepth 20000 in
theorem ggL_law_X6_restore : GoodIn wsL_law wsX6_restore := goodIn_r _ [819, 98, 802, 803, 128, 129, 5, 130, 804, 805, 806, 807, 127, 170, 99, 680, 77, 78, 79, 80, 81, 82, 808, 809, 810, 811, 96, 848, 849, 850, 851, 852, 853, 854, 855, 856, 857, 858, 859, 860, 861, 862, 863, 864, 865, 866, 867, 868, 869, 870, 871, 872, 873, 874, 875, 876, 877, 878, 879, 880, 881] (by decide +kernel) (by decide +kernel)
set_option maxRecDepth 20000 in
theorem gL_law_X6_restore : GoodIn wsL_law (wsV RL 132 RX6 yX6_restore wsX6_restore) := goodIn_app (goodIn_of _ (by decide +kernel)) ggL_law_X6_restore
set_option maxRecDepth 20000 in
theorem ggL_law_X5_told : GoodIn wsL_law wsX5_told := goodIn_r _ [823, 21, 175, 15, 105, 162, 163, 671, 824, 825, 826, 2, 827, 141, 142, 143, 14, 144, 113, 106, 107, 108, 438, 439, 440, 441, 43, 41, 42, 149, 455, 456, 457, 458, 44, 305, 306, 307, 308, 40, 839, 840, 841, 842, 843, 844, 845, 846, 847, 893, 894, 882, 883, 884, 885, 886, 887, 888, 889, 890, 891, 892] (by decide +kernel) (by decide +kernel)
set_option maxRecDepth 20000 in
theorem gL_law_X5_told : GoodIn wsL_law (wsV RL 133 RX5 yX5_told wsX5_told) := goodIn_app (goodIn_of _ (by decide +kernel)) ggL_law_X5_told
set_option maxRecDepth 20000 in
theorem ggL_law_X6_told : GoodIn wsL_law wsX6_told := goodIn_r _ [831, 832, 833, 80, 744, 834, 187, 127, 170, 99, 680, 128, 129, 5, 130, 154, 155, 156, 157, 125, 463, 464, 465, 168, 131, 132, 133, 835, 836, 837, 838, 77, 78, 79, 848, 849, 850, 851, 852, 853, 854, 855, 856, 857, 858, 859, 860, 861, 862, 863, 864, 865, 866, 867, 868, 869, 870, 871, 872, 873, 874, 875, 876, 877, 878, 879, 880, 881] (by decide +kernel) (by decide +kernel)
set_option maxRecDepth 20000 in
theorem gL_law_X6_told : GoodIn wsL_law (wsV RL 136 RX6 yX6_told wsX6_told) := goodIn_app (goodIn_of _ (by decide +kernel)) ggL_law_X6_told

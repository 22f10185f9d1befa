set_option maxRecDepth 20000 in
theorem ggL_law_X5_init : GoodIn wsL_law wsX5_init := goodIn_r _ [8, 9, 10, 11, 12, 13, 14, 15, 16, 17, 18, 19, 20, 21, 22, 23, 24, 25, 26, 27, 28, 29, 30, 31, 32, 33, 34, 35, 36, 37, 38, 39, 40, 41, 42, 43, 44, 45, 46, 47, 48, 49, 50, 51, 52, 53, 54, 55, 56, 57, 58, 59, 60, 61, 62, 63, 64, 65, 66, 67, 68, 69, 70, 71, 72, 73, 74, 75, 813, 814, 815, 816, 817, 818, 819, 820, 821, 822, 823, 844, 845, 846, 847, 848, 849, 850, 851, 852, 853, 854, 855, 856, 857, 858, 859, 860, 861, 862, 863] (by decide +kernel) (by decide +kernel)
set_option maxRecDepth 20000 in
theorem gL_law_X5_init : GoodIn wsL_law (wsX5_init) := ggL_law_X5_init
set_option maxRecDepth 20000 in
theorem ggL_law_X6_init : GoodIn wsL_law wsX6_init := goodIn_r _ [78, 79, 10, 11, 33, 80, 81, 82, 83, 84, 85, 86, 87, 88, 89, 90, 91, 92, 93, 824, 825, 826, 827, 828, 829, 830, 831, 832, 833, 834, 835, 836, 837, 838, 839, 840, 841, 842, 843] (by decide +kernel) (by decide +kernel)
set_option maxRecDepth 20000 in
theorem gL_law_X6_init : GoodIn wsL_law (wsX6_init) := ggL_law_X6_init
set_option maxRecDepth 20000 in
theorem ggL_law_X5_row : GoodIn wsL_law wsX5_row := goodIn_r _ [97, 98, 13, 99, 100, 2, 101, 102, 103, 104, 105, 106, 107, 108, 36, 109, 110, 111, 112, 38, 113, 73, 74, 75, 72, 114, 115, 116, 117, 813, 814, 815, 816, 817, 818, 819, 820, 821, 822, 823, 860, 861, 862, 863] (by decide +kernel) (by decide +kernel)
set_option maxRecDepth 20000 in
theorem gL_law_X5_row : GoodIn wsL_law (wsV RL 13 RX5 yX5_row wsX5_row) := goodIn_app (goodIn_of _ (by decide +kernel)) ggL_law_X5_row
set_option maxRecDepth 20000 in
theorem ggL_law_X6_row : GoodIn wsL_law wsX6_row := goodIn_r _ [121, 122, 123, 80, 81, 82, 124, 125, 5, 126, 127, 128, 129, 130, 131, 132, 133, 134, 135, 136, 137, 824, 825, 826, 827, 828, 829, 830, 831, 832, 833, 834, 835, 836, 837, 838, 839, 840, 841, 842, 843] (by decide +kernel) (by decide +kernel)
set_option maxRecDepth 20000 in
theorem gL_law_X6_row : GoodIn wsL_law (wsV RL 17 RX6 yX6_row wsX6_row) := goodIn_app (goodIn_of _ (by decide +kernel)) ggL_law_X6_row
set_option maxRecDepth 20000 in
theorem ggL_law_X5_set : GoodIn wsL_law wsX5_set := goodIn_r _ [141, 98, 13, 142, 143, 99, 100, 2, 101, 102, 103, 104, 105, 106, 107, 108, 36, 109, 144, 145, 146, 38, 147, 75, 148, 149, 150, 151, 74, 114, 115, 116, 117, 813, 814, 815, 816, 817, 818, 819, 820, 821, 822, 823, 860, 861, 862, 863] (by decide +kernel) (by decide +kernel)
set_option maxRecDepth 20000 in
theorem gL_law_X5_set : GoodIn wsL_law (wsV RL 18 RX5 yX5_set wsX5_set) := goodIn_app (goodIn_of _ (by decide +kernel)) ggL_law_X5_set
set_option maxRecDepth 20000 in
theorem ggL_law_X6_set : GoodIn wsL_law wsX6_set := goodIn_r _ [155, 122, 80, 135, 156, 81, 82, 137, 124, 125, 5, 126, 127, 128, 129, 130, 131, 132, 133, 134, 136, 157, 158, 159, 160, 161, 162, 163, 824, 825, 826, 827, 828, 829, 830, 831, 832, 833, 834, 835, 836, 837, 838, 839, 840, 841, 842, 843] (by decide +kernel) (by decide +kernel)
set_option maxRecDepth 20000 in
theorem gL_law_X6_set : GoodIn wsL_law (wsV RL 21 RX6 yX6_set wsX6_set) := goodIn_app (goodIn_of _ (by decide +kernel)) ggL_law_X6_set
set_option maxRecDepth 20000 in
theorem ggL_law_X5_copy : GoodIn wsL_law wsX5_copy := goodIn_r _ [167, 98, 13, 142, 168, 143, 169, 170, 171, 172, 99, 100, 2, 101, 102, 103, 104, 105, 106, 107, 108, 36, 109, 144, 145, 146, 38, 147, 75, 114, 115, 116, 117, 813, 814, 815, 816, 817, 818, 819, 820, 821, 822, 823, 860, 861, 862, 863] (by decide +kernel) (by decide +kernel)
set_option maxRecDepth 20000 in
theorem gL_law_X5_copy : GoodIn wsL_law (wsV RL 22 RX5 yX5_copy wsX5_copy) := goodIn_app (goodIn_of _ (by decide +kernel)) ggL_law_X5_copy
set_option maxRecDepth 20000 in
theorem ggL_law_X6_copy : GoodIn wsL_law wsX6_copy := goodIn_r _ [176, 122, 80, 135, 81, 134, 156, 83, 82, 124, 125, 5, 126, 127, 128, 129, 130, 131, 132, 133, 136, 137, 157, 158, 159, 160, 824, 825, 826, 827, 828, 829, 830, 831, 832, 833, 834, 835, 836, 837, 838, 839, 840, 841, 842, 843] (by decide +kernel) (by decide +kernel)
set_option maxRecDepth 20000 in
theorem gL_law_X6_copy : GoodIn wsL_law (wsV RL 26 RX6 yX6_copy wsX6_copy) := goodIn_app (goodIn_of _ (by decide +kernel)) ggL_law_X6_copy
set_option maxRecDepth 20000 in
theorem ggL_law_X5_drop : GoodIn wsL_law wsX5_drop := goodIn_r _ [180, 98, 13, 142, 181, 99, 100, 2, 101, 102, 103, 104, 105, 106, 107, 108, 36, 109, 114, 115, 116, 117, 813, 814, 815, 816, 817, 818, 819, 820, 821, 822, 823, 860, 861, 862, 863] (by decide +kernel) (by decide +kernel)
set_option maxRecDepth 20000 in
theorem gL_law_X5_drop : GoodIn wsL_law (wsV RL 27 RX5 yX5_drop wsX5_drop) := goodIn_app (goodIn_of _ (by decide +kernel)) ggL_law_X5_drop
set_option maxRecDepth 20000 in
theorem ggL_law_X6_drop : GoodIn wsL_law wsX6_drop := goodIn_r _ [185, 122, 80, 135, 124, 125, 5, 126, 127, 128, 129, 130, 131, 132, 133, 134, 136, 137, 824, 825, 826, 827, 828, 829, 830, 831, 832, 833, 834, 835, 836, 837, 838, 839, 840, 841, 842, 843] (by decide +kernel) (by decide +kernel)
set_option maxRecDepth 20000 in
theorem gL_law_X6_drop : GoodIn wsL_law (wsV RL 31 RX6 yX6_drop wsX6_drop) := goodIn_app (goodIn_of _ (by decide +kernel)) ggL_law_X6_drop
set_option maxRecDepth 20000 in
theorem ggL_law_X5_feed : GoodIn wsL_law wsX5_feed := goodIn_r _ [189, 98, 17, 190, 191, 102, 103, 2, 104, 192, 193, 194, 16, 195, 43, 42, 813, 814, 815, 816, 817, 818, 819, 820, 821, 822, 823, 844, 845, 846] (by decide +kernel) (by decide +kernel)
set_option maxRecDepth 20000 in
theorem gL_law_X5_feed : GoodIn wsL_law (wsV RL 32 RX5 yX5_feed wsX5_feed) := goodIn_app (goodIn_of _ (by decide +kernel)) ggL_law_X5_feed
set_option maxRecDepth 20000 in
theorem ggL_law_X6_feed : GoodIn wsL_law wsX6_feed := goodIn_r _ [199, 122, 200, 201, 84, 127, 128, 5, 129, 824, 825, 826, 827, 828, 829, 830, 831, 832, 833, 834, 835, 836, 837, 838, 839, 840, 841, 842, 843] (by decide +kernel) (by decide +kernel)
set_option maxRecDepth 20000 in
theorem gL_law_X6_feed : GoodIn wsL_law (wsV RL 35 RX6 yX6_feed wsX6_feed) := goodIn_app (goodIn_of _ (by decide +kernel)) ggL_law_X6_feed
set_option maxRecDepth 20000 in
theorem ggL_law_X5_stair : GoodIn wsL_law wsX5_stair := goodIn_r _ [205, 17, 31, 190, 206, 207, 21, 25, 208, 209, 210, 211, 16, 212, 43, 44, 213, 214, 215, 216, 217, 20, 218, 48, 49, 50, 51, 54, 219, 220, 221, 222, 42, 223, 224, 225, 226, 227, 228, 229, 230, 231, 232, 233, 234, 235, 236, 237, 238, 239, 240, 241, 242, 243, 244, 103, 2, 104, 245, 246, 247, 248, 249, 250, 251, 252, 253, 254, 255, 256, 257, 258, 259, 260, 261, 262, 52, 263, 170, 171, 172, 53, 264, 265, 266, 24, 267, 63, 813, 814, 815, 816, 817, 818, 819, 820, 821, 822, 823, 844, 845, 846, 847, 848, 849, 850, 851, 852, 853, 854, 855, 856, 857] (by decide +kernel) (by decide +kernel)
set_option maxRecDepth 20000 in
theorem gL_law_X5_stair : GoodIn wsL_law (wsV RL 36 RX5 yX5_stair wsX5_stair) := goodIn_app (goodIn_of _ (by decide +kernel)) ggL_law_X5_stair
set_option maxRecDepth 20000 in
theorem ggL_law_X6_stair : GoodIn wsL_law wsX6_stair := goodIn_r _ [271, 86, 200, 272, 273, 274, 275, 85, 276, 277, 278, 279, 5, 280, 281, 282, 283, 284, 285, 286, 287, 288, 84, 289, 290, 291, 292, 293, 294, 295, 296, 297, 298, 299, 127, 128, 129, 300, 301, 302, 824, 825, 826, 827, 828, 829, 830, 831, 832, 833, 834, 835, 836, 837, 838, 839, 840, 841, 842, 843] (by decide +kernel) (by decide +kernel)
set_option maxRecDepth 20000 in
theorem gL_law_X6_stair : GoodIn wsL_law (wsV RL 40 RX6 yX6_stair wsX6_stair) := goodIn_app (goodIn_of _ (by decide +kernel)) ggL_law_X6_stair
set_option maxRecDepth 20000 in
theorem ggL_law_X5_fault : GoodIn wsL_law wsX5_fault := goodIn_r _ [306, 17, 307, 813, 814, 815, 816, 817, 818, 819, 820, 821, 822, 823, 844, 845, 846] (by decide +kernel) (by decide +kernel)
set_option maxRecDepth 20000 in
theorem gL_law_X5_fault : GoodIn wsL_law (wsV RL 41 RX5 yX5_fault wsX5_fault) := goodIn_app (goodIn_of _ (by decide +kernel)) ggL_law_X5_fault
set_option maxRecDepth 20000 in
theorem ggL_law_X6_fault : GoodIn wsL_law wsX6_fault := goodIn_r _ [311, 273, 824, 825, 826, 827, 828, 829, 830, 831, 832, 833, 834, 835, 836, 837, 838, 839, 840, 841, 842, 843] (by decide +kernel) (by decide +kernel)
set_option maxRecDepth 20000 in
theorem gL_law_X6_fault : GoodIn wsL_law (wsV RL 44 RX6 yX6_fault wsX6_fault) := goodIn_app (goodIn_of _ (by decide +kernel)) ggL_law_X6_fault
set_option maxRecDepth 20000 in
theorem ggL_law_X5_ticks : GoodIn wsL_law wsX5_ticks := goodIn_r _ [315, 316, 98, 21, 317, 191, 25, 318, 319, 320, 2, 321, 208, 102, 103, 104, 322, 323, 324, 24, 325, 61, 62, 63, 326, 327, 328, 329, 330, 260, 261, 20, 262, 48, 49, 50, 51, 52, 263, 170, 171, 172, 53, 54, 331, 332, 333, 334, 335, 55, 336, 337, 338, 339, 340, 341, 342, 343, 344, 345, 346, 347, 348, 349, 350, 351, 352, 353, 354, 355, 356, 357, 358, 359, 360, 361, 362, 363, 364, 365, 366, 367, 368, 369, 370, 371, 372, 373, 374, 375, 376, 377, 378, 379, 380, 381, 382, 383, 384, 385, 386, 813, 814, 815, 816, 817, 818, 819, 820, 821, 822, 823, 847, 848, 849, 850, 851, 852, 853, 854, 855, 856, 857] (by decide +kernel) (by decide +kernel)
set_option maxRecDepth 20000 in
theorem gL_law_X5_ticks : GoodIn wsL_law (wsV RL 45 RX5 yX5_ticks wsX5_ticks) := goodIn_app (goodIn_of _ (by decide +kernel)) ggL_law_X5_ticks

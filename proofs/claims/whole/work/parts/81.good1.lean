set_option maxRecDepth 20000 in
theorem ggL_law_X6_ticks : GoodIn wsL_law wsX6_ticks := goodIn_r _ [390, 391, 122, 85, 201, 392, 393, 394, 5, 395, 127, 128, 129, 396, 397, 398, 399, 276, 90, 400, 401, 402, 403, 92, 404, 405, 406, 407, 408, 409, 410, 411, 412, 413, 414, 415, 416, 417, 418, 824, 825, 826, 827, 828, 829, 830, 831, 832, 833, 834, 835, 836, 837, 838, 839, 840, 841, 842, 843] (by decide +kernel) (by decide +kernel)
set_option maxRecDepth 20000 in
theorem gL_law_X6_ticks : GoodIn wsL_law (wsV RL 48 RX6 yX6_ticks wsX6_ticks) := goodIn_app (goodIn_of _ (by decide +kernel)) ggL_law_X6_ticks
set_option maxRecDepth 20000 in
theorem ggL_law_X5_speed : GoodIn wsL_law wsX5_speed := goodIn_r _ [422, 316, 98, 21, 423, 25, 318, 319, 320, 2, 321, 208, 102, 103, 104, 322, 323, 324, 24, 325, 61, 62, 63, 326, 327, 328, 329, 330, 260, 261, 20, 262, 48, 49, 50, 51, 52, 263, 170, 171, 172, 53, 54, 813, 814, 815, 816, 817, 818, 819, 820, 821, 822, 823, 847, 848, 849, 850, 851, 852, 853, 854, 855, 856, 857] (by decide +kernel) (by decide +kernel)
set_option maxRecDepth 20000 in
theorem gL_law_X5_speed : GoodIn wsL_law (wsV RL 49 RX5 yX5_speed wsX5_speed) := goodIn_app (goodIn_of _ (by decide +kernel)) ggL_law_X5_speed
set_option maxRecDepth 20000 in
theorem ggL_law_X6_speed : GoodIn wsL_law wsX6_speed := goodIn_r _ [427, 391, 122, 85, 392, 393, 394, 5, 395, 127, 128, 129, 396, 397, 398, 399, 276, 90, 824, 825, 826, 827, 828, 829, 830, 831, 832, 833, 834, 835, 836, 837, 838, 839, 840, 841, 842, 843] (by decide +kernel) (by decide +kernel)
set_option maxRecDepth 20000 in
theorem gL_law_X6_speed : GoodIn wsL_law (wsV RL 52 RX6 yX6_speed wsX6_speed) := goodIn_app (goodIn_of _ (by decide +kernel)) ggL_law_X6_speed
set_option maxRecDepth 20000 in
theorem ggL_law_X5_cross : GoodIn wsL_law wsX5_cross := goodIn_r _ [431, 98, 21, 432, 316, 25, 433, 434, 435, 436, 2, 437, 208, 102, 103, 104, 438, 439, 440, 20, 441, 54, 53, 344, 345, 346, 347, 48, 442, 443, 444, 445, 52, 446, 447, 448, 449, 51, 322, 323, 324, 24, 325, 61, 62, 63, 326, 327, 328, 329, 330, 260, 261, 262, 49, 50, 263, 170, 171, 172, 813, 814, 815, 816, 817, 818, 819, 820, 821, 822, 823, 847, 848, 849, 850, 851, 852, 853, 854, 855, 856, 857] (by decide +kernel) (by decide +kernel)
set_option maxRecDepth 20000 in
theorem gL_law_X5_cross : GoodIn wsL_law (wsV RL 53 RX5 yX5_cross wsX5_cross) := goodIn_app (goodIn_of _ (by decide +kernel)) ggL_law_X5_cross
set_option maxRecDepth 20000 in
theorem ggL_law_X6_cross : GoodIn wsL_law wsX6_cross := goodIn_r _ [453, 122, 85, 391, 454, 455, 456, 5, 457, 127, 128, 129, 413, 414, 415, 410, 411, 412, 396, 397, 398, 399, 276, 90, 824, 825, 826, 827, 828, 829, 830, 831, 832, 833, 834, 835, 836, 837, 838, 839, 840, 841, 842, 843] (by decide +kernel) (by decide +kernel)
set_option maxRecDepth 20000 in
theorem gL_law_X6_cross : GoodIn wsL_law (wsV RL 56 RX6 yX6_cross wsX6_cross) := goodIn_app (goodIn_of _ (by decide +kernel)) ggL_law_X6_cross
set_option maxRecDepth 20000 in
theorem ggL_law_X5_take : GoodIn wsL_law wsX5_take := goodIn_r _ [461, 98, 21, 432, 316, 25, 434, 435, 436, 2, 437, 208, 102, 103, 104, 322, 323, 324, 24, 325, 61, 62, 63, 326, 327, 328, 329, 330, 260, 261, 20, 262, 48, 49, 50, 51, 52, 263, 170, 171, 172, 53, 54, 813, 814, 815, 816, 817, 818, 819, 820, 821, 822, 823, 847, 848, 849, 850, 851, 852, 853, 854, 855, 856, 857] (by decide +kernel) (by decide +kernel)
set_option maxRecDepth 20000 in
theorem gL_law_X5_take : GoodIn wsL_law (wsV RL 57 RX5 yX5_take wsX5_take) := goodIn_app (goodIn_of _ (by decide +kernel)) ggL_law_X5_take
set_option maxRecDepth 20000 in
theorem ggL_law_X6_take : GoodIn wsL_law wsX6_take := goodIn_r _ [465, 122, 85, 391, 454, 455, 456, 5, 457, 127, 128, 129, 396, 397, 398, 399, 276, 90, 824, 825, 826, 827, 828, 829, 830, 831, 832, 833, 834, 835, 836, 837, 838, 839, 840, 841, 842, 843] (by decide +kernel) (by decide +kernel)
set_option maxRecDepth 20000 in
theorem gL_law_X6_take : GoodIn wsL_law (wsV RL 60 RX6 yX6_take wsX6_take) := goodIn_app (goodIn_of _ (by decide +kernel)) ggL_law_X6_take
set_option maxRecDepth 20000 in
theorem ggL_law_X5_again : GoodIn wsL_law wsX5_again := goodIn_r _ [469, 98, 21, 432, 316, 25, 434, 435, 436, 2, 437, 208, 102, 103, 104, 322, 323, 324, 24, 325, 61, 62, 63, 326, 327, 328, 329, 330, 260, 261, 20, 262, 48, 49, 50, 51, 52, 263, 170, 171, 172, 53, 54, 470, 471, 472, 473, 372, 373, 374, 375, 376, 377, 378, 379, 380, 381, 382, 383, 384, 385, 386, 813, 814, 815, 816, 817, 818, 819, 820, 821, 822, 823, 847, 848, 849, 850, 851, 852, 853, 854, 855, 856, 857] (by decide +kernel) (by decide +kernel)
set_option maxRecDepth 20000 in
theorem gL_law_X5_again : GoodIn wsL_law (wsV RL 61 RX5 yX5_again wsX5_again) := goodIn_app (goodIn_of _ (by decide +kernel)) ggL_law_X5_again
set_option maxRecDepth 20000 in
theorem ggL_law_X6_again : GoodIn wsL_law wsX6_again := goodIn_r _ [477, 122, 85, 391, 454, 455, 456, 5, 457, 127, 128, 129, 396, 397, 398, 399, 276, 90, 416, 417, 418, 824, 825, 826, 827, 828, 829, 830, 831, 832, 833, 834, 835, 836, 837, 838, 839, 840, 841, 842, 843] (by decide +kernel) (by decide +kernel)
set_option maxRecDepth 20000 in
theorem gL_law_X6_again : GoodIn wsL_law (wsV RL 65 RX6 yX6_again wsX6_again) := goodIn_app (goodIn_of _ (by decide +kernel)) ggL_law_X6_again
set_option maxRecDepth 20000 in
theorem ggL_law_X5_undo : GoodIn wsL_law wsX5_undo := goodIn_r _ [481, 25, 482, 316, 21, 483, 484, 485, 24, 486, 62, 61, 63, 487, 488, 328, 489, 330, 260, 261, 20, 262, 48, 49, 50, 51, 52, 263, 170, 171, 172, 53, 54, 813, 814, 815, 816, 817, 818, 819, 820, 821, 822, 823, 855, 856, 857, 847, 848, 849, 850, 851, 852, 853, 854] (by decide +kernel) (by decide +kernel)
set_option maxRecDepth 20000 in
theorem gL_law_X5_undo : GoodIn wsL_law (wsV RL 66 RX5 yX5_undo wsX5_undo) := goodIn_app (goodIn_of _ (by decide +kernel)) ggL_law_X5_undo
set_option maxRecDepth 20000 in
theorem ggL_law_X6_undo : GoodIn wsL_law wsX6_undo := goodIn_r _ [493, 276, 391, 85, 90, 824, 825, 826, 827, 828, 829, 830, 831, 832, 833, 834, 835, 836, 837, 838, 839, 840, 841, 842, 843] (by decide +kernel) (by decide +kernel)
set_option maxRecDepth 20000 in
theorem gL_law_X6_undo : GoodIn wsL_law (wsV RL 69 RX6 yX6_undo wsX6_undo) := goodIn_app (goodIn_of _ (by decide +kernel)) ggL_law_X6_undo
set_option maxRecDepth 20000 in
theorem ggL_law_X5_rider : GoodIn wsL_law wsX5_rider := goodIn_r _ [497, 98, 21, 432, 433, 434, 435, 436, 2, 437, 208, 102, 103, 104, 498, 443, 444, 20, 445, 52, 499, 500, 501, 502, 345, 346, 347, 54, 48, 503, 357, 358, 359, 360, 361, 362, 363, 51, 53, 813, 814, 815, 816, 817, 818, 819, 820, 821, 822, 823, 847, 848, 849, 850, 851, 852, 853, 854] (by decide +kernel) (by decide +kernel)
set_option maxRecDepth 20000 in
theorem gL_law_X5_rider : GoodIn wsL_law (wsV RL 70 RX5 yX5_rider wsX5_rider) := goodIn_app (goodIn_of _ (by decide +kernel)) ggL_law_X5_rider
set_option maxRecDepth 20000 in
theorem ggL_law_X6_rider : GoodIn wsL_law wsX6_rider := goodIn_r _ [507, 122, 85, 454, 455, 456, 5, 457, 127, 128, 129, 413, 414, 415, 410, 411, 412, 824, 825, 826, 827, 828, 829, 830, 831, 832, 833, 834, 835, 836, 837, 838, 839, 840, 841, 842, 843] (by decide +kernel) (by decide +kernel)
set_option maxRecDepth 20000 in
theorem gL_law_X6_rider : GoodIn wsL_law (wsV RL 73 RX6 yX6_rider wsX6_rider) := goodIn_app (goodIn_of _ (by decide +kernel)) ggL_law_X6_rider
set_option maxRecDepth 20000 in
theorem ggL_law_X5_step : GoodIn wsL_law wsX5_step := goodIn_r _ [511, 21, 512, 98, 102, 103, 2, 104, 513, 447, 448, 20, 449, 51, 54, 53, 442, 443, 444, 445, 52, 813, 814, 815, 816, 817, 818, 819, 820, 821, 822, 823, 847, 848, 849, 850, 851, 852, 853, 854] (by decide +kernel) (by decide +kernel)
set_option maxRecDepth 20000 in
theorem gL_law_X5_step : GoodIn wsL_law (wsV RL 74 RX5 yX5_step wsX5_step) := goodIn_app (goodIn_of _ (by decide +kernel)) ggL_law_X5_step
set_option maxRecDepth 20000 in
theorem ggL_law_X6_step : GoodIn wsL_law wsX6_step := goodIn_r _ [517, 85, 122, 127, 128, 5, 129, 824, 825, 826, 827, 828, 829, 830, 831, 832, 833, 834, 835, 836, 837, 838, 839, 840, 841, 842, 843] (by decide +kernel) (by decide +kernel)
set_option maxRecDepth 20000 in
theorem gL_law_X6_step : GoodIn wsL_law (wsV RL 77 RX6 yX6_step wsX6_step) := goodIn_app (goodIn_of _ (by decide +kernel)) ggL_law_X6_step
set_option maxRecDepth 20000 in
theorem ggL_law_X5_ahead : GoodIn wsL_law wsX5_ahead := goodIn_r _ [521, 98, 31, 432, 434, 435, 436, 2, 437, 21, 208, 102, 103, 104, 522, 523, 524, 525, 259, 260, 261, 20, 262, 48, 49, 50, 51, 52, 263, 170, 171, 172, 53, 54, 331, 332, 333, 334, 335, 55, 336, 337, 338, 339, 340, 341, 342, 343, 344, 345, 346, 347, 348, 349, 350, 351, 352, 353, 354, 355, 356, 357, 358, 359, 360, 361, 362, 363, 364, 365, 366, 367, 368, 369, 370, 371, 813, 814, 815, 816, 817, 818, 819, 820, 821, 822, 823, 847, 848, 849, 850, 851, 852, 853, 854] (by decide +kernel) (by decide +kernel)
set_option maxRecDepth 20000 in
theorem gL_law_X5_ahead : GoodIn wsL_law (wsV RL 78 RX5 yX5_ahead wsX5_ahead) := goodIn_app (goodIn_of _ (by decide +kernel)) ggL_law_X5_ahead
set_option maxRecDepth 20000 in
theorem ggL_law_X6_ahead : GoodIn wsL_law wsX6_ahead := goodIn_r _ [529, 122, 91, 454, 455, 456, 5, 457, 85, 127, 128, 129, 530, 531, 532, 533, 400, 401, 402, 403, 92, 404, 405, 406, 407, 408, 409, 410, 411, 412, 413, 414, 415, 824, 825, 826, 827, 828, 829, 830, 831, 832, 833, 834, 835, 836, 837, 838, 839, 840, 841, 842, 843] (by decide +kernel) (by decide +kernel)
set_option maxRecDepth 20000 in
theorem gL_law_X6_ahead : GoodIn wsL_law (wsV RL 81 RX6 yX6_ahead wsX6_ahead) := goodIn_app (goodIn_of _ (by decide +kernel)) ggL_law_X6_ahead

set_option maxRecDepth 20000 in
theorem ggL_law_X6_drawn : GoodIn wsL_law wsX6_drawn := goodIn_r _ [709, 391, 710, 122, 711, 712, 91, 713, 714, 715, 392, 393, 394, 5, 395, 85, 127, 128, 129, 530, 531, 532, 533, 416, 417, 418, 400, 401, 402, 403, 92, 404, 405, 406, 407, 408, 409, 410, 411, 412, 413, 414, 415, 824, 825, 826, 827, 828, 829, 830, 831, 832, 833, 834, 835, 836, 837, 838, 839, 840, 841, 842, 843] (by decide +kernel) (by decide +kernel)
set_option maxRecDepth 20000 in
theorem gL_law_X6_drawn : GoodIn wsL_law (wsV RL 118 RX6 yX6_drawn wsX6_drawn) := goodIn_app (goodIn_of _ (by decide +kernel)) ggL_law_X6_drawn
set_option maxRecDepth 20000 in
theorem ggL_law_X5_image : GoodIn wsL_law wsX5_image := goodIn_r _ [719, 98, 316, 26, 21, 102, 103, 2, 104, 318, 319, 320, 321, 208, 259, 260, 261, 20, 262, 48, 49, 50, 51, 52, 263, 170, 171, 172, 53, 54, 813, 814, 815, 816, 817, 818, 819, 820, 821, 822, 823, 847, 848, 849, 850, 851, 852, 853, 854] (by decide +kernel) (by decide +kernel)
set_option maxRecDepth 20000 in
theorem gL_law_X5_image : GoodIn wsL_law (wsV RL 119 RX5 yX5_image wsX5_image) := goodIn_app (goodIn_of _ (by decide +kernel)) ggL_law_X5_image
set_option maxRecDepth 20000 in
theorem ggL_law_X6_image : GoodIn wsL_law wsX6_image := goodIn_r _ [723, 122, 391, 87, 85, 89, 127, 128, 5, 129, 392, 393, 394, 395, 824, 825, 826, 827, 828, 829, 830, 831, 832, 833, 834, 835, 836, 837, 838, 839, 840, 841, 842, 843] (by decide +kernel) (by decide +kernel)
set_option maxRecDepth 20000 in
theorem gL_law_X6_image : GoodIn wsL_law (wsV RL 122 RX6 yX6_image wsX6_image) := goodIn_app (goodIn_of _ (by decide +kernel)) ggL_law_X6_image
set_option maxRecDepth 20000 in
theorem ggL_law_X5_restore : GoodIn wsL_law wsX5_restore := goodIn_r _ [727, 98, 26, 208, 316, 21, 25, 102, 103, 2, 104, 259, 260, 261, 20, 262, 48, 49, 50, 51, 52, 263, 170, 171, 172, 53, 54, 264, 265, 266, 24, 267, 63, 813, 814, 815, 816, 817, 818, 819, 820, 821, 822, 823, 847, 848, 849, 850, 851, 852, 853, 854, 855, 856, 857] (by decide +kernel) (by decide +kernel)
set_option maxRecDepth 20000 in
theorem gL_law_X5_restore : GoodIn wsL_law (wsV RL 123 RX5 yX5_restore wsX5_restore) := goodIn_app (goodIn_of _ (by decide +kernel)) ggL_law_X5_restore
set_option maxRecDepth 20000 in
theorem ggL_law_X6_restore : GoodIn wsL_law wsX6_restore := goodIn_r _ [731, 122, 89, 391, 85, 87, 276, 127, 128, 5, 129, 824, 825, 826, 827, 828, 829, 830, 831, 832, 833, 834, 835, 836, 837, 838, 839, 840, 841, 842, 843] (by decide +kernel) (by decide +kernel)
set_option maxRecDepth 20000 in
theorem gL_law_X6_restore : GoodIn wsL_law (wsV RL 126 RX6 yX6_restore wsX6_restore) := goodIn_app (goodIn_of _ (by decide +kernel)) ggL_law_X6_restore
set_option maxRecDepth 20000 in
theorem ggL_law_X5_kind : GoodIn wsL_law wsX5_kind := goodIn_r _ [735, 98, 21, 651, 434, 435, 436, 2, 437, 208, 102, 103, 104, 813, 814, 815, 816, 817, 818, 819, 820, 821, 822, 823, 847, 848, 849, 850, 851, 852, 853, 854] (by decide +kernel) (by decide +kernel)
set_option maxRecDepth 20000 in
theorem gL_law_X5_kind : GoodIn wsL_law (wsV RL 127 RX5 yX5_kind wsX5_kind) := goodIn_app (goodIn_of _ (by decide +kernel)) ggL_law_X5_kind
set_option maxRecDepth 20000 in
theorem ggL_law_X6_kind : GoodIn wsL_law wsX6_kind := goodIn_r _ [739, 85, 122, 454, 455, 456, 5, 457, 127, 128, 129, 824, 825, 826, 827, 828, 829, 830, 831, 832, 833, 834, 835, 836, 837, 838, 839, 840, 841, 842, 843] (by decide +kernel) (by decide +kernel)
set_option maxRecDepth 20000 in
theorem gL_law_X6_kind : GoodIn wsL_law (wsV RL 130 RX6 yX6_kind wsX6_kind) := goodIn_app (goodIn_of _ (by decide +kernel)) ggL_law_X6_kind
set_option maxRecDepth 20000 in
theorem ggL_law_X5_as : GoodIn wsL_law wsX5_as := goodIn_r _ [743, 98, 21, 651, 744, 434, 435, 436, 2, 437, 208, 102, 103, 104, 114, 115, 116, 117, 36, 105, 106, 107, 108, 109, 813, 814, 815, 816, 817, 818, 819, 820, 821, 822, 823, 847, 848, 849, 850, 851, 852, 853, 854] (by decide +kernel) (by decide +kernel)
set_option maxRecDepth 20000 in
theorem gL_law_X5_as : GoodIn wsL_law (wsV RL 131 RX5 yX5_as wsX5_as) := goodIn_app (goodIn_of _ (by decide +kernel)) ggL_law_X5_as
set_option maxRecDepth 20000 in
theorem ggL_law_X6_as : GoodIn wsL_law wsX6_as := goodIn_r _ [748, 122, 85, 749, 454, 455, 456, 5, 457, 127, 128, 129, 130, 131, 132, 133, 134, 135, 136, 137, 824, 825, 826, 827, 828, 829, 830, 831, 832, 833, 834, 835, 836, 837, 838, 839, 840, 841, 842, 843] (by decide +kernel) (by decide +kernel)
set_option maxRecDepth 20000 in
theorem gL_law_X6_as : GoodIn wsL_law (wsV RL 134 RX6 yX6_as wsX6_as) := goodIn_app (goodIn_of _ (by decide +kernel)) ggL_law_X6_as
set_option maxRecDepth 20000 in
theorem ggL_law_X5_ask : GoodIn wsL_law wsX5_ask := goodIn_r _ [753, 98, 30, 754, 21, 651, 434, 435, 436, 2, 437, 208, 102, 103, 104, 755, 756, 757, 758, 759, 744, 760, 761, 762, 432, 433, 763, 764, 765, 29, 766, 68, 67, 813, 814, 815, 816, 817, 818, 819, 820, 821, 822, 823, 858, 859, 847, 848, 849, 850, 851, 852, 853, 854] (by decide +kernel) (by decide +kernel)
set_option maxRecDepth 20000 in
theorem gL_law_X5_ask : GoodIn wsL_law (wsV RL 135 RX5 yX5_ask wsX5_ask) := goodIn_app (goodIn_of _ (by decide +kernel)) ggL_law_X5_ask
set_option maxRecDepth 20000 in
theorem ggL_law_X6_ask : GoodIn wsL_law wsX6_ask := goodIn_r _ [770, 122, 771, 85, 454, 455, 456, 5, 457, 127, 128, 129, 772, 773, 774, 775, 776, 777, 778, 779, 93, 780, 781, 782, 783, 824, 825, 826, 827, 828, 829, 830, 831, 832, 833, 834, 835, 836, 837, 838, 839, 840, 841, 842, 843] (by decide +kernel) (by decide +kernel)
set_option maxRecDepth 20000 in
theorem gL_law_X6_ask : GoodIn wsL_law (wsV RL 138 RX6 yX6_ask wsX6_ask) := goodIn_app (goodIn_of _ (by decide +kernel)) ggL_law_X6_ask
set_option maxRecDepth 20000 in
theorem ggL_law_X5_trace : GoodIn wsL_law wsX5_trace := goodIn_r _ [787, 30, 754, 206, 788, 102, 103, 2, 104, 813, 814, 815, 816, 817, 818, 819, 820, 821, 822, 823, 858, 859] (by decide +kernel) (by decide +kernel)
set_option maxRecDepth 20000 in
theorem gL_law_X5_trace : GoodIn wsL_law (wsV RL 139 RX5 yX5_trace wsX5_trace) := goodIn_app (goodIn_of _ (by decide +kernel)) ggL_law_X5_trace
set_option maxRecDepth 20000 in
theorem ggL_law_X6_trace : GoodIn wsL_law wsX6_trace := goodIn_r _ [792, 771, 93, 563, 127, 128, 5, 129, 824, 825, 826, 827, 828, 829, 830, 831, 832, 833, 834, 835, 836, 837, 838, 839, 840, 841, 842, 843] (by decide +kernel) (by decide +kernel)
set_option maxRecDepth 20000 in
theorem gL_law_X6_trace : GoodIn wsL_law (wsV RL 142 RX6 yX6_trace wsX6_trace) := goodIn_app (goodIn_of _ (by decide +kernel)) ggL_law_X6_trace
set_option maxRecDepth 20000 in
theorem ggL_law_X5_count : GoodIn wsL_law wsX5_count := goodIn_r _ [796, 21, 208, 512, 317, 423, 25, 482, 17, 190, 98, 797, 798, 799, 2, 800, 13, 142, 499, 500, 501, 372, 373, 374, 20, 375, 376, 377, 378, 379, 51, 54, 380, 381, 382, 383, 384, 385, 386, 813, 814, 815, 816, 817, 818, 819, 820, 821, 822, 823, 847, 848, 849, 850, 851, 852, 853, 854, 855, 856, 857, 844, 845, 846, 860, 861, 862, 863] (by decide +kernel) (by decide +kernel)
set_option maxRecDepth 20000 in
theorem gL_law_X5_count : GoodIn wsL_law (wsV RL 143 RX5 yX5_count wsX5_count) := goodIn_app (goodIn_of _ (by decide +kernel)) ggL_law_X5_count
set_option maxRecDepth 20000 in
theorem ggL_law_X6_count : GoodIn wsL_law wsX6_count := goodIn_r _ [804, 80, 85, 276, 200, 122, 413, 414, 5, 415, 416, 417, 418, 824, 825, 826, 827, 828, 829, 830, 831, 832, 833, 834, 835, 836, 837, 838, 839, 840, 841, 842, 843] (by decide +kernel) (by decide +kernel)
set_option maxRecDepth 20000 in
theorem gL_law_X6_count : GoodIn wsL_law (wsV RL 146 RX6 yX6_count wsX6_count) := goodIn_app (goodIn_of _ (by decide +kernel)) ggL_law_X6_count
set_option maxRecDepth 20000 in
theorem ggL_law_X5_status : GoodIn wsL_law wsX5_status := goodIn_r _ [808, 36, 813, 814, 815, 816, 817, 818, 819, 820, 821, 822, 823] (by decide +kernel) (by decide +kernel)
set_option maxRecDepth 20000 in
theorem gL_law_X5_status : GoodIn wsL_law (wsV RL 147 RX5 yX5_status wsX5_status) := goodIn_app (goodIn_of _ (by decide +kernel)) ggL_law_X5_status
set_option maxRecDepth 20000 in
theorem ggL_law_X6_status : GoodIn wsL_law wsX6_status := goodIn_r _ [812, 137, 824, 825, 826, 827, 828, 829, 830, 831, 832, 833, 834, 835, 836, 837, 838, 839, 840, 841, 842, 843] (by decide +kernel) (by decide +kernel)
set_option maxRecDepth 20000 in
theorem gL_law_X6_status : GoodIn wsL_law (wsV RL 150 RX6 yX6_status wsX6_status) := goodIn_app (goodIn_of _ (by decide +kernel)) ggL_law_X6_status

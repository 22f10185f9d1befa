set_option maxRecDepth 20000 in
theorem ggL_law_X5_later : GoodIn wsL_law wsX5_later := goodIn_r _ [537, 316, 98, 31, 318, 319, 320, 2, 321, 21, 208, 102, 103, 104, 522, 523, 524, 525, 259, 260, 261, 20, 262, 48, 49, 50, 51, 52, 263, 170, 171, 172, 53, 54, 331, 332, 333, 334, 335, 55, 336, 337, 338, 339, 340, 341, 342, 343, 344, 345, 346, 347, 348, 349, 350, 351, 352, 353, 354, 355, 356, 357, 358, 359, 360, 361, 362, 363, 364, 365, 366, 367, 368, 369, 370, 371, 372, 373, 374, 375, 376, 377, 378, 379, 380, 381, 382, 383, 384, 385, 386, 538, 539, 540, 541, 813, 814, 815, 816, 817, 818, 819, 820, 821, 822, 823, 847, 848, 849, 850, 851, 852, 853, 854] (by decide +kernel) (by decide +kernel)
set_option maxRecDepth 20000 in
theorem gL_law_X5_later : GoodIn wsL_law (wsV RL 82 RX5 yX5_later wsX5_later) := goodIn_app (goodIn_of _ (by decide +kernel)) ggL_law_X5_later
set_option maxRecDepth 20000 in
theorem ggL_law_X6_later : GoodIn wsL_law wsX6_later := goodIn_r _ [545, 391, 122, 91, 85, 392, 393, 394, 5, 395, 127, 128, 129, 530, 531, 532, 533, 400, 401, 402, 403, 92, 404, 405, 406, 407, 408, 409, 410, 411, 412, 413, 414, 415, 416, 417, 418, 824, 825, 826, 827, 828, 829, 830, 831, 832, 833, 834, 835, 836, 837, 838, 839, 840, 841, 842, 843] (by decide +kernel) (by decide +kernel)
set_option maxRecDepth 20000 in
theorem gL_law_X6_later : GoodIn wsL_law (wsV RL 85 RX6 yX6_later wsX6_later) := goodIn_app (goodIn_of _ (by decide +kernel)) ggL_law_X6_later
set_option maxRecDepth 20000 in
theorem ggL_law_X5_off : GoodIn wsL_law wsX5_off := goodIn_r _ [549, 98, 31, 21, 434, 435, 436, 2, 437, 208, 102, 103, 104, 259, 260, 261, 20, 262, 48, 49, 50, 51, 52, 263, 170, 171, 172, 53, 54, 550, 551, 552, 553, 335, 554, 555, 556, 557, 558, 332, 333, 334, 55, 336, 337, 338, 339, 340, 341, 342, 343, 344, 345, 346, 347, 348, 349, 350, 351, 352, 353, 354, 355, 356, 357, 358, 359, 360, 361, 362, 363, 364, 365, 366, 367, 368, 369, 370, 371, 813, 814, 815, 816, 817, 818, 819, 820, 821, 822, 823, 847, 848, 849, 850, 851, 852, 853, 854] (by decide +kernel) (by decide +kernel)
set_option maxRecDepth 20000 in
theorem gL_law_X5_off : GoodIn wsL_law (wsV RL 86 RX5 yX5_off wsX5_off) := goodIn_app (goodIn_of _ (by decide +kernel)) ggL_law_X5_off
set_option maxRecDepth 20000 in
theorem ggL_law_X6_off : GoodIn wsL_law wsX6_off := goodIn_r _ [562, 122, 91, 563, 454, 455, 456, 5, 457, 85, 127, 128, 129, 530, 531, 532, 533, 400, 401, 402, 403, 92, 404, 405, 406, 407, 408, 409, 410, 411, 412, 413, 414, 415, 824, 825, 826, 827, 828, 829, 830, 831, 832, 833, 834, 835, 836, 837, 838, 839, 840, 841, 842, 843] (by decide +kernel) (by decide +kernel)
set_option maxRecDepth 20000 in
theorem gL_law_X6_off : GoodIn wsL_law (wsV RL 89 RX6 yX6_off wsX6_off) := goodIn_app (goodIn_of _ (by decide +kernel)) ggL_law_X6_off
set_option maxRecDepth 20000 in
theorem ggL_law_X5_clear : GoodIn wsL_law wsX5_clear := goodIn_r _ [567, 316, 31, 21, 318, 319, 320, 2, 321, 208, 259, 260, 261, 20, 262, 48, 49, 50, 51, 52, 263, 170, 171, 172, 53, 54, 568, 569, 570, 571, 335, 572, 573, 574, 575, 576, 373, 374, 375, 376, 377, 378, 379, 380, 381, 382, 383, 384, 385, 386, 554, 555, 556, 557, 558, 332, 333, 334, 55, 336, 337, 338, 339, 340, 341, 342, 343, 344, 345, 346, 347, 348, 349, 350, 351, 352, 353, 354, 355, 356, 357, 358, 359, 360, 361, 362, 363, 364, 365, 366, 367, 368, 369, 370, 371, 813, 814, 815, 816, 817, 818, 819, 820, 821, 822, 823, 847, 848, 849, 850, 851, 852, 853, 854] (by decide +kernel) (by decide +kernel)
set_option maxRecDepth 20000 in
theorem gL_law_X5_clear : GoodIn wsL_law (wsV RL 90 RX5 yX5_clear wsX5_clear) := goodIn_app (goodIn_of _ (by decide +kernel)) ggL_law_X5_clear
set_option maxRecDepth 20000 in
theorem ggL_law_X6_clear : GoodIn wsL_law wsX6_clear := goodIn_r _ [580, 391, 392, 393, 394, 5, 395, 85, 530, 531, 532, 533, 91, 581, 582, 583, 584, 563, 416, 417, 418, 400, 401, 402, 403, 92, 404, 405, 406, 407, 408, 409, 127, 128, 129, 410, 411, 412, 413, 414, 415, 824, 825, 826, 827, 828, 829, 830, 831, 832, 833, 834, 835, 836, 837, 838, 839, 840, 841, 842, 843] (by decide +kernel) (by decide +kernel)
set_option maxRecDepth 20000 in
theorem gL_law_X6_clear : GoodIn wsL_law (wsV RL 93 RX6 yX6_clear wsX6_clear) := goodIn_app (goodIn_of _ (by decide +kernel)) ggL_law_X6_clear
set_option maxRecDepth 20000 in
theorem ggL_law_X5_sorting : GoodIn wsL_law wsX5_sorting := goodIn_r _ [588, 316, 98, 21, 206, 31, 318, 319, 320, 2, 321, 208, 102, 103, 104, 589, 377, 378, 20, 379, 51, 54, 259, 260, 261, 262, 48, 49, 50, 52, 263, 170, 171, 172, 53, 590, 591, 592, 593, 568, 569, 570, 571, 335, 572, 573, 574, 575, 576, 373, 374, 375, 376, 380, 381, 382, 383, 384, 385, 386, 554, 555, 556, 557, 558, 332, 333, 334, 55, 336, 337, 338, 339, 340, 341, 342, 343, 344, 345, 346, 347, 348, 349, 350, 351, 352, 353, 354, 355, 356, 357, 358, 359, 360, 361, 362, 363, 364, 365, 366, 367, 368, 369, 370, 371, 594, 595, 596, 813, 814, 815, 816, 817, 818, 819, 820, 821, 822, 823, 847, 848, 849, 850, 851, 852, 853, 854] (by decide +kernel) (by decide +kernel)
set_option maxRecDepth 20000 in
theorem gL_law_X5_sorting : GoodIn wsL_law (wsV RL 94 RX5 yX5_sorting wsX5_sorting) := goodIn_app (goodIn_of _ (by decide +kernel)) ggL_law_X5_sorting
set_option maxRecDepth 20000 in
theorem ggL_law_X6_sorting : GoodIn wsL_law wsX6_sorting := goodIn_r _ [600, 391, 122, 563, 85, 91, 392, 393, 394, 5, 395, 127, 128, 129, 601, 602, 603, 604, 530, 531, 532, 533, 605, 606, 607, 581, 582, 583, 584, 416, 417, 418, 400, 401, 402, 403, 92, 404, 405, 406, 407, 408, 409, 410, 411, 412, 413, 414, 415, 824, 825, 826, 827, 828, 829, 830, 831, 832, 833, 834, 835, 836, 837, 838, 839, 840, 841, 842, 843] (by decide +kernel) (by decide +kernel)
set_option maxRecDepth 20000 in
theorem gL_law_X6_sorting : GoodIn wsL_law (wsV RL 97 RX6 yX6_sorting wsX6_sorting) := goodIn_app (goodIn_of _ (by decide +kernel)) ggL_law_X6_sorting
set_option maxRecDepth 20000 in
theorem ggL_law_X5_taken : GoodIn wsL_law wsX5_taken := goodIn_r _ [611, 316, 98, 31, 21, 206, 208, 432, 318, 319, 320, 2, 321, 102, 103, 104, 259, 260, 261, 20, 262, 48, 49, 50, 51, 52, 263, 170, 171, 172, 53, 54, 568, 569, 570, 571, 335, 572, 573, 574, 575, 576, 373, 374, 375, 376, 377, 378, 379, 380, 381, 382, 383, 384, 385, 386, 554, 555, 556, 557, 558, 332, 333, 334, 55, 336, 337, 338, 339, 340, 341, 342, 343, 344, 345, 346, 347, 348, 349, 350, 351, 352, 353, 354, 355, 356, 357, 358, 359, 360, 361, 362, 363, 364, 365, 366, 367, 368, 369, 370, 371, 813, 814, 815, 816, 817, 818, 819, 820, 821, 822, 823, 847, 848, 849, 850, 851, 852, 853, 854] (by decide +kernel) (by decide +kernel)
set_option maxRecDepth 20000 in
theorem gL_law_X5_taken : GoodIn wsL_law (wsV RL 98 RX5 yX5_taken wsX5_taken) := goodIn_app (goodIn_of _ (by decide +kernel)) ggL_law_X5_taken
set_option maxRecDepth 20000 in
theorem ggL_law_X6_taken : GoodIn wsL_law wsX6_taken := goodIn_r _ [615, 391, 122, 563, 85, 91, 392, 393, 394, 5, 395, 127, 128, 129, 530, 531, 532, 533, 581, 582, 583, 584, 416, 417, 418, 400, 401, 402, 403, 92, 404, 405, 406, 407, 408, 409, 410, 411, 412, 413, 414, 415, 824, 825, 826, 827, 828, 829, 830, 831, 832, 833, 834, 835, 836, 837, 838, 839, 840, 841, 842, 843] (by decide +kernel) (by decide +kernel)
set_option maxRecDepth 20000 in
theorem gL_law_X6_taken : GoodIn wsL_law (wsV RL 101 RX6 yX6_taken wsX6_taken) := goodIn_app (goodIn_of _ (by decide +kernel)) ggL_law_X6_taken
set_option maxRecDepth 20000 in
theorem ggL_law_X5_pace : GoodIn wsL_law wsX5_pace := goodIn_r _ [619, 98, 206, 35, 434, 435, 436, 2, 437, 21, 208, 102, 103, 104, 620, 621, 622, 623, 32, 432, 34, 169, 170, 171, 172, 624, 625, 626, 259, 260, 261, 20, 262, 48, 49, 50, 51, 52, 263, 53, 54, 627, 628, 629, 630, 631, 632, 633, 634, 423, 331, 332, 333, 334, 335, 55, 336, 337, 338, 339, 340, 341, 342, 343, 344, 345, 346, 347, 348, 349, 350, 351, 352, 353, 354, 355, 356, 357, 358, 359, 360, 361, 362, 363, 364, 365, 366, 367, 368, 369, 370, 371, 635, 636, 637, 638, 813, 814, 815, 816, 817, 818, 819, 820, 821, 822, 823, 847, 848, 849, 850, 851, 852, 853, 854] (by decide +kernel) (by decide +kernel)
set_option maxRecDepth 20000 in
theorem gL_law_X5_pace : GoodIn wsL_law (wsV RL 102 RX5 yX5_pace wsX5_pace) := goodIn_app (goodIn_of _ (by decide +kernel)) ggL_law_X5_pace
set_option maxRecDepth 20000 in
theorem ggL_law_X6_pace : GoodIn wsL_law wsX6_pace := goodIn_r _ [642, 122, 563, 91, 454, 455, 456, 5, 457, 85, 127, 128, 129, 530, 531, 532, 533, 400, 401, 402, 403, 92, 404, 405, 406, 407, 408, 409, 410, 411, 412, 413, 414, 415, 824, 825, 826, 827, 828, 829, 830, 831, 832, 833, 834, 835, 836, 837, 838, 839, 840, 841, 842, 843] (by decide +kernel) (by decide +kernel)
set_option maxRecDepth 20000 in
theorem gL_law_X6_pace : GoodIn wsL_law (wsV RL 105 RX6 yX6_pace wsX6_pace) := goodIn_app (goodIn_of _ (by decide +kernel)) ggL_law_X6_pace
set_option maxRecDepth 20000 in
theorem ggL_law_X5_fits : GoodIn wsL_law wsX5_fits := goodIn_r _ [646, 98, 13, 142, 434, 435, 436, 2, 437, 21, 208, 102, 103, 104, 99, 100, 101, 105, 106, 107, 108, 36, 109, 144, 145, 146, 38, 147, 75, 647, 648, 649, 650, 31, 651, 259, 260, 261, 20, 262, 48, 49, 50, 51, 52, 263, 170, 171, 172, 53, 54, 652, 653, 654, 655, 432, 143, 331, 332, 333, 334, 335, 55, 336, 337, 338, 339, 340, 341, 342, 343, 344, 345, 346, 347, 348, 349, 350, 351, 352, 353, 354, 355, 356, 357, 358, 359, 360, 361, 362, 363, 364, 365, 366, 367, 368, 369, 370, 371, 499, 500, 501, 114, 115, 116, 117, 656, 657, 658, 659, 433, 660, 661, 662, 663, 423, 664, 665, 666, 667, 512, 502, 668, 813, 814, 815, 816, 817, 818, 819, 820, 821, 822, 823, 860, 861, 862, 863, 847, 848, 849, 850, 851, 852, 853, 854] (by decide +kernel) (by decide +kernel)
set_option maxRecDepth 20000 in
theorem gL_law_X5_fits : GoodIn wsL_law (wsV RL 106 RX5 yX5_fits wsX5_fits) := goodIn_app (goodIn_of _ (by decide +kernel)) ggL_law_X5_fits
set_option maxRecDepth 20000 in
theorem ggL_law_X6_fits : GoodIn wsL_law wsX6_fits := goodIn_r _ [672, 122, 80, 135, 156, 85, 91, 454, 455, 456, 5, 457, 127, 128, 129, 124, 125, 126, 130, 131, 132, 133, 134, 136, 137, 157, 158, 159, 160, 413, 414, 415, 530, 531, 532, 533, 410, 411, 412, 673, 674, 675, 676, 82, 400, 401, 402, 403, 92, 404, 405, 406, 407, 408, 409, 824, 825, 826, 827, 828, 829, 830, 831, 832, 833, 834, 835, 836, 837, 838, 839, 840, 841, 842, 843] (by decide +kernel) (by decide +kernel)
set_option maxRecDepth 20000 in
theorem gL_law_X6_fits : GoodIn wsL_law (wsV RL 109 RX6 yX6_fits wsX6_fits) := goodIn_app (goodIn_of _ (by decide +kernel)) ggL_law_X6_fits
set_option maxRecDepth 20000 in
theorem ggL_law_X5_absent : GoodIn wsL_law wsX5_absent := goodIn_r _ [680, 98, 21, 31, 206, 434, 435, 436, 2, 437, 208, 102, 103, 104, 589, 377, 378, 20, 379, 51, 54, 681, 381, 382, 383, 384, 385, 386, 259, 260, 261, 262, 48, 49, 50, 52, 263, 170, 171, 172, 53, 682, 683, 684, 685, 550, 551, 552, 553, 335, 554, 555, 556, 557, 558, 332, 333, 334, 55, 336, 337, 338, 339, 340, 341, 342, 343, 344, 345, 346, 347, 348, 349, 350, 351, 352, 353, 354, 355, 356, 357, 358, 359, 360, 361, 362, 363, 364, 365, 366, 367, 368, 369, 370, 371, 624, 625, 626, 594, 595, 596, 686, 687, 688, 689, 488, 328, 489, 813, 814, 815, 816, 817, 818, 819, 820, 821, 822, 823, 847, 848, 849, 850, 851, 852, 853, 854] (by decide +kernel) (by decide +kernel)
set_option maxRecDepth 20000 in
theorem gL_law_X5_absent : GoodIn wsL_law (wsV RL 110 RX5 yX5_absent wsX5_absent) := goodIn_app (goodIn_of _ (by decide +kernel)) ggL_law_X5_absent
set_option maxRecDepth 20000 in
theorem ggL_law_X6_absent : GoodIn wsL_law wsX6_absent := goodIn_r _ [693, 122, 85, 91, 454, 455, 456, 5, 457, 127, 128, 129, 601, 602, 603, 604, 530, 531, 532, 533, 605, 606, 607, 400, 401, 402, 403, 92, 404, 405, 406, 407, 408, 409, 410, 411, 412, 413, 414, 415, 824, 825, 826, 827, 828, 829, 830, 831, 832, 833, 834, 835, 836, 837, 838, 839, 840, 841, 842, 843] (by decide +kernel) (by decide +kernel)
set_option maxRecDepth 20000 in
theorem gL_law_X6_absent : GoodIn wsL_law (wsV RL 114 RX6 yX6_absent wsX6_absent) := goodIn_app (goodIn_of _ (by decide +kernel)) ggL_law_X6_absent
set_option maxRecDepth 20000 in
theorem ggL_law_X5_drawn : GoodIn wsL_law wsX5_drawn := goodIn_r _ [697, 316, 698, 98, 31, 21, 699, 700, 318, 319, 320, 2, 321, 208, 102, 103, 104, 259, 260, 261, 20, 262, 48, 49, 50, 51, 52, 263, 170, 171, 172, 53, 54, 701, 702, 703, 704, 705, 471, 472, 473, 331, 332, 333, 334, 335, 55, 336, 337, 338, 339, 340, 341, 342, 343, 344, 345, 346, 347, 348, 349, 350, 351, 352, 353, 354, 355, 356, 357, 358, 359, 360, 361, 362, 363, 364, 365, 366, 367, 368, 369, 370, 371, 372, 373, 374, 375, 376, 377, 378, 379, 380, 381, 382, 383, 384, 385, 386, 813, 814, 815, 816, 817, 818, 819, 820, 821, 822, 823, 847, 848, 849, 850, 851, 852, 853, 854] (by decide +kernel) (by decide +kernel)
set_option maxRecDepth 20000 in
theorem gL_law_X5_drawn : GoodIn wsL_law (wsV RL 115 RX5 yX5_drawn wsX5_drawn) := goodIn_app (goodIn_of _ (by decide +kernel)) ggL_law_X5_drawn

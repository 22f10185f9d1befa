set_option maxRecDepth 20000 in
theorem il_wsL_law_r1 : GoodIn lw_tbl wsL_law_r1 := goodIn_r _ [44, 45, 34, 645, 646, 40, 46, 47, 48, 49, 50, 51, 52, 173, 54, 55, 35, 174, 73, 74, 36, 175, 116, 117] (by decide +kernel) (by decide +kernel)
set_option maxRecDepth 20000 in
theorem il_wsL_law_r2 : GoodIn lw_tbl wsL_law_r2 := goodIn_r _ [37, 176, 177, 136, 137, 38, 178, 179, 180, 72, 181, 182, 183, 151, 39, 57, 58, 59, 60, 61, 63, 76, 77, 78] (by decide +kernel) (by decide +kernel)
set_option maxRecDepth 20000 in
theorem il_wsL_law_r3 : GoodIn lw_tbl wsL_law_r3 := goodIn_r _ [79, 82, 85, 87, 90, 93, 96, 98, 118, 119, 120, 121, 122, 125, 126, 127, 139, 140, 141, 142, 144, 153, 154, 155] (by decide +kernel) (by decide +kernel)
set_option maxRecDepth 20000 in
theorem il_wsL_law_r4 : GoodIn lw_tbl wsL_law_r4 := goodIn_r _ [156, 158, 160, 162, 647, 648, 649, 650, 651, 652, 653, 654, 656, 659, 660, 661, 712, 662, 663, 665, 666, 667, 207, 208] (by decide +kernel) (by decide +kernel)
set_option maxRecDepth 20000 in
theorem il_wsL_law_r5 : GoodIn lw_tbl wsL_law_r5 := goodIn_r _ [209, 210, 217, 211, 212, 213, 214, 215, 216, 218, 220, 0, 221, 222, 223, 224, 225, 226, 227, 229, 1, 230, 713, 714] (by decide +kernel) (by decide +kernel)
set_option maxRecDepth 20000 in
theorem il_wsL_law_r6 : GoodIn lw_tbl wsL_law_r6 := goodIn_r _ [715, 716, 723, 724, 717, 718, 719, 720, 721, 722, 725, 727, 15, 728, 729, 730, 731, 655, 231, 232, 233, 234, 159, 157] (by decide +kernel) (by decide +kernel)
set_option maxRecDepth 20000 in
theorem il_wsL_law_r7 : GoodIn lw_tbl wsL_law_r7 := goodIn_r _ [235, 236, 237, 238, 239, 240, 241, 242, 732, 733, 734, 735, 740, 736, 738, 16, 739, 741, 742, 743, 243, 244, 245, 246] (by decide +kernel) (by decide +kernel)
set_option maxRecDepth 20000 in
theorem il_wsL_law_r8 : GoodIn lw_tbl wsL_law_r8 := goodIn_r _ [161, 247, 249, 248, 41, 744, 745, 746, 747, 250, 251, 252, 253, 163, 748, 749, 750, 751, 254, 255, 256, 257, 62, 258] (by decide +kernel) (by decide +kernel)
set_option maxRecDepth 20000 in
theorem il_wsL_law_r9 : GoodIn lw_tbl wsL_law_r9 := goodIn_r _ [259, 260, 261, 262, 752, 753, 754, 755, 657, 756, 263, 264, 265, 266, 313, 314, 89, 267, 268, 269, 270, 88, 295, 271] (by decide +kernel) (by decide +kernel)
set_option maxRecDepth 20000 in
theorem il_wsL_law_r10 : GoodIn lw_tbl wsL_law_r10 := goodIn_r _ [272, 273, 274, 275, 276, 277, 278, 279, 280, 281, 282, 283, 284, 285, 286, 80, 83, 287, 288, 289, 290, 291, 292, 293] (by decide +kernel) (by decide +kernel)
set_option maxRecDepth 20000 in
theorem il_wsL_law_r11 : GoodIn lw_tbl wsL_law_r11 := goodIn_r _ [294, 296, 297, 298, 299, 301, 302, 303, 304, 91, 305, 306, 307, 308, 309, 310, 311, 312, 94, 315, 316, 317, 318, 319] (by decide +kernel) (by decide +kernel)
set_option maxRecDepth 20000 in
theorem il_wsL_law_r12 : GoodIn lw_tbl wsL_law_r12 := goodIn_r _ [320, 321, 322, 323, 757, 758, 759, 760, 670, 658, 787, 669, 664, 761, 763, 17, 764, 765, 767, 18, 768, 769, 771, 19] (by decide +kernel) (by decide +kernel)
set_option maxRecDepth 20000 in
theorem il_wsL_law_r13 : GoodIn lw_tbl wsL_law_r13 := goodIn_r _ [772, 773, 775, 20, 776, 777, 779, 21, 780, 781, 782, 783, 784, 785, 786, 324, 325, 326, 327, 64, 788, 789, 790, 791] (by decide +kernel) (by decide +kernel)
set_option maxRecDepth 20000 in
theorem il_wsL_law_r14 : GoodIn lw_tbl wsL_law_r14 := goodIn_r _ [328, 329, 330, 331, 336, 86, 332, 334, 2, 335, 337, 338, 339, 340, 342, 343, 42, 344, 341, 345, 346, 347, 348, 365] (by decide +kernel) (by decide +kernel)
set_option maxRecDepth 20000 in
theorem il_wsL_law_r15 : GoodIn lw_tbl wsL_law_r15 := goodIn_r _ [349, 350, 351, 352, 353, 354, 355, 356, 357, 358, 359, 360, 361, 362, 363, 364, 366, 367, 368, 369, 370, 371, 372, 373] (by decide +kernel) (by decide +kernel)
set_option maxRecDepth 20000 in
theorem il_wsL_law_r16 : GoodIn lw_tbl wsL_law_r16 := goodIn_r _ [374, 375, 376, 377, 378, 379, 380, 381, 382, 383, 384, 385, 386, 387, 388, 389, 390, 391, 392, 393, 394, 395, 43, 396] (by decide +kernel) (by decide +kernel)
set_option maxRecDepth 20000 in
theorem il_wsL_law_r17 : GoodIn lw_tbl wsL_law_r17 := goodIn_r _ [397, 398, 399, 792, 793, 794, 795, 800, 796, 798, 22, 799, 801, 803, 23, 804, 805, 807, 24, 808, 809, 810, 811, 812] (by decide +kernel) (by decide +kernel)
set_option maxRecDepth 20000 in
theorem il_wsL_law_r18 : GoodIn lw_tbl wsL_law_r18 := goodIn_r _ [813, 814, 815, 816, 817, 818, 819, 820, 821, 822, 823, 400, 401, 402, 403, 84, 824, 825, 826, 827, 404, 405, 406, 407] (by decide +kernel) (by decide +kernel)
set_option maxRecDepth 20000 in
theorem il_wsL_law_r19 : GoodIn lw_tbl wsL_law_r19 := goodIn_r _ [97, 95, 408, 410, 3, 411, 412, 413, 414, 415, 416, 417, 418, 419, 420, 421, 422, 423, 828, 829, 830, 831, 832, 834] (by decide +kernel) (by decide +kernel)
set_option maxRecDepth 20000 in
theorem il_wsL_law_r20 : GoodIn lw_tbl wsL_law_r20 := goodIn_r _ [25, 835, 424, 425, 426, 427, 836, 837, 838, 839, 428, 429, 430, 431, 432, 433, 434, 435, 840, 841, 842, 843, 436, 437] (by decide +kernel) (by decide +kernel)
set_option maxRecDepth 20000 in
theorem il_wsL_law_r21 : GoodIn lw_tbl wsL_law_r21 := goodIn_r _ [438, 439, 128, 440, 441, 442, 443, 444, 445, 446, 844, 845, 846, 847, 447, 448, 449, 450, 451, 452, 453, 454, 455, 456] (by decide +kernel) (by decide +kernel)
set_option maxRecDepth 20000 in
theorem il_wsL_law_r22 : GoodIn lw_tbl wsL_law_r22 := goodIn_r _ [848, 849, 850, 851, 457, 458, 459, 460, 81, 461, 852, 853, 854, 855, 462, 463, 464, 465, 466, 468, 4, 469, 856, 857] (by decide +kernel) (by decide +kernel)
set_option maxRecDepth 20000 in
theorem il_wsL_law_r23 : GoodIn lw_tbl wsL_law_r23 := goodIn_r _ [858, 859, 860, 862, 26, 863, 470, 471, 472, 473, 474, 475, 476, 477, 864, 865, 866, 867, 478, 479, 480, 481, 482, 483] (by decide +kernel) (by decide +kernel)
set_option maxRecDepth 20000 in
theorem il_wsL_law_r24 : GoodIn lw_tbl wsL_law_r24 := goodIn_r _ [484, 485, 486, 487, 488, 489, 490, 868, 869, 870, 871, 872, 491, 492, 493, 494, 495, 496, 497, 498, 499, 500, 501, 502] (by decide +kernel) (by decide +kernel)
set_option maxRecDepth 20000 in
theorem il_wsL_law_r25 : GoodIn lw_tbl wsL_law_r25 := goodIn_r _ [503, 873, 874, 875, 876, 877, 879, 27, 880, 504, 505, 506, 507, 508, 509, 510, 511, 512, 513, 514, 515, 881, 882, 883] (by decide +kernel) (by decide +kernel)
set_option maxRecDepth 20000 in
theorem il_wsL_law_r26 : GoodIn lw_tbl wsL_law_r26 := goodIn_r _ [884, 885, 887, 28, 888, 889, 890, 891, 516, 517, 518, 519, 892, 893, 894, 895, 520, 521, 522, 523, 524, 526, 5, 527] (by decide +kernel) (by decide +kernel)
set_option maxRecDepth 20000 in
theorem il_wsL_law_r27 : GoodIn lw_tbl wsL_law_r27 := goodIn_r _ [528, 529, 530, 531, 533, 6, 534, 535, 537, 7, 538, 539, 541, 8, 542, 896, 897, 898, 899, 543, 544, 545, 546, 547] (by decide +kernel) (by decide +kernel)
set_option maxRecDepth 20000 in
theorem il_wsL_law_r28 : GoodIn lw_tbl wsL_law_r28 := goodIn_r _ [549, 9, 550, 92, 551, 553, 10, 554, 555, 557, 11, 558, 559, 561, 12, 562, 563, 565, 13, 566, 567, 900, 901, 902] (by decide +kernel) (by decide +kernel)
set_option maxRecDepth 20000 in
theorem il_wsL_law_r29 : GoodIn lw_tbl wsL_law_r29 := goodIn_r _ [903, 904, 906, 29, 907, 568, 569, 570, 571, 572, 573, 574, 575, 576, 577, 578, 579, 580, 908, 909, 910, 911, 581, 582] (by decide +kernel) (by decide +kernel)
set_option maxRecDepth 20000 in
theorem il_wsL_law_r30 : GoodIn lw_tbl wsL_law_r30 := goodIn_r _ [583, 584, 585, 586, 587, 588, 589, 590, 591, 592, 912, 913, 914, 915, 916, 917, 918, 919, 920, 921, 593, 594, 595, 596] (by decide +kernel) (by decide +kernel)
set_option maxRecDepth 20000 in
theorem il_wsL_law_r31 : GoodIn lw_tbl wsL_law_r31 := goodIn_r _ [922, 923, 924, 925, 597, 598, 599, 600, 926, 927, 928, 929, 601, 602, 603, 604, 930, 931, 932, 933, 605, 606, 607, 608] (by decide +kernel) (by decide +kernel)
set_option maxRecDepth 20000 in
theorem il_wsL_law_r32 : GoodIn lw_tbl wsL_law_r32 := goodIn_r _ [609, 934, 935, 936, 937, 938, 611, 612, 613, 614, 145, 615, 616, 617, 618, 620, 622, 623, 624, 625, 626, 627, 628, 939] (by decide +kernel) (by decide +kernel)
set_option maxRecDepth 20000 in
theorem il_wsL_law_r33 : GoodIn lw_tbl wsL_law_r33 := goodIn_r _ [940, 941, 942, 668, 943, 945, 30, 946, 947, 949, 31, 950, 951, 953, 32, 954, 629, 630, 631, 632, 143, 955, 956, 957] (by decide +kernel) (by decide +kernel)
set_option maxRecDepth 20000 in
theorem il_wsL_law_r34 : GoodIn lw_tbl wsL_law_r34 := goodIn_r _ [958, 633, 634, 635, 636, 637, 639, 14, 640, 959, 960, 961, 962, 641, 642, 643, 644, 963, 964, 965, 966] (by decide +kernel) (by decide +kernel)
set_option maxRecDepth 20000 in
theorem il_wsX50 : GoodIn lw_tbl wsX50 := goodIn_r _ [184, 186, 188, 190, 192, 194, 196, 198, 200, 202, 204] (by decide +kernel) (by decide +kernel)
set_option maxRecDepth 20000 in
theorem il_wsX60 : GoodIn lw_tbl wsX60 := goodIn_r _ [671, 673, 675, 677, 679, 681, 683, 685, 687, 689, 691, 693, 695, 697, 699, 701, 703, 705, 707, 709] (by decide +kernel) (by decide +kernel)
set_option maxRecDepth 20000 in
theorem il_wsX30 : GoodIn lw_tbl wsX30 := goodIn_r _ [65, 67, 69] (by decide +kernel) (by decide +kernel)
set_option maxRecDepth 20000 in
theorem il_wsX20 : GoodIn lw_tbl wsX20 := goodIn_r _ [99, 101, 103, 105, 107, 109, 111, 113] (by decide +kernel) (by decide +kernel)
set_option maxRecDepth 20000 in
theorem il_wsX00 : GoodIn lw_tbl wsX00 := goodIn_r _ [129, 131, 133] (by decide +kernel) (by decide +kernel)
set_option maxRecDepth 20000 in
theorem il_wsX40 : GoodIn lw_tbl wsX40 := goodIn_r _ [146, 148] (by decide +kernel) (by decide +kernel)
set_option maxRecDepth 20000 in
theorem il_wsX10 : GoodIn lw_tbl wsX10 := goodIn_r _ [164, 166, 168, 170] (by decide +kernel) (by decide +kernel)
theorem goodIn_nil {big : List Cond} : GoodIn big ([] : List Cond) := fun _ h => absurd h List.not_mem_nil
theorem gw_law : GoodIn lw_tbl wsL_law := goodIn_app (goodIn_app (goodIn_app (goodIn_app (goodIn_app (goodIn_app (goodIn_app (goodIn_app (goodIn_app il_wsL_law_r1 (goodIn_app il_wsL_law_r2 (goodIn_app il_wsL_law_r3 (goodIn_app il_wsL_law_r4 (goodIn_app il_wsL_law_r5 (goodIn_app il_wsL_law_r6 (goodIn_app il_wsL_law_r7 (goodIn_app il_wsL_law_r8 (goodIn_app il_wsL_law_r9 (goodIn_app il_wsL_law_r10 (goodIn_app il_wsL_law_r11 (goodIn_app il_wsL_law_r12 (goodIn_app il_wsL_law_r13 (goodIn_app il_wsL_law_r14 (goodIn_app il_wsL_law_r15 (goodIn_app il_wsL_law_r16 (goodIn_app il_wsL_law_r17 (goodIn_app il_wsL_law_r18 (goodIn_app il_wsL_law_r19 (goodIn_app il_wsL_law_r20 (goodIn_app il_wsL_law_r21 (goodIn_app il_wsL_law_r22 (goodIn_app il_wsL_law_r23 (goodIn_app il_wsL_law_r24 (goodIn_app il_wsL_law_r25 (goodIn_app il_wsL_law_r26 (goodIn_app il_wsL_law_r27 (goodIn_app il_wsL_law_r28 (goodIn_app il_wsL_law_r29 (goodIn_app il_wsL_law_r30 (goodIn_app il_wsL_law_r31 (goodIn_app il_wsL_law_r32 (goodIn_app il_wsL_law_r33 (il_wsL_law_r34)))))))))))))))))))))))))))))))))) il_wsX50) il_wsX60) il_wsX30) il_wsX20) il_wsX00) il_wsX40) il_wsX10) goodIn_nil
theorem wsL_law_in : ∀ w ∈ wsL_law, w ∈ lw_tbl := fun w h => (gw_law w h).1

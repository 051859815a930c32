set_option maxRecDepth 20000 in
theorem gx_0 : GoodIn lw_tbl ((vx_atM "java/lang/ArrayIndexOutOfBoundsException" ["java/lang/IndexOutOfBoundsException", "java/lang/RuntimeException", "java/lang/Exception"]).filter goodWord) := goodIn_r _ [50, 338, 347, 354, 357, 359, 339, 340, 68, 69, 341, 346, 355, 375, 328, 376, 330, 377, 332, 342, 344, 334, 371, 372, 374, 334, 416, 417, 418, 419, 419, 420, 421, 365, 365, 366, 367, 368, 368, 369, 370, 371, 56, 433, 386, 434, 436, 435, 437, 55, 415, 432, 350, 424, 425, 427, 423, 337, 336, 422] (by decide +kernel) (by decide +kernel)
set_option maxRecDepth 20000 in
theorem gx_1 : GoodIn lw_tbl ((vx_atS RX4 34 "java/lang/IllegalArgumentException" ["java/lang/RuntimeException", "java/lang/Exception"]).filter goodWord) := goodIn_r _ [50, 338, 347, 354, 357, 359, 339, 340, 68, 69, 341, 346, 355, 375, 328, 376, 330, 377, 332, 342, 344, 334, 371, 372, 374, 334, 362, 363, 364, 365, 365, 366, 367, 368, 368, 369, 370, 371, 361, 317, 325, 326, 327, 329, 331, 333, 337, 336, 335] (by decide +kernel) (by decide +kernel)
set_option maxRecDepth 20000 in
theorem gx_2 : GoodIn lw_tbl ((vx_atS RX4 243 "java/lang/IndexOutOfBoundsException" ["java/lang/RuntimeException", "java/lang/Exception"]).filter goodWord) := goodIn_r _ [50, 338, 347, 354, 357, 359, 339, 340, 68, 69, 341, 346, 355, 375, 328, 376, 330, 377, 332, 342, 344, 334, 371, 372, 374, 334, 419, 420, 421, 365, 365, 366, 367, 368, 368, 369, 370, 371, 456, 447, 449, 352, 450, 451, 452, 453, 337, 336, 454] (by decide +kernel) (by decide +kernel)
set_option maxRecDepth 20000 in
theorem gx_3 : GoodIn lw_tbl ((vx_atM "java/lang/ArithmeticException" ["java/lang/RuntimeException", "java/lang/Exception"]).filter goodWord) := goodIn_r _ [50, 338, 347, 354, 357, 359, 339, 340, 68, 69, 341, 346, 355, 375, 328, 376, 330, 377, 332, 342, 344, 334, 371, 372, 374, 334, 780, 781, 782, 365, 365, 366, 367, 368, 368, 369, 370, 371, 56, 433, 386, 434, 436, 435, 437, 60, 779, 791, 349, 785, 786, 788, 784, 337, 336, 783] (by decide +kernel) (by decide +kernel)
set_option maxRecDepth 20000 in
theorem gx_4 : GoodIn lw_tbl ((nse_at RX4 140).filter goodWord) := goodIn_r _ [50, 338, 347, 354, 357, 359, 339, 340, 68, 69, 341, 346, 355, 375, 328, 376, 330, 377, 332, 342, 344, 334, 371, 372, 374, 334, 620, 621, 622, 365, 365, 366, 367, 368, 368, 369, 370, 371, 619, 610, 612, 353, 613, 614, 615, 616, 337, 336, 617] (by decide +kernel) (by decide +kernel)
set_option maxRecDepth 20000 in
theorem gx_5 : GoodIn lw_tbl ((vx_atS RX4 79 "java/lang/IllegalStateException" ["java/lang/RuntimeException", "java/lang/Exception"]).filter goodWord) := goodIn_r _ [50, 338, 347, 354, 357, 359, 339, 340, 68, 69, 341, 346, 355, 375, 328, 376, 330, 377, 332, 342, 344, 334, 371, 372, 374, 334, 470, 471, 472, 365, 365, 366, 367, 368, 368, 369, 370, 371, 469, 460, 462, 351, 463, 464, 465, 466, 337, 336, 467] (by decide +kernel) (by decide +kernel)
set_option maxRecDepth 20000 in
theorem gx_6 : GoodIn lw_tbl ((vx_atS RX4 228 "java/lang/ArithmeticException" ["java/lang/RuntimeException", "java/lang/Exception"]).filter goodWord) := goodIn_r _ [50, 338, 347, 354, 357, 359, 339, 340, 68, 69, 341, 346, 355, 375, 328, 376, 330, 377, 332, 342, 344, 334, 371, 372, 374, 334, 780, 781, 782, 365, 365, 366, 367, 368, 368, 369, 370, 371, 798, 779, 791, 349, 785, 786, 788, 784, 337, 336, 783] (by decide +kernel) (by decide +kernel)
set_option maxRecDepth 20000 in
theorem ggL_law_X4_init : GoodIn lw_tbl wsX4_init := goodIn_r _ [66, 67, 68, 69, 70, 71, 45, 198, 199, 182, 183, 48, 201, 202, 73, 74, 75, 76, 77, 46, 153, 102, 103, 47, 155, 157, 159, 79, 80, 81, 100, 82, 85, 101, 87, 89, 105, 106, 107, 108, 111, 113, 115, 118, 121, 123, 185, 186, 187, 197, 188, 167, 169, 171, 173, 175, 177, 179, 204, 206, 208, 210, 212, 214, 192, 194, 91, 93, 95, 97, 132, 134, 136, 138, 140, 142, 144, 146, 148, 150] (by decide +kernel) (by decide +kernel)
theorem gL_law_X4_init : GoodIn lw_tbl wsX4_init := ggL_law_X4_init
set_option maxRecDepth 20000 in
theorem ggL_law_X5_init : GoodIn lw_tbl wsX5_init := goodIn_ca (goodIn_r _ [811, 812, 68, 69, 101, 814, 815, 817, 821, 825, 827, 829, 831, 833, 835, 837, 839, 841, 843, 845, 847] (by decide +kernel) (by decide +kernel)) gx_0
theorem gL_law_X5_init : GoodIn lw_tbl wsX5_init := ggL_law_X5_init
set_option maxRecDepth 20000 in
theorem ggL_law_L_setPatience : GoodIn lw_tbl wsL_setPatience := goodIn_ca (goodIn_ca (goodIn_r _ [310, 311, 312, 313, 314, 44, 315, 316, 53, 198, 156, 122, 204, 206, 208, 210, 212, 214, 167, 169, 171, 173, 175, 177, 179, 132, 134, 136, 138, 140, 142, 144, 146, 148, 150] (by decide +kernel) (by decide +kernel)) gx_0) gx_1
theorem gL_law_L_setPatience : GoodIn lw_tbl (va_wsS RL 110 yL_setPatience wsL_setPatience) := goodIn_app (goodIn_r _ [308, 309, 43] (by decide +kernel) (by decide +kernel)) ggL_law_L_setPatience
set_option maxRecDepth 20000 in
theorem ggL_law_X5_setPatience : GoodIn lw_tbl wsX5_setPatience := goodIn_ca (goodIn_r _ [857, 858, 860, 13, 49, 861, 813, 814, 862, 863, 864, 865, 867, 14, 868, 825, 827, 829, 831, 833, 835, 837, 839, 841, 843, 845, 847] (by decide +kernel) (by decide +kernel)) gx_0
theorem gL_law_X5_setPatience : GoodIn lw_tbl (wsV RL 115 RX5 yX5_setPatience wsX5_setPatience) := goodIn_app (goodIn_r _ [854, 855, 856, 49] (by decide +kernel) (by decide +kernel)) ggL_law_X5_setPatience
set_option maxRecDepth 20000 in
theorem ggL_law_X5_thrown : GoodIn lw_tbl wsX5_thrown := goodIn_r _ [853, 813, 825, 827, 829, 831, 833, 835, 837, 839, 841, 843, 845, 847] (by decide +kernel) (by decide +kernel)
theorem gL_law_X5_thrown : GoodIn lw_tbl (wsV RL 116 RX5 yX5_thrown wsX5_thrown) := goodIn_app (goodIn_r _ [850, 851, 852, 49] (by decide +kernel) (by decide +kernel)) ggL_law_X5_thrown
set_option maxRecDepth 20000 in
theorem ggL_law_L_setFanOut : GoodIn lw_tbl wsL_setFanOut := goodIn_ca (goodIn_ca (goodIn_r _ [389, 311, 390, 391, 392, 44, 393, 316, 53, 198, 156, 124, 204, 206, 208, 210, 212, 214, 167, 169, 171, 173, 175, 177, 179, 132, 134, 136, 138, 140, 142, 144, 146, 148, 150] (by decide +kernel) (by decide +kernel)) gx_0) gx_1
theorem gL_law_L_setFanOut : GoodIn lw_tbl (va_wsS RL 119 yL_setFanOut wsL_setFanOut) := goodIn_app (goodIn_r _ [387, 388, 43] (by decide +kernel) (by decide +kernel)) ggL_law_L_setFanOut
set_option maxRecDepth 20000 in
theorem ggL_law_X5_setFanOut : GoodIn lw_tbl wsX5_setFanOut := goodIn_ca (goodIn_r _ [872, 858, 860, 13, 49, 861, 813, 814, 862, 863, 864, 865, 867, 14, 868, 825, 827, 829, 831, 833, 835, 837, 839, 841, 843, 845, 847] (by decide +kernel) (by decide +kernel)) gx_0
theorem gL_law_X5_setFanOut : GoodIn lw_tbl (wsV RL 121 RX5 yX5_setFanOut wsX5_setFanOut) := goodIn_app (goodIn_r _ [869, 870, 871, 49] (by decide +kernel) (by decide +kernel)) ggL_law_X5_setFanOut
set_option maxRecDepth 20000 in
theorem ggL_law_L_setHelpers : GoodIn lw_tbl wsL_setHelpers := goodIn_ca (goodIn_ca (goodIn_r _ [397, 311, 398, 399, 400, 44, 401, 316, 53, 198, 158, 204, 206, 208, 210, 212, 214, 167, 169, 171, 173, 175, 177, 179] (by decide +kernel) (by decide +kernel)) gx_0) gx_1
theorem gL_law_L_setHelpers : GoodIn lw_tbl (va_wsS RL 122 yL_setHelpers wsL_setHelpers) := goodIn_app (goodIn_r _ [395, 396, 43] (by decide +kernel) (by decide +kernel)) ggL_law_L_setHelpers
set_option maxRecDepth 20000 in
theorem ggL_law_X5_setHelpers : GoodIn lw_tbl wsX5_setHelpers := goodIn_ca (goodIn_r _ [876, 858, 860, 13, 49, 861, 813, 814, 862, 863, 864, 865, 867, 14, 868, 825, 827, 829, 831, 833, 835, 837, 839, 841, 843, 845, 847] (by decide +kernel) (by decide +kernel)) gx_0
theorem gL_law_X5_setHelpers : GoodIn lw_tbl (wsV RL 124 RX5 yX5_setHelpers wsX5_setHelpers) := goodIn_app (goodIn_r _ [873, 874, 875, 49] (by decide +kernel) (by decide +kernel)) ggL_law_X5_setHelpers
set_option maxRecDepth 20000 in
theorem ggL_law_L_setSeed : GoodIn lw_tbl wsL_setSeed := goodIn_ca (goodIn_ca (goodIn_r _ [405, 311, 406, 407, 408, 44, 409, 316, 53, 198, 160, 204, 206, 208, 210, 212, 214, 167, 169, 171, 173, 175, 177, 179] (by decide +kernel) (by decide +kernel)) gx_0) gx_1
theorem gL_law_L_setSeed : GoodIn lw_tbl (va_wsS RL 125 yL_setSeed wsL_setSeed) := goodIn_app (goodIn_r _ [403, 404, 43] (by decide +kernel) (by decide +kernel)) ggL_law_L_setSeed
set_option maxRecDepth 20000 in
theorem ggL_law_X5_setSeed : GoodIn lw_tbl wsX5_setSeed := goodIn_ca (goodIn_r _ [880, 881, 858, 860, 13, 49, 861, 813, 814, 862, 863, 864, 865, 867, 14, 868, 825, 827, 829, 831, 833, 835, 837, 839, 841, 843, 845, 847] (by decide +kernel) (by decide +kernel)) gx_0
theorem gL_law_X5_setSeed : GoodIn lw_tbl (wsV RL 127 RX5 yX5_setSeed wsX5_setSeed) := goodIn_app (goodIn_r _ [877, 878, 879, 49] (by decide +kernel) (by decide +kernel)) ggL_law_X5_setSeed
set_option maxRecDepth 20000 in
theorem ggL_law_X4_seed : GoodIn lw_tbl wsX4_seed := goodIn_r _ [220, 198, 160, 204, 206, 208, 210, 212, 214, 167, 169, 171, 173, 175, 177, 179] (by decide +kernel) (by decide +kernel)
theorem gL_law_X4_seed : GoodIn lw_tbl (wsV RL 128 RX4 yX4_seed wsX4_seed) := goodIn_app (goodIn_r _ [217, 218, 219, 44] (by decide +kernel) (by decide +kernel)) ggL_law_X4_seed
set_option maxRecDepth 20000 in
theorem ggL_law_X5_seed : GoodIn lw_tbl wsX5_seed := goodIn_ca (goodIn_r _ [885, 813, 814, 825, 827, 829, 831, 833, 835, 837, 839, 841, 843, 845, 847] (by decide +kernel) (by decide +kernel)) gx_0
theorem gL_law_X5_seed : GoodIn lw_tbl (wsV RL 131 RX5 yX5_seed wsX5_seed) := goodIn_app (goodIn_r _ [882, 883, 884, 49] (by decide +kernel) (by decide +kernel)) ggL_law_X5_seed
set_option maxRecDepth 20000 in
theorem ggL_law_L_join : GoodIn lw_tbl wsL_join := goodIn_ca (goodIn_ca (goodIn_ca (goodIn_ca (goodIn_r _ [413, 414, 438, 311, 439, 440, 441, 44, 442, 459, 57, 316, 53, 198, 154, 84, 156, 110, 443, 444, 445, 446, 54, 475, 238, 239, 46, 240, 82, 87, 89, 242, 243, 477, 478, 479, 45, 480, 153, 83, 86, 155, 109, 481, 482, 483, 47, 484, 111, 113, 118, 123, 233, 234, 235, 236, 237, 485, 487, 3, 488, 489, 490, 491, 492, 493, 494, 495, 496, 108, 497, 498, 499, 500, 130, 501, 503, 4, 504, 505, 507, 5, 508, 115, 125, 121, 509, 510, 511, 512, 128, 513, 204, 206, 208, 210, 212, 214, 167, 169, 171, 173, 175, 177, 179, 91, 93, 95, 97, 132, 134, 136, 138, 140, 142, 144, 146, 148, 150] (by decide +kernel) (by decide +kernel)) gx_0) gx_5) gx_1) gx_2
theorem gL_law_L_join : GoodIn lw_tbl (va_wsS RL 132 yL_join wsL_join) := goodIn_app (goodIn_r _ [411, 412, 43] (by decide +kernel) (by decide +kernel)) ggL_law_L_join
set_option maxRecDepth 20000 in
theorem ggL_law_X5_join : GoodIn lw_tbl wsX5_join := goodIn_ca (goodIn_r _ [889, 813, 814, 890, 891, 49, 892, 862, 863, 864, 865, 867, 14, 868, 893, 895, 15, 896, 897, 898, 899, 900, 902, 16, 903, 904, 906, 17, 907, 908, 910, 18, 911, 912, 914, 19, 915, 916, 918, 20, 919, 825, 827, 829, 831, 833, 835, 837, 839, 841, 843, 845, 847] (by decide +kernel) (by decide +kernel)) gx_0
theorem gL_law_X5_join : GoodIn lw_tbl (wsV RL 135 RX5 yX5_join wsX5_join) := goodIn_app (goodIn_r _ [886, 887, 888, 49] (by decide +kernel) (by decide +kernel)) ggL_law_X5_join
set_option maxRecDepth 20000 in
theorem ggL_law_L_crash : GoodIn lw_tbl wsL_crash := goodIn_ca (goodIn_ca (goodIn_ca (goodIn_r _ [516, 414, 438, 517, 518, 519, 44, 520, 459, 57, 198, 154, 84, 156, 443, 444, 445, 446, 54, 513, 510, 511, 47, 512, 125, 128, 522, 523, 524, 46, 525, 82, 204, 206, 208, 210, 212, 214, 167, 169, 171, 173, 175, 177, 179, 91, 93, 95, 97, 132, 134, 136, 138, 140, 142, 144, 146, 148, 150] (by decide +kernel) (by decide +kernel)) gx_0) gx_5) gx_2
theorem gL_law_L_crash : GoodIn lw_tbl (va_wsS RL 136 yL_crash wsL_crash) := goodIn_app (goodIn_r _ [514, 515, 43] (by decide +kernel) (by decide +kernel)) ggL_law_L_crash
set_option maxRecDepth 20000 in
theorem ggL_law_X5_crash : GoodIn lw_tbl wsX5_crash := goodIn_ca (goodIn_r _ [923, 813, 814, 890, 891, 49, 892, 862, 863, 864, 865, 867, 14, 868, 825, 827, 829, 831, 833, 835, 837, 839, 841, 843, 845, 847] (by decide +kernel) (by decide +kernel)) gx_0
theorem gL_law_X5_crash : GoodIn lw_tbl (wsV RL 138 RX5 yX5_crash wsX5_crash) := goodIn_app (goodIn_r _ [920, 921, 922, 49] (by decide +kernel) (by decide +kernel)) ggL_law_X5_crash
set_option maxRecDepth 20000 in
theorem ggL_law_L_move : GoodIn lw_tbl wsL_move := goodIn_ca (goodIn_ca (goodIn_ca (goodIn_r _ [528, 414, 311, 529, 530, 531, 44, 532, 316, 53, 198, 154, 88, 156, 443, 444, 445, 446, 54, 513, 510, 511, 47, 512, 125, 128, 204, 206, 208, 210, 212, 214, 167, 169, 171, 173, 175, 177, 179, 91, 93, 95, 97, 132, 134, 136, 138, 140, 142, 144, 146, 148, 150] (by decide +kernel) (by decide +kernel)) gx_0) gx_1) gx_2
theorem gL_law_L_move : GoodIn lw_tbl (va_wsS RL 139 yL_move wsL_move) := goodIn_app (goodIn_r _ [526, 527, 43] (by decide +kernel) (by decide +kernel)) ggL_law_L_move
set_option maxRecDepth 20000 in
theorem ggL_law_X5_move : GoodIn lw_tbl wsX5_move := goodIn_ca (goodIn_r _ [927, 813, 814, 890, 891, 49, 892, 862, 863, 864, 865, 867, 14, 868, 825, 827, 829, 831, 833, 835, 837, 839, 841, 843, 845, 847] (by decide +kernel) (by decide +kernel)) gx_0
theorem gL_law_X5_move : GoodIn lw_tbl (wsV RL 141 RX5 yX5_move wsX5_move) := goodIn_app (goodIn_r _ [924, 925, 926, 49] (by decide +kernel) (by decide +kernel)) ggL_law_X5_move
set_option maxRecDepth 20000 in
theorem ggL_law_L_cut : GoodIn lw_tbl wsL_cut := goodIn_ca (goodIn_ca (goodIn_ca (goodIn_r _ [536, 414, 311, 537, 538, 539, 44, 540, 198, 154, 90, 156, 541, 542, 543, 316, 53, 443, 444, 445, 446, 54, 545, 242, 243, 546, 547, 548, 46, 549, 89, 513, 510, 511, 47, 512, 125, 128, 204, 206, 208, 210, 212, 214, 167, 169, 171, 173, 175, 177, 179, 91, 93, 95, 97, 132, 134, 136, 138, 140, 142, 144, 146, 148, 150] (by decide +kernel) (by decide +kernel)) gx_0) gx_1) gx_2
theorem gL_law_L_cut : GoodIn lw_tbl (va_wsS RL 142 yL_cut wsL_cut) := goodIn_app (goodIn_r _ [534, 535, 43] (by decide +kernel) (by decide +kernel)) ggL_law_L_cut
set_option maxRecDepth 20000 in
theorem ggL_law_X5_cut : GoodIn lw_tbl wsX5_cut := goodIn_ca (goodIn_r _ [931, 813, 814, 890, 891, 49, 892, 862, 863, 864, 897, 898, 899, 825, 827, 829, 831, 833, 835, 837, 839, 841, 843, 845, 847] (by decide +kernel) (by decide +kernel)) gx_0
theorem gL_law_X5_cut : GoodIn lw_tbl (wsV RL 145 RX5 yX5_cut wsX5_cut) := goodIn_app (goodIn_r _ [928, 929, 930, 49] (by decide +kernel) (by decide +kernel)) ggL_law_X5_cut
set_option maxRecDepth 20000 in
theorem ggL_law_L_rounds : GoodIn lw_tbl wsL_rounds := goodIn_ca (goodIn_ca (goodIn_ca (goodIn_r _ [552, 311, 553, 554, 555, 44, 556, 316, 53, 198, 156, 127, 558, 559, 560, 45, 561, 155, 126, 153, 83, 562, 564, 6, 565, 566, 568, 7, 569, 116, 161, 163, 570, 571, 572, 47, 573, 111, 242, 243, 493, 494, 495, 496, 108, 113, 497, 498, 499, 500, 130, 118, 123, 501, 503, 4, 504, 505, 507, 5, 508, 115, 125, 121, 509, 510, 511, 512, 128, 233, 234, 235, 46, 236, 82, 237, 238, 239, 240, 87, 89, 575, 577, 8, 578, 159, 585, 586, 587, 579, 580, 58, 581, 582, 583, 584, 588, 590, 9, 591, 119, 165, 489, 490, 491, 492, 592, 593, 594, 595, 596, 598, 10, 599, 157, 204, 206, 208, 210, 212, 214, 167, 169, 171, 173, 175, 177, 179, 132, 134, 136, 138, 140, 142, 144, 146, 148, 150, 91, 93, 95, 97] (by decide +kernel) (by decide +kernel)) gx_0) gx_1) gx_3
theorem gL_law_L_rounds : GoodIn lw_tbl (va_wsS RL 146 yL_rounds wsL_rounds) := goodIn_app (goodIn_r _ [550, 551, 43] (by decide +kernel) (by decide +kernel)) ggL_law_L_rounds

set_option maxRecDepth 20000 in
theorem ggL_law_X5_view : GoodIn lw_tbl wsX5_view := goodIn_ca (goodIn_r _ [1030, 814, 1031, 1033, 36, 49, 1034, 813, 890, 891, 892, 862, 863, 864, 897, 898, 899, 825, 827, 829, 831, 833, 835, 837, 839, 841, 843, 845, 847] (by decide +kernel) (by decide +kernel)) gx_0
theorem gL_law_X5_view : GoodIn lw_tbl (wsV RL 170 RX5 yX5_view wsX5_view) := goodIn_app (goodIn_r _ [1027, 1028, 1029, 49] (by decide +kernel) (by decide +kernel)) ggL_law_X5_view
set_option maxRecDepth 20000 in
theorem ggL_law_L_viewIncarnation : GoodIn lw_tbl wsL_viewIncarnation := goodIn_ca (goodIn_ca (goodIn_ca (goodIn_r _ [663, 414, 311, 664, 665, 666, 44, 667, 198, 156, 114, 541, 542, 543, 316, 53, 443, 444, 445, 446, 54, 545, 242, 243, 204, 206, 208, 210, 212, 214, 167, 169, 171, 173, 175, 177, 179, 132, 134, 136, 138, 140, 142, 144, 146, 148, 150] (by decide +kernel) (by decide +kernel)) gx_0) gx_1) gx_2
theorem gL_law_L_viewIncarnation : GoodIn lw_tbl (va_wsS RL 171 yL_viewIncarnation wsL_viewIncarnation) := goodIn_app (goodIn_r _ [661, 662, 43] (by decide +kernel) (by decide +kernel)) ggL_law_L_viewIncarnation
set_option maxRecDepth 20000 in
theorem ggL_law_X5_viewIncarnation : GoodIn lw_tbl wsX5_viewIncarnation := goodIn_ca (goodIn_r _ [1038, 814, 1031, 1033, 36, 49, 1034, 813, 890, 891, 892, 862, 863, 864, 897, 898, 899, 825, 827, 829, 831, 833, 835, 837, 839, 841, 843, 845, 847] (by decide +kernel) (by decide +kernel)) gx_0
theorem gL_law_X5_viewIncarnation : GoodIn lw_tbl (wsV RL 173 RX5 yX5_viewIncarnation wsX5_viewIncarnation) := goodIn_app (goodIn_r _ [1035, 1036, 1037, 49] (by decide +kernel) (by decide +kernel)) ggL_law_X5_viewIncarnation
set_option maxRecDepth 20000 in
theorem ggL_law_L_deadline : GoodIn lw_tbl wsL_deadline := goodIn_ca (goodIn_ca (goodIn_ca (goodIn_ca (goodIn_r _ [670, 414, 311, 603, 671, 672, 673, 44, 674, 609, 59, 198, 156, 112, 117, 541, 542, 543, 316, 53, 443, 444, 445, 446, 54, 545, 242, 243, 204, 206, 208, 210, 212, 214, 167, 169, 171, 173, 175, 177, 179, 132, 134, 136, 138, 140, 142, 144, 146, 148, 150] (by decide +kernel) (by decide +kernel)) gx_0) gx_4) gx_1) gx_2
theorem gL_law_L_deadline : GoodIn lw_tbl (va_wsS RL 174 yL_deadline wsL_deadline) := goodIn_app (goodIn_r _ [668, 669, 43] (by decide +kernel) (by decide +kernel)) ggL_law_L_deadline
set_option maxRecDepth 20000 in
theorem ggL_law_X5_deadline : GoodIn lw_tbl wsX5_deadline := goodIn_ca (goodIn_r _ [1042, 814, 1031, 1033, 36, 49, 1034, 813, 890, 891, 892, 862, 863, 864, 897, 898, 899, 865, 867, 14, 868, 825, 827, 829, 831, 833, 835, 837, 839, 841, 843, 845, 847] (by decide +kernel) (by decide +kernel)) gx_0
theorem gL_law_X5_deadline : GoodIn lw_tbl (wsV RL 176 RX5 yX5_deadline wsX5_deadline) := goodIn_app (goodIn_r _ [1039, 1040, 1041, 49] (by decide +kernel) (by decide +kernel)) ggL_law_X5_deadline
set_option maxRecDepth 20000 in
theorem ggL_law_L_counter : GoodIn lw_tbl wsL_counter := goodIn_ca (goodIn_ca (goodIn_r _ [678, 414, 679, 680, 681, 44, 682, 198, 156, 120, 443, 444, 445, 446, 54, 545, 242, 243, 204, 206, 208, 210, 212, 214, 167, 169, 171, 173, 175, 177, 179, 132, 134, 136, 138, 140, 142, 144, 146, 148, 150] (by decide +kernel) (by decide +kernel)) gx_0) gx_2
theorem gL_law_L_counter : GoodIn lw_tbl (va_wsS RL 177 yL_counter wsL_counter) := goodIn_app (goodIn_r _ [676, 677, 43] (by decide +kernel) (by decide +kernel)) ggL_law_L_counter
set_option maxRecDepth 20000 in
theorem ggL_law_X5_counter : GoodIn lw_tbl wsX5_counter := goodIn_ca (goodIn_r _ [1046, 813, 814, 890, 891, 49, 892, 862, 863, 864, 897, 898, 899, 865, 867, 14, 868, 825, 827, 829, 831, 833, 835, 837, 839, 841, 843, 845, 847] (by decide +kernel) (by decide +kernel)) gx_0
theorem gL_law_X5_counter : GoodIn lw_tbl (wsV RL 179 RX5 yX5_counter wsX5_counter) := goodIn_app (goodIn_r _ [1043, 1044, 1045, 49] (by decide +kernel) (by decide +kernel)) ggL_law_X5_counter
set_option maxRecDepth 20000 in
theorem ggL_law_L_tell : GoodIn lw_tbl wsL_tell := goodIn_ca (goodIn_ca (goodIn_ca (goodIn_ca (goodIn_r _ [685, 414, 438, 311, 686, 687, 688, 44, 689, 459, 57, 316, 53, 198, 154, 84, 156, 443, 444, 445, 446, 54, 692, 498, 499, 47, 500, 108, 130, 118, 123, 242, 243, 501, 503, 4, 504, 111, 113, 505, 507, 5, 508, 115, 125, 121, 509, 510, 511, 512, 128, 513, 204, 206, 208, 210, 212, 214, 167, 169, 171, 173, 175, 177, 179, 91, 93, 95, 97, 132, 134, 136, 138, 140, 142, 144, 146, 148, 150] (by decide +kernel) (by decide +kernel)) gx_0) gx_5) gx_1) gx_2
theorem gL_law_L_tell : GoodIn lw_tbl (va_wsS RL 180 yL_tell wsL_tell) := goodIn_app (goodIn_r _ [683, 684, 43] (by decide +kernel) (by decide +kernel)) ggL_law_L_tell
set_option maxRecDepth 20000 in
theorem ggL_law_X5_tell : GoodIn lw_tbl wsX5_tell := goodIn_ca (goodIn_r _ [1050, 813, 814, 890, 891, 49, 892, 862, 863, 864, 908, 910, 18, 911, 912, 914, 19, 915, 900, 902, 16, 903, 897, 898, 899, 916, 918, 20, 919, 825, 827, 829, 831, 833, 835, 837, 839, 841, 843, 845, 847] (by decide +kernel) (by decide +kernel)) gx_0
theorem gL_law_X5_tell : GoodIn lw_tbl (wsV RL 183 RX5 yX5_tell wsX5_tell) := goodIn_app (goodIn_r _ [1047, 1048, 1049, 49] (by decide +kernel) (by decide +kernel)) ggL_law_X5_tell
set_option maxRecDepth 20000 in
theorem ggL_law_L_alive : GoodIn lw_tbl wsL_alive := goodIn_ca (goodIn_ca (goodIn_r _ [695, 414, 696, 697, 698, 44, 699, 198, 156, 443, 444, 445, 446, 54, 700, 571, 572, 47, 573, 111, 242, 243, 204, 206, 208, 210, 212, 214, 167, 169, 171, 173, 175, 177, 179, 132, 134, 136, 138, 140, 142, 144, 146, 148, 150] (by decide +kernel) (by decide +kernel)) gx_0) gx_2
theorem gL_law_L_alive : GoodIn lw_tbl (va_wsS RL 184 yL_alive wsL_alive) := goodIn_app (goodIn_r _ [693, 694, 43] (by decide +kernel) (by decide +kernel)) ggL_law_L_alive
set_option maxRecDepth 20000 in
theorem ggL_law_X5_alive : GoodIn lw_tbl wsX5_alive := goodIn_ca (goodIn_r _ [1054, 813, 890, 891, 49, 892, 862, 863, 864, 952, 954, 25, 955, 814, 897, 898, 899, 865, 867, 14, 868, 825, 827, 829, 831, 833, 835, 837, 839, 841, 843, 845, 847] (by decide +kernel) (by decide +kernel)) gx_0
theorem gL_law_X5_alive : GoodIn lw_tbl (wsV RL 186 RX5 yX5_alive wsX5_alive) := goodIn_app (goodIn_r _ [1051, 1052, 1053, 49] (by decide +kernel) (by decide +kernel)) ggL_law_X5_alive
set_option maxRecDepth 20000 in
theorem ggL_law_X4_agree : GoodIn lw_tbl wsX4_agree := goodIn_ca (goodIn_r _ [228, 198, 229, 230, 231, 45, 232, 153, 233, 234, 235, 46, 236, 82, 237, 238, 239, 240, 87, 89, 242, 44, 243, 244, 246, 0, 247, 155, 248, 249, 250, 47, 251, 111, 113, 108, 253, 254, 255, 256, 257, 259, 1, 260, 204, 206, 208, 210, 212, 214, 167, 169, 171, 173, 175, 177, 179, 91, 93, 95, 97, 132, 134, 136, 138, 140, 142, 144, 146, 148, 150] (by decide +kernel) (by decide +kernel)) gx_0
theorem gL_law_X4_agree : GoodIn lw_tbl (wsV RL 187 RX4 yX4_agree wsX4_agree) := goodIn_app (goodIn_r _ [225, 226, 227, 44] (by decide +kernel) (by decide +kernel)) ggL_law_X4_agree
set_option maxRecDepth 20000 in
theorem ggL_law_X5_agree : GoodIn lw_tbl wsX5_agree := goodIn_ca (goodIn_r _ [1058, 813, 991, 993, 32, 49, 994, 995, 997, 33, 998, 948, 950, 24, 951, 814, 893, 895, 15, 896, 897, 898, 899, 999, 1001, 34, 1002, 1003, 1005, 35, 1006, 825, 827, 829, 831, 833, 835, 837, 839, 841, 843, 845, 847] (by decide +kernel) (by decide +kernel)) gx_0
theorem gL_law_X5_agree : GoodIn lw_tbl (wsV RL 191 RX5 yX5_agree wsX5_agree) := goodIn_app (goodIn_r _ [1055, 1056, 1057, 49] (by decide +kernel) (by decide +kernel)) ggL_law_X5_agree
set_option maxRecDepth 20000 in
theorem ggL_law_X4_disagreements : GoodIn lw_tbl wsX4_disagreements := goodIn_ca (goodIn_r _ [264, 198, 265, 266, 267, 45, 268, 153, 155, 233, 234, 235, 46, 236, 82, 237, 238, 239, 240, 87, 89, 242, 44, 243, 253, 254, 255, 47, 256, 257, 259, 1, 260, 111, 113, 204, 206, 208, 210, 212, 214, 167, 169, 171, 173, 175, 177, 179, 91, 93, 95, 97, 132, 134, 136, 138, 140, 142, 144, 146, 148, 150] (by decide +kernel) (by decide +kernel)) gx_0
theorem gL_law_X4_disagreements : GoodIn lw_tbl (wsV RL 192 RX4 yX4_disagreements wsX4_disagreements) := goodIn_app (goodIn_r _ [261, 262, 263, 44] (by decide +kernel) (by decide +kernel)) ggL_law_X4_disagreements
set_option maxRecDepth 20000 in
theorem ggL_law_X5_disagreements : GoodIn lw_tbl wsX5_disagreements := goodIn_ca (goodIn_r _ [1062, 813, 995, 997, 33, 49, 998, 948, 950, 24, 951, 814, 893, 895, 15, 896, 897, 898, 899, 999, 1001, 34, 1002, 825, 827, 829, 831, 833, 835, 837, 839, 841, 843, 845, 847] (by decide +kernel) (by decide +kernel)) gx_0
theorem gL_law_X5_disagreements : GoodIn lw_tbl (wsV RL 195 RX5 yX5_disagreements wsX5_disagreements) := goodIn_app (goodIn_r _ [1059, 1060, 1061, 49] (by decide +kernel) (by decide +kernel)) ggL_law_X5_disagreements
set_option maxRecDepth 20000 in
theorem ggL_law_X4_declarations : GoodIn lw_tbl wsX4_declarations := goodIn_r _ [272, 198, 162, 204, 206, 208, 210, 212, 214, 167, 169, 171, 173, 175, 177, 179] (by decide +kernel) (by decide +kernel)
theorem gL_law_X4_declarations : GoodIn lw_tbl (wsV RL 196 RX4 yX4_declarations wsX4_declarations) := goodIn_app (goodIn_r _ [269, 270, 271, 44] (by decide +kernel) (by decide +kernel)) ggL_law_X4_declarations
set_option maxRecDepth 20000 in
theorem ggL_law_X5_declarations : GoodIn lw_tbl wsX5_declarations := goodIn_ca (goodIn_r _ [1066, 1067, 1069, 37, 49, 1070, 813, 814, 825, 827, 829, 831, 833, 835, 837, 839, 841, 843, 845, 847] (by decide +kernel) (by decide +kernel)) gx_0
theorem gL_law_X5_declarations : GoodIn lw_tbl (wsV RL 199 RX5 yX5_declarations wsX5_declarations) := goodIn_app (goodIn_r _ [1063, 1064, 1065, 49] (by decide +kernel) (by decide +kernel)) ggL_law_X5_declarations
set_option maxRecDepth 20000 in
theorem ggL_law_X4_falseDeclarations : GoodIn lw_tbl wsX4_falseDeclarations := goodIn_r _ [276, 198, 164, 204, 206, 208, 210, 212, 214, 167, 169, 171, 173, 175, 177, 179] (by decide +kernel) (by decide +kernel)
theorem gL_law_X4_falseDeclarations : GoodIn lw_tbl (wsV RL 200 RX4 yX4_falseDeclarations wsX4_falseDeclarations) := goodIn_app (goodIn_r _ [273, 274, 275, 44] (by decide +kernel) (by decide +kernel)) ggL_law_X4_falseDeclarations
set_option maxRecDepth 20000 in
theorem ggL_law_X5_falseDeclarations : GoodIn lw_tbl wsX5_falseDeclarations := goodIn_ca (goodIn_r _ [1074, 1067, 1069, 37, 49, 1070, 813, 814, 825, 827, 829, 831, 833, 835, 837, 839, 841, 843, 845, 847] (by decide +kernel) (by decide +kernel)) gx_0
theorem gL_law_X5_falseDeclarations : GoodIn lw_tbl (wsV RL 203 RX5 yX5_falseDeclarations wsX5_falseDeclarations) := goodIn_app (goodIn_r _ [1071, 1072, 1073, 49] (by decide +kernel) (by decide +kernel)) ggL_law_X5_falseDeclarations
set_option maxRecDepth 20000 in
theorem ggL_law_X4_refutations : GoodIn lw_tbl wsX4_refutations := goodIn_r _ [280, 198, 156, 131, 204, 206, 208, 210, 212, 214, 167, 169, 171, 173, 175, 177, 179, 132, 134, 136, 138, 140, 142, 144, 146, 148, 150] (by decide +kernel) (by decide +kernel)
theorem gL_law_X4_refutations : GoodIn lw_tbl (wsV RL 204 RX4 yX4_refutations wsX4_refutations) := goodIn_app (goodIn_r _ [277, 278, 279, 44] (by decide +kernel) (by decide +kernel)) ggL_law_X4_refutations
set_option maxRecDepth 20000 in
theorem ggL_law_X5_refutations : GoodIn lw_tbl wsX5_refutations := goodIn_ca (goodIn_r _ [1078, 1067, 1069, 37, 49, 1070, 813, 814, 825, 827, 829, 831, 833, 835, 837, 839, 841, 843, 845, 847] (by decide +kernel) (by decide +kernel)) gx_0
theorem gL_law_X5_refutations : GoodIn lw_tbl (wsV RL 207 RX5 yX5_refutations wsX5_refutations) := goodIn_app (goodIn_r _ [1075, 1076, 1077, 49] (by decide +kernel) (by decide +kernel)) ggL_law_X5_refutations
set_option maxRecDepth 20000 in
theorem ggL_law_X4_messages : GoodIn lw_tbl wsX4_messages := goodIn_r _ [284, 198, 166, 204, 206, 208, 210, 212, 214, 167, 169, 171, 173, 175, 177, 179] (by decide +kernel) (by decide +kernel)
theorem gL_law_X4_messages : GoodIn lw_tbl (wsV RL 208 RX4 yX4_messages wsX4_messages) := goodIn_app (goodIn_r _ [281, 282, 283, 44] (by decide +kernel) (by decide +kernel)) ggL_law_X4_messages

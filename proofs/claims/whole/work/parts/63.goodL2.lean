set_option maxRecDepth 20000 in
theorem ggL_law_X11_tear : GoodIn wsL_law wsX11_tear := goodIn_r _ [670, 15, 651, 652, 653, 50, 654, 92, 671, 672, 673, 674, 90, 675, 182, 134, 183, 650, 234, 235, 1041, 1042, 1043, 1044, 1045, 1046, 1047, 1048, 1090, 1091, 1092, 1093, 1123, 1124, 1125, 1126] (by decide +kernel) (by decide +kernel)
set_option maxRecDepth 20000 in
theorem gL_law_X11_tear : GoodIn wsL_law (wsV RL 89 RX11 yX11_tear wsX11_tear) := goodIn_app (goodIn_of _ (by decide +kernel)) ggL_law_X11_tear
set_option maxRecDepth 20000 in
theorem ggL_law_X12_tear : GoodIn wsL_law wsX12_tear := goodIn_r _ [679, 204, 145, 206, 207, 5, 208, 1049, 1050, 1051, 1052, 1053, 1054, 1055, 1056, 1057, 1058, 1059, 1060, 1061, 1062, 1063, 1064, 1065, 1066, 1067, 1068, 1069, 1070, 1071, 1072, 1073, 1074, 1075, 1076, 1077, 1078, 1079, 1080, 1081, 1082, 1083, 1084, 1085, 1086, 1087, 1088, 1089] (by decide +kernel) (by decide +kernel)
set_option maxRecDepth 20000 in
theorem gL_law_X12_tear : GoodIn wsL_law (wsV RL 92 RX12 yX12_tear wsX12_tear) := goodIn_app (goodIn_of _ (by decide +kernel)) ggL_law_X12_tear
set_option maxRecDepth 20000 in
theorem ggL_law_X11_possible : GoodIn wsL_law wsX11_possible := goodIn_r _ [683, 15, 651, 652, 653, 50, 654, 92, 684, 685, 686, 687, 89, 91, 688, 689, 690, 691, 90, 675, 182, 134, 183, 692, 693, 694, 20, 695, 77, 84, 240, 70, 71, 44, 72, 61, 177, 178, 179, 180, 78, 181, 696, 246, 247, 697, 253, 254, 650, 234, 235, 698, 699, 700, 701, 1041, 1042, 1043, 1044, 1045, 1046, 1047, 1048, 1090, 1091, 1092, 1093, 1123, 1124, 1125, 1126, 1119, 1120, 1121, 1122, 1094, 1095, 1096, 1097, 1098, 1099, 1100] (by decide +kernel) (by decide +kernel)
set_option maxRecDepth 20000 in
theorem gL_law_X11_possible : GoodIn wsL_law (wsV RL 93 RX11 yX11_possible wsX11_possible) := goodIn_app (goodIn_of _ (by decide +kernel)) ggL_law_X11_possible
set_option maxRecDepth 20000 in
theorem ggL_law_X12_possible : GoodIn wsL_law wsX12_possible := goodIn_r _ [705, 204, 206, 207, 5, 208, 706, 707, 708, 709, 141, 710, 711, 712, 713, 714, 715, 419, 716, 449, 418, 420, 153, 145, 717, 718, 719, 720, 142, 212, 213, 214, 215, 140, 209, 210, 211, 321, 322, 323, 324, 1049, 1050, 1051, 1052, 1053, 1054, 1055, 1056, 1057, 1058, 1059, 1060, 1061, 1062, 1063, 1064, 1065, 1066, 1067, 1068, 1069, 1070, 1071, 1072, 1073, 1074, 1075, 1076, 1077, 1078, 1079, 1080, 1081, 1082, 1083, 1084, 1085, 1086, 1087, 1088, 1089] (by decide +kernel) (by decide +kernel)
set_option maxRecDepth 20000 in
theorem gL_law_X12_possible : GoodIn wsL_law (wsV RL 96 RX12 yX12_possible wsX12_possible) := goodIn_app (goodIn_of _ (by decide +kernel)) ggL_law_X12_possible
set_option maxRecDepth 20000 in
theorem ggL_law_X11_certain : GoodIn wsL_law wsX11_certain := goodIn_r _ [724, 15, 684, 685, 686, 50, 687, 89, 91, 688, 689, 690, 691, 92, 90, 675, 182, 134, 183, 692, 693, 694, 20, 695, 77, 84, 240, 70, 71, 44, 72, 61, 177, 178, 179, 180, 78, 181, 696, 246, 247, 697, 253, 254, 650, 234, 235, 725, 726, 727, 728, 729, 699, 700, 701, 1041, 1042, 1043, 1044, 1045, 1046, 1047, 1048, 1090, 1091, 1092, 1093, 1123, 1124, 1125, 1126, 1119, 1120, 1121, 1122, 1094, 1095, 1096, 1097, 1098, 1099, 1100] (by decide +kernel) (by decide +kernel)
set_option maxRecDepth 20000 in
theorem gL_law_X11_certain : GoodIn wsL_law (wsV RL 97 RX11 yX11_certain wsX11_certain) := goodIn_app (goodIn_of _ (by decide +kernel)) ggL_law_X11_certain
set_option maxRecDepth 20000 in
theorem ggL_law_X12_certain : GoodIn wsL_law wsX12_certain := goodIn_r _ [733, 204, 206, 207, 5, 208, 706, 707, 708, 709, 141, 710, 711, 712, 713, 714, 715, 419, 716, 449, 418, 420, 153, 145, 717, 718, 719, 720, 142, 212, 213, 214, 215, 140, 209, 210, 211, 321, 322, 323, 324, 1049, 1050, 1051, 1052, 1053, 1054, 1055, 1056, 1057, 1058, 1059, 1060, 1061, 1062, 1063, 1064, 1065, 1066, 1067, 1068, 1069, 1070, 1071, 1072, 1073, 1074, 1075, 1076, 1077, 1078, 1079, 1080, 1081, 1082, 1083, 1084, 1085, 1086, 1087, 1088, 1089] (by decide +kernel) (by decide +kernel)
set_option maxRecDepth 20000 in
theorem gL_law_X12_certain : GoodIn wsL_law (wsV RL 100 RX12 yX12_certain wsX12_certain) := goodIn_app (goodIn_of _ (by decide +kernel)) ggL_law_X12_certain
set_option maxRecDepth 20000 in
theorem ggL_law_X11_delay : GoodIn wsL_law wsX11_delay := goodIn_r _ [737, 15, 738, 739, 740, 741, 742, 715, 419, 716, 743, 744, 745, 746, 747, 748, 749, 418, 420, 750, 70, 71, 44, 72, 61, 751, 752, 753, 754, 253, 134, 254, 755, 693, 694, 20, 695, 77, 84, 240, 177, 178, 179, 180, 78, 181, 182, 183, 696, 246, 247, 697, 1041, 1042, 1043, 1044, 1045, 1046, 1047, 1048, 1090, 1091, 1092, 1093, 1119, 1120, 1121, 1122, 1094, 1095, 1096, 1097, 1098, 1099, 1100] (by decide +kernel) (by decide +kernel)
set_option maxRecDepth 20000 in
theorem gL_law_X11_delay : GoodIn wsL_law (wsV RL 101 RX11 yX11_delay wsX11_delay) := goodIn_app (goodIn_of _ (by decide +kernel)) ggL_law_X11_delay
set_option maxRecDepth 20000 in
theorem ggL_law_X12_delay : GoodIn wsL_law wsX12_delay := goodIn_r _ [759, 141, 714, 715, 419, 716, 212, 213, 214, 5, 215, 140, 209, 210, 211, 760, 761, 762, 763, 154, 155, 764, 765, 766, 767, 449, 418, 420, 153, 717, 718, 719, 720, 142, 321, 322, 323, 324, 1049, 1050, 1051, 1052, 1053, 1054, 1055, 1056, 1057, 1058, 1059, 1060, 1061, 1062, 1063, 1064, 1065, 1066, 1067, 1068, 1069, 1070, 1071, 1072, 1073, 1074, 1075, 1076, 1077, 1078, 1079, 1080, 1081, 1082, 1083, 1084, 1085, 1086, 1087, 1088, 1089] (by decide +kernel) (by decide +kernel)
set_option maxRecDepth 20000 in
theorem gL_law_X12_delay : GoodIn wsL_law (wsV RL 104 RX12 yX12_delay wsX12_delay) := goodIn_app (goodIn_of _ (by decide +kernel)) ggL_law_X12_delay
set_option maxRecDepth 20000 in
theorem ggL_law_X11_odds : GoodIn wsL_law wsX11_odds := goodIn_r _ [771, 772, 21, 773, 774, 775, 20, 776, 777, 77, 610, 174, 175, 176, 84, 82, 83, 177, 178, 179, 180, 78, 181, 182, 134, 183, 184, 185, 186, 187, 80, 188, 133, 135, 697, 253, 254, 611, 225, 226, 227, 228, 221, 222, 44, 223, 68, 229, 230, 231, 232, 233, 234, 235, 236, 237, 238, 239, 240, 70, 71, 72, 61, 241, 242, 243, 244, 67, 69, 245, 246, 247, 248, 249, 250, 251, 252, 347, 348, 349, 350, 351, 352, 353, 354, 778, 779, 780, 781, 715, 419, 716, 782, 783, 1041, 1042, 1043, 1044, 1045, 1046, 1047, 1048, 1094, 1095, 1096, 1097, 1098, 1099, 1100, 1119, 1120, 1121, 1122] (by decide +kernel) (by decide +kernel)
set_option maxRecDepth 20000 in
theorem gL_law_X11_odds : GoodIn wsL_law (wsV RL 105 RX11 yX11_odds wsX11_odds) := goodIn_app (goodIn_of _ (by decide +kernel)) ggL_law_X11_odds
set_option maxRecDepth 20000 in
theorem ggL_law_X12_odds : GoodIn wsL_law wsX12_odds := goodIn_r _ [787, 788, 789, 790, 144, 142, 791, 206, 207, 5, 208, 554, 555, 556, 557, 212, 213, 214, 215, 140, 141, 209, 210, 211, 372, 373, 374, 375, 369, 370, 371, 339, 340, 341, 342, 792, 793, 794, 1049, 1050, 1051, 1052, 1053, 1054, 1055, 1056, 1057, 1058, 1059, 1060, 1061, 1062, 1063, 1064, 1065, 1066, 1067, 1068, 1069, 1070, 1071, 1072, 1073, 1074, 1075, 1076, 1077, 1078, 1079, 1080, 1081, 1082, 1083, 1084, 1085, 1086, 1087, 1088, 1089] (by decide +kernel) (by decide +kernel)
set_option maxRecDepth 20000 in
theorem gL_law_X12_odds : GoodIn wsL_law (wsV RL 109 RX12 yX12_odds wsX12_odds) := goodIn_app (goodIn_of _ (by decide +kernel)) ggL_law_X12_odds
set_option maxRecDepth 20000 in
theorem ggL_law_X11_plan : GoodIn wsL_law wsX11_plan := goodIn_r _ [798, 15, 799, 194, 195, 54, 196, 100, 800, 801, 802, 803, 98, 99, 804, 234, 134, 235, 805, 806, 807, 808, 1041, 1042, 1043, 1044, 1045, 1046, 1047, 1048, 1090, 1091, 1092, 1093, 1127, 1128, 1129, 1130] (by decide +kernel) (by decide +kernel)
set_option maxRecDepth 20000 in
theorem gL_law_X11_plan : GoodIn wsL_law (wsV RL 110 RX11 yX11_plan wsX11_plan) := goodIn_app (goodIn_of _ (by decide +kernel)) ggL_law_X11_plan
set_option maxRecDepth 20000 in
theorem ggL_law_X12_plan : GoodIn wsL_law wsX12_plan := goodIn_r _ [812, 205, 368, 813, 814, 147, 206, 207, 5, 208, 1049, 1050, 1051, 1052, 1053, 1054, 1055, 1056, 1057, 1058, 1059, 1060, 1061, 1062, 1063, 1064, 1065, 1066, 1067, 1068, 1069, 1070, 1071, 1072, 1073, 1074, 1075, 1076, 1077, 1078, 1079, 1080, 1081, 1082, 1083, 1084, 1085, 1086, 1087, 1088, 1089] (by decide +kernel) (by decide +kernel)
set_option maxRecDepth 20000 in
theorem gL_law_X12_plan : GoodIn wsL_law (wsV RL 113 RX12 yX12_plan wsX12_plan) := goodIn_app (goodIn_of _ (by decide +kernel)) ggL_law_X12_plan
set_option maxRecDepth 20000 in
theorem ggL_law_X11_behind : GoodIn wsL_law wsX11_behind := goodIn_r _ [818, 21, 15, 819, 820, 821, 20, 822, 84, 78, 82, 83, 80, 823, 824, 134, 825, 229, 230, 231, 232, 826, 827, 828, 54, 829, 100, 98, 99, 830, 182, 183, 831, 832, 833, 834, 97, 835, 225, 226, 227, 77, 228, 221, 222, 44, 223, 68, 177, 178, 179, 180, 181, 233, 234, 235, 184, 185, 186, 187, 236, 237, 238, 239, 240, 70, 71, 72, 61, 241, 242, 243, 244, 67, 69, 245, 246, 247, 248, 249, 250, 251, 252, 253, 254, 836, 276, 277, 278, 837, 588, 589, 590, 591, 513, 514, 515, 66, 838, 606, 607, 608, 81, 609, 521, 522, 523, 524, 525, 314, 315, 316, 526, 610, 174, 175, 176, 188, 133, 135, 611, 839, 381, 382, 383, 351, 352, 353, 354, 384, 348, 349, 350, 255, 256, 257, 258, 347, 296, 297, 298, 299, 300, 1041, 1042, 1043, 1044, 1045, 1046, 1047, 1048, 1090, 1091, 1092, 1093, 1094, 1095, 1096, 1097, 1098, 1099, 1100, 1127, 1128, 1129, 1130, 1119, 1120, 1121, 1122] (by decide +kernel) (by decide +kernel)
set_option maxRecDepth 20000 in
theorem gL_law_X11_behind : GoodIn wsL_law (wsV RL 114 RX11 yX11_behind wsX11_behind) := goodIn_app (goodIn_of _ (by decide +kernel)) ggL_law_X11_behind
set_option maxRecDepth 20000 in
theorem ggL_law_X12_behind : GoodIn wsL_law wsX12_behind := goodIn_r _ [843, 201, 144, 205, 147, 142, 206, 207, 5, 208, 554, 555, 556, 557, 844, 845, 846, 847, 597, 598, 599, 600, 566, 567, 568, 569, 140, 616, 617, 618, 619, 150, 212, 213, 214, 215, 141, 209, 210, 211, 574, 575, 576, 577, 149, 578, 579, 580, 581, 321, 322, 323, 324, 620, 621, 622, 623, 263, 264, 265, 266, 389, 390, 391, 392, 372, 373, 374, 375, 369, 370, 371, 339, 340, 341, 342, 267, 268, 269, 270, 305, 306, 307, 308, 1049, 1050, 1051, 1052, 1053, 1054, 1055, 1056, 1057, 1058, 1059, 1060, 1061, 1062, 1063, 1064, 1065, 1066, 1067, 1068, 1069, 1070, 1071, 1072, 1073, 1074, 1075, 1076, 1077, 1078, 1079, 1080, 1081, 1082, 1083, 1084, 1085, 1086, 1087, 1088, 1089] (by decide +kernel) (by decide +kernel)
set_option maxRecDepth 20000 in
theorem gL_law_X12_behind : GoodIn wsL_law (wsV RL 117 RX12 yX12_behind wsX12_behind) := goodIn_app (goodIn_of _ (by decide +kernel)) ggL_law_X12_behind
set_option maxRecDepth 20000 in
theorem ggL_law_X11_feed : GoodIn wsL_law wsX11_feed := goodIn_r _ [851, 29, 852, 853, 854, 28, 855, 119, 116, 856, 234, 134, 235, 857, 858, 859, 860, 1041, 1042, 1043, 1044, 1045, 1046, 1047, 1048, 1111, 1112, 1113, 1114] (by decide +kernel) (by decide +kernel)
set_option maxRecDepth 20000 in
theorem gL_law_X11_feed : GoodIn wsL_law (wsV RL 118 RX11 yX11_feed wsX11_feed) := goodIn_app (goodIn_of _ (by decide +kernel)) ggL_law_X11_feed
set_option maxRecDepth 20000 in
theorem ggL_law_X12_feed : GoodIn wsL_law wsX12_feed := goodIn_r _ [864, 865, 866, 156, 206, 207, 5, 208, 1049, 1050, 1051, 1052, 1053, 1054, 1055, 1056, 1057, 1058, 1059, 1060, 1061, 1062, 1063, 1064, 1065, 1066, 1067, 1068, 1069, 1070, 1071, 1072, 1073, 1074, 1075, 1076, 1077, 1078, 1079, 1080, 1081, 1082, 1083, 1084, 1085, 1086, 1087, 1088, 1089] (by decide +kernel) (by decide +kernel)
set_option maxRecDepth 20000 in
theorem gL_law_X12_feed : GoodIn wsL_law (wsV RL 121 RX12 yX12_feed wsX12_feed) := goodIn_app (goodIn_of _ (by decide +kernel)) ggL_law_X12_feed
set_option maxRecDepth 20000 in
theorem ggL_law_X11_book : GoodIn wsL_law wsX11_book := goodIn_r _ [870, 29, 21, 15, 871, 872, 873, 28, 874, 119, 116, 875, 174, 175, 20, 176, 84, 82, 83, 177, 178, 179, 180, 78, 181, 182, 134, 183, 184, 185, 186, 187, 80, 188, 133, 135, 876, 877, 256, 257, 258, 878, 879, 880, 881, 118, 117, 856, 234, 235, 882, 225, 226, 227, 77, 228, 221, 222, 44, 223, 68, 229, 230, 231, 232, 233, 236, 237, 238, 239, 240, 70, 71, 72, 61, 241, 242, 243, 244, 67, 69, 245, 246, 247, 248, 249, 250, 251, 252, 253, 254, 819, 820, 821, 822, 823, 824, 825, 255, 1041, 1042, 1043, 1044, 1045, 1046, 1047, 1048, 1090, 1091, 1092, 1093, 1094, 1095, 1096, 1097, 1098, 1099, 1100, 1111, 1112, 1113, 1114, 1119, 1120, 1121, 1122] (by decide +kernel) (by decide +kernel)
set_option maxRecDepth 20000 in
theorem gL_law_X11_book : GoodIn wsL_law (wsV RL 122 RX11 yX11_book wsX11_book) := goodIn_app (goodIn_of _ (by decide +kernel)) ggL_law_X11_book
set_option maxRecDepth 20000 in
theorem ggL_law_X12_book : GoodIn wsL_law wsX12_book := goodIn_r _ [886, 150, 866, 156, 141, 887, 140, 888, 158, 206, 207, 5, 208, 263, 264, 265, 266, 212, 213, 214, 215, 209, 210, 211, 620, 621, 622, 623, 142, 1049, 1050, 1051, 1052, 1053, 1054, 1055, 1056, 1057, 1058, 1059, 1060, 1061, 1062, 1063, 1064, 1065, 1066, 1067, 1068, 1069, 1070, 1071, 1072, 1073, 1074, 1075, 1076, 1077, 1078, 1079, 1080, 1081, 1082, 1083, 1084, 1085, 1086, 1087, 1088, 1089] (by decide +kernel) (by decide +kernel)
set_option maxRecDepth 20000 in
theorem gL_law_X12_book : GoodIn wsL_law (wsV RL 125 RX12 yX12_book wsX12_book) := goodIn_app (goodIn_of _ (by decide +kernel)) ggL_law_X12_book
set_option maxRecDepth 20000 in
theorem ggL_law_X11_why : GoodIn wsL_law wsX11_why := goodIn_r _ [892, 29, 893, 894, 895, 28, 896, 118, 117, 876, 182, 134, 183, 1041, 1042, 1043, 1044, 1045, 1046, 1047, 1048, 1111, 1112, 1113, 1114] (by decide +kernel) (by decide +kernel)
set_option maxRecDepth 20000 in
theorem gL_law_X11_why : GoodIn wsL_law (wsV RL 126 RX11 yX11_why wsX11_why) := goodIn_app (goodIn_of _ (by decide +kernel)) ggL_law_X11_why

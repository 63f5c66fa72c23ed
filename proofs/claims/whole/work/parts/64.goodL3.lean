set_option maxRecDepth 20000 in
theorem ggL_law_X12_why : GoodIn wsL_law wsX12_why := goodIn_r _ [900, 888, 201, 158, 206, 207, 5, 208, 1049, 1050, 1051, 1052, 1053, 1054, 1055, 1056, 1057, 1058, 1059, 1060, 1061, 1062, 1063, 1064, 1065, 1066, 1067, 1068, 1069, 1070, 1071, 1072, 1073, 1074, 1075, 1076, 1077, 1078, 1079, 1080, 1081, 1082, 1083, 1084, 1085, 1086, 1087, 1088, 1089] (by decide +kernel) (by decide +kernel)
set_option maxRecDepth 20000 in
theorem gL_law_X12_why : GoodIn wsL_law (wsV RL 129 RX12 yX12_why wsX12_why) := goodIn_app (goodIn_of _ (by decide +kernel)) ggL_law_X12_why
set_option maxRecDepth 20000 in
theorem ggL_law_X11_write : GoodIn wsL_law wsX11_write := goodIn_r _ [904, 33, 15, 905, 906, 907, 32, 908, 125, 909, 256, 257, 20, 258, 84, 910, 911, 912, 913, 124, 914, 234, 134, 235, 915, 178, 179, 180, 78, 181, 182, 183, 916, 314, 315, 44, 316, 67, 69, 70, 71, 72, 61, 245, 246, 247, 252, 253, 254, 917, 918, 919, 920, 1041, 1042, 1043, 1044, 1045, 1046, 1047, 1048, 1090, 1091, 1092, 1093, 1115, 1116, 1094, 1095, 1096, 1097, 1098, 1099, 1100, 1119, 1120, 1121, 1122] (by decide +kernel) (by decide +kernel)
set_option maxRecDepth 20000 in
theorem gL_law_X11_write : GoodIn wsL_law (wsV RL 130 RX11 yX11_write wsX11_write) := goodIn_app (goodIn_of _ (by decide +kernel)) ggL_law_X11_write
set_option maxRecDepth 20000 in
theorem ggL_law_X12_write : GoodIn wsL_law wsX12_write := goodIn_r _ [924, 925, 142, 157, 141, 212, 213, 214, 5, 215, 140, 209, 210, 211, 321, 322, 323, 324, 1049, 1050, 1051, 1052, 1053, 1054, 1055, 1056, 1057, 1058, 1059, 1060, 1061, 1062, 1063, 1064, 1065, 1066, 1067, 1068, 1069, 1070, 1071, 1072, 1073, 1074, 1075, 1076, 1077, 1078, 1079, 1080, 1081, 1082, 1083, 1084, 1085, 1086, 1087, 1088, 1089] (by decide +kernel) (by decide +kernel)
set_option maxRecDepth 20000 in
theorem gL_law_X12_write : GoodIn wsL_law (wsV RL 133 RX12 yX12_write wsX12_write) := goodIn_app (goodIn_of _ (by decide +kernel)) ggL_law_X12_write
set_option maxRecDepth 20000 in
theorem ggL_law_X11_paper : GoodIn wsL_law wsX11_paper := goodIn_r _ [929, 33, 930, 931, 932, 32, 933, 125, 124, 934, 182, 134, 183, 1041, 1042, 1043, 1044, 1045, 1046, 1047, 1048, 1115, 1116] (by decide +kernel) (by decide +kernel)
set_option maxRecDepth 20000 in
theorem gL_law_X11_paper : GoodIn wsL_law (wsV RL 134 RX11 yX11_paper wsX11_paper) := goodIn_app (goodIn_of _ (by decide +kernel)) ggL_law_X11_paper
set_option maxRecDepth 20000 in
theorem ggL_law_X12_paper : GoodIn wsL_law wsX12_paper := goodIn_r _ [938, 925, 157, 206, 207, 5, 208, 1049, 1050, 1051, 1052, 1053, 1054, 1055, 1056, 1057, 1058, 1059, 1060, 1061, 1062, 1063, 1064, 1065, 1066, 1067, 1068, 1069, 1070, 1071, 1072, 1073, 1074, 1075, 1076, 1077, 1078, 1079, 1080, 1081, 1082, 1083, 1084, 1085, 1086, 1087, 1088, 1089] (by decide +kernel) (by decide +kernel)
set_option maxRecDepth 20000 in
theorem gL_law_X12_paper : GoodIn wsL_law (wsV RL 137 RX12 yX12_paper wsX12_paper) := goodIn_app (goodIn_of _ (by decide +kernel)) ggL_law_X12_paper
set_option maxRecDepth 20000 in
theorem ggL_law_X11_judge : GoodIn wsL_law wsX11_judge := goodIn_r _ [942, 37, 15, 943, 944, 36, 945, 946, 947, 948, 949, 130, 950, 951, 182, 134, 183, 296, 297, 298, 20, 299, 84, 300, 178, 179, 180, 78, 181, 952, 953, 954, 955, 131, 1041, 1042, 1043, 1044, 1045, 1046, 1047, 1048, 1090, 1091, 1092, 1093, 1117, 1118, 1094, 1095, 1096, 1097, 1098, 1099, 1100] (by decide +kernel) (by decide +kernel)
set_option maxRecDepth 20000 in
theorem gL_law_X11_judge : GoodIn wsL_law (wsV RL 138 RX11 yX11_judge wsX11_judge) := goodIn_app (goodIn_of _ (by decide +kernel)) ggL_law_X11_judge
set_option maxRecDepth 20000 in
theorem ggL_law_X12_judge : GoodIn wsL_law wsX12_judge := goodIn_r _ [959, 159, 160, 960, 961, 5, 962, 368, 206, 207, 208, 305, 306, 307, 308, 142, 1049, 1050, 1051, 1052, 1053, 1054, 1055, 1056, 1057, 1058, 1059, 1060, 1061, 1062, 1063, 1064, 1065, 1066, 1067, 1068, 1069, 1070, 1071, 1072, 1073, 1074, 1075, 1076, 1077, 1078, 1079, 1080, 1081, 1082, 1083, 1084, 1085, 1086, 1087, 1088, 1089] (by decide +kernel) (by decide +kernel)
set_option maxRecDepth 20000 in
theorem gL_law_X12_judge : GoodIn wsL_law (wsV RL 141 RX12 yX12_judge wsX12_judge) := goodIn_app (goodIn_of _ (by decide +kernel)) ggL_law_X12_judge
set_option maxRecDepth 20000 in
theorem ggL_law_X11_list : GoodIn wsL_law wsX11_list := goodIn_r _ [966, 37, 943, 944, 36, 945, 967, 968, 969, 970, 130, 971, 234, 134, 235, 972, 973, 974, 975, 131, 1041, 1042, 1043, 1044, 1045, 1046, 1047, 1048, 1117, 1118] (by decide +kernel) (by decide +kernel)
set_option maxRecDepth 20000 in
theorem gL_law_X11_list : GoodIn wsL_law (wsV RL 142 RX11 yX11_list wsX11_list) := goodIn_app (goodIn_of _ (by decide +kernel)) ggL_law_X11_list
set_option maxRecDepth 20000 in
theorem ggL_law_X12_list : GoodIn wsL_law wsX12_list := goodIn_r _ [979, 159, 160, 960, 961, 5, 962, 368, 206, 207, 208, 1049, 1050, 1051, 1052, 1053, 1054, 1055, 1056, 1057, 1058, 1059, 1060, 1061, 1062, 1063, 1064, 1065, 1066, 1067, 1068, 1069, 1070, 1071, 1072, 1073, 1074, 1075, 1076, 1077, 1078, 1079, 1080, 1081, 1082, 1083, 1084, 1085, 1086, 1087, 1088, 1089] (by decide +kernel) (by decide +kernel)
set_option maxRecDepth 20000 in
theorem gL_law_X12_list : GoodIn wsL_law (wsV RL 145 RX12 yX12_list wsX12_list) := goodIn_app (goodIn_of _ (by decide +kernel)) ggL_law_X12_list
set_option maxRecDepth 20000 in
theorem ggL_law_X11_put : GoodIn wsL_law wsX11_put := goodIn_r _ [983, 37, 943, 944, 36, 945, 946, 947, 948, 949, 130, 950, 951, 182, 134, 183, 984, 973, 974, 975, 131, 971, 234, 235, 1041, 1042, 1043, 1044, 1045, 1046, 1047, 1048, 1117, 1118] (by decide +kernel) (by decide +kernel)
set_option maxRecDepth 20000 in
theorem gL_law_X11_put : GoodIn wsL_law (wsV RL 146 RX11 yX11_put wsX11_put) := goodIn_app (goodIn_of _ (by decide +kernel)) ggL_law_X11_put
set_option maxRecDepth 20000 in
theorem ggL_law_X12_put : GoodIn wsL_law wsX12_put := goodIn_r _ [988, 159, 160, 960, 961, 5, 962, 368, 206, 207, 208, 1049, 1050, 1051, 1052, 1053, 1054, 1055, 1056, 1057, 1058, 1059, 1060, 1061, 1062, 1063, 1064, 1065, 1066, 1067, 1068, 1069, 1070, 1071, 1072, 1073, 1074, 1075, 1076, 1077, 1078, 1079, 1080, 1081, 1082, 1083, 1084, 1085, 1086, 1087, 1088, 1089] (by decide +kernel) (by decide +kernel)
set_option maxRecDepth 20000 in
theorem gL_law_X12_put : GoodIn wsL_law (wsV RL 149 RX12 yX12_put wsX12_put) := goodIn_app (goodIn_of _ (by decide +kernel)) ggL_law_X12_put
set_option maxRecDepth 20000 in
theorem ggL_law_X11_get : GoodIn wsL_law wsX11_get := goodIn_r _ [992, 37, 772, 943, 944, 36, 945, 946, 947, 948, 949, 130, 950, 951, 182, 134, 183, 952, 953, 954, 955, 131, 1041, 1042, 1043, 1044, 1045, 1046, 1047, 1048, 1117, 1118] (by decide +kernel) (by decide +kernel)
set_option maxRecDepth 20000 in
theorem gL_law_X11_get : GoodIn wsL_law (wsV RL 150 RX11 yX11_get wsX11_get) := goodIn_app (goodIn_of _ (by decide +kernel)) ggL_law_X11_get
set_option maxRecDepth 20000 in
theorem ggL_law_X12_get : GoodIn wsL_law wsX12_get := goodIn_r _ [996, 159, 160, 790, 960, 961, 5, 962, 368, 206, 207, 208, 1049, 1050, 1051, 1052, 1053, 1054, 1055, 1056, 1057, 1058, 1059, 1060, 1061, 1062, 1063, 1064, 1065, 1066, 1067, 1068, 1069, 1070, 1071, 1072, 1073, 1074, 1075, 1076, 1077, 1078, 1079, 1080, 1081, 1082, 1083, 1084, 1085, 1086, 1087, 1088, 1089] (by decide +kernel) (by decide +kernel)
set_option maxRecDepth 20000 in
theorem gL_law_X12_get : GoodIn wsL_law (wsV RL 154 RX12 yX12_get wsX12_get) := goodIn_app (goodIn_of _ (by decide +kernel)) ggL_law_X12_get
set_option maxRecDepth 20000 in
theorem ggL_law_X11_image : GoodIn wsL_law wsX11_image := goodIn_r _ [1000, 16, 15, 17, 1001, 1002, 1003, 14, 1004, 45, 47, 51, 55, 172, 63, 64, 44, 65, 66, 67, 61, 68, 69, 70, 71, 72, 1005, 820, 821, 20, 822, 84, 78, 82, 83, 80, 823, 824, 134, 825, 229, 230, 231, 232, 1006, 1007, 1008, 50, 1009, 92, 90, 1010, 1011, 1012, 1013, 54, 1014, 100, 98, 99, 1015, 255, 256, 257, 258, 1041, 1042, 1043, 1044, 1045, 1046, 1047, 1048, 1090, 1091, 1092, 1093, 1119, 1120, 1121, 1122, 1094, 1095, 1096, 1097, 1098, 1099, 1100, 1123, 1124, 1125, 1126, 1127, 1128, 1129, 1130] (by decide +kernel) (by decide +kernel)
set_option maxRecDepth 20000 in
theorem gL_law_X11_image : GoodIn wsL_law (wsV RL 155 RX11 yX11_image wsX11_image) := goodIn_app (goodIn_of _ (by decide +kernel)) ggL_law_X11_image
set_option maxRecDepth 20000 in
theorem ggL_law_X12_image : GoodIn wsL_law wsX12_image := goodIn_r _ [1019, 140, 1020, 141, 1021, 143, 204, 1022, 205, 1023, 146, 145, 148, 147, 1024, 554, 555, 556, 5, 557, 142, 267, 268, 269, 270, 1049, 1050, 1051, 1052, 1053, 1054, 1055, 1056, 1057, 1058, 1059, 1060, 1061, 1062, 1063, 1064, 1065, 1066, 1067, 1068, 1069, 1070, 1071, 1072, 1073, 1074, 1075, 1076, 1077, 1078, 1079, 1080, 1081, 1082, 1083, 1084, 1085, 1086, 1087, 1088, 1089] (by decide +kernel) (by decide +kernel)
set_option maxRecDepth 20000 in
theorem gL_law_X12_image : GoodIn wsL_law (wsV RL 158 RX12 yX12_image wsX12_image) := goodIn_app (goodIn_of _ (by decide +kernel)) ggL_law_X12_image
set_option maxRecDepth 20000 in
theorem ggL_law_X11_undo : GoodIn wsL_law wsX11_undo := goodIn_r _ [1028, 17, 15, 16, 1001, 1002, 1003, 14, 1004, 45, 47, 51, 55, 172, 63, 64, 44, 65, 66, 67, 61, 68, 69, 70, 71, 72, 1005, 820, 821, 20, 822, 84, 78, 82, 83, 80, 823, 824, 134, 825, 229, 230, 231, 232, 1006, 1007, 1008, 50, 1009, 92, 90, 1010, 1011, 1012, 1013, 54, 1014, 100, 98, 99, 1015, 255, 256, 257, 258, 1041, 1042, 1043, 1044, 1045, 1046, 1047, 1048, 1090, 1091, 1092, 1093, 1119, 1120, 1121, 1122, 1094, 1095, 1096, 1097, 1098, 1099, 1100, 1123, 1124, 1125, 1126, 1127, 1128, 1129, 1130] (by decide +kernel) (by decide +kernel)
set_option maxRecDepth 20000 in
theorem gL_law_X11_undo : GoodIn wsL_law (wsV RL 159 RX11 yX11_undo wsX11_undo) := goodIn_app (goodIn_of _ (by decide +kernel)) ggL_law_X11_undo
set_option maxRecDepth 20000 in
theorem ggL_law_X12_undo : GoodIn wsL_law wsX12_undo := goodIn_r _ [1032, 1024, 1020, 140, 1021, 141, 142, 143, 1022, 204, 1023, 205, 145, 146, 147, 148, 267, 268, 269, 5, 270, 1049, 1050, 1051, 1052, 1053, 1054, 1055, 1056, 1057, 1058, 1059, 1060, 1061, 1062, 1063, 1064, 1065, 1066, 1067, 1068, 1069, 1070, 1071, 1072, 1073, 1074, 1075, 1076, 1077, 1078, 1079, 1080, 1081, 1082, 1083, 1084, 1085, 1086, 1087, 1088, 1089] (by decide +kernel) (by decide +kernel)
set_option maxRecDepth 20000 in
theorem gL_law_X12_undo : GoodIn wsL_law (wsV RL 162 RX12 yX12_undo wsX12_undo) := goodIn_app (goodIn_of _ (by decide +kernel)) ggL_law_X12_undo
set_option maxRecDepth 20000 in
theorem ggL_law_X11_count : GoodIn wsL_law wsX11_count := goodIn_r _ [1036, 15, 29, 33, 255, 256, 257, 20, 258, 84, 651, 652, 653, 50, 654, 92, 857, 858, 859, 28, 860, 119, 917, 918, 919, 32, 920, 125, 805, 806, 807, 54, 808, 100, 628, 513, 514, 44, 515, 66, 1041, 1042, 1043, 1044, 1045, 1046, 1047, 1048, 1090, 1091, 1092, 1093, 1119, 1120, 1121, 1122, 1094, 1095, 1096, 1097, 1098, 1099, 1100, 1123, 1124, 1125, 1126, 1111, 1112, 1113, 1114, 1115, 1116, 1127, 1128, 1129, 1130] (by decide +kernel) (by decide +kernel)
set_option maxRecDepth 20000 in
theorem gL_law_X11_count : GoodIn wsL_law (wsV RL 163 RX11 yX11_count wsX11_count) := goodIn_app (goodIn_of _ (by decide +kernel)) ggL_law_X11_count
set_option maxRecDepth 20000 in
theorem ggL_law_X12_count : GoodIn wsL_law wsX12_count := goodIn_r _ [1040, 140, 141, 204, 866, 925, 205, 212, 213, 214, 5, 215, 209, 210, 211, 267, 268, 269, 270, 142, 566, 567, 568, 569, 1049, 1050, 1051, 1052, 1053, 1054, 1055, 1056, 1057, 1058, 1059, 1060, 1061, 1062, 1063, 1064, 1065, 1066, 1067, 1068, 1069, 1070, 1071, 1072, 1073, 1074, 1075, 1076, 1077, 1078, 1079, 1080, 1081, 1082, 1083, 1084, 1085, 1086, 1087, 1088, 1089] (by decide +kernel) (by decide +kernel)
set_option maxRecDepth 20000 in
theorem gL_law_X12_count : GoodIn wsL_law (wsV RL 166 RX12 yX12_count wsX12_count) := goodIn_app (goodIn_of _ (by decide +kernel)) ggL_law_X12_count

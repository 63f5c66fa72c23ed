set_option maxRecDepth 20000 in
theorem ggL_law_X11_init : GoodIn wsL_law wsX11_init := goodIn_r _ [8, 9, 10, 11, 12, 13, 14, 15, 16, 17, 18, 19, 20, 21, 22, 23, 24, 25, 26, 27, 28, 29, 30, 31, 32, 33, 34, 35, 36, 37, 38, 39, 40, 41, 42, 43, 44, 45, 46, 47, 48, 49, 50, 51, 52, 53, 54, 55, 56, 57, 58, 59, 60, 61, 62, 63, 64, 65, 66, 67, 68, 69, 70, 71, 72, 73, 74, 75, 76, 77, 78, 79, 80, 81, 82, 83, 84, 85, 86, 87, 88, 89, 90, 91, 92, 93, 94, 95, 96, 97, 98, 99, 100, 101, 102, 103, 104, 105, 106, 107, 108, 109, 110, 111, 112, 113, 114, 115, 116, 117, 118, 119, 120, 121, 122, 123, 124, 125, 126, 127, 128, 129, 130, 131, 132, 133, 134, 135, 1090, 1091, 1092, 1093, 1041, 1042, 1043, 1044, 1045, 1046, 1047, 1048, 1094, 1095, 1096, 1097, 1098, 1099, 1100, 1101, 1102, 1103, 1104, 1105, 1106, 1107, 1108, 1109, 1110, 1111, 1112, 1113, 1114, 1115, 1116, 1117, 1118, 1119, 1120, 1121, 1122, 1123, 1124, 1125, 1126, 1127, 1128, 1129, 1130] (by decide +kernel) (by decide +kernel)
set_option maxRecDepth 20000 in
theorem gL_law_X11_init : GoodIn wsL_law (wsX11_init) := ggL_law_X11_init
set_option maxRecDepth 20000 in
theorem ggL_law_X12_init : GoodIn wsL_law wsX12_init := goodIn_r _ [138, 139, 10, 11, 140, 141, 79, 142, 143, 144, 60, 145, 146, 147, 148, 149, 150, 151, 152, 153, 154, 155, 156, 157, 158, 159, 160, 1049, 1050, 1051, 1052, 1053, 1054, 1055, 1056, 1057, 1058, 1059, 1060, 1061, 1062, 1063, 1064, 1065, 1066, 1067, 1068, 1069, 1070, 1071, 1072, 1073, 1074, 1075, 1076, 1077, 1078, 1079, 1080, 1081, 1082, 1083, 1084, 1085, 1086, 1087, 1088, 1089] (by decide +kernel) (by decide +kernel)
set_option maxRecDepth 20000 in
theorem gL_law_X12_init : GoodIn wsL_law (wsX12_init) := ggL_law_X12_init
set_option maxRecDepth 20000 in
theorem ggL_law_X11_size : GoodIn wsL_law wsX11_size := goodIn_r _ [164, 15, 165, 166, 44, 167, 168, 169, 170, 14, 171, 45, 47, 51, 55, 172, 63, 64, 65, 66, 67, 61, 68, 69, 70, 71, 72, 173, 174, 175, 20, 176, 84, 82, 83, 177, 178, 179, 180, 78, 181, 182, 134, 183, 184, 185, 186, 187, 80, 188, 133, 135, 189, 190, 191, 50, 192, 92, 193, 194, 195, 54, 196, 100, 1041, 1042, 1043, 1044, 1045, 1046, 1047, 1048, 1090, 1091, 1092, 1093, 1119, 1120, 1121, 1122, 1094, 1095, 1096, 1097, 1098, 1099, 1100, 1123, 1124, 1125, 1126, 1127, 1128, 1129, 1130] (by decide +kernel) (by decide +kernel)
set_option maxRecDepth 20000 in
theorem gL_law_X11_size : GoodIn wsL_law (wsV RL 13 RX11 yX11_size wsX11_size) := goodIn_app (goodIn_of _ (by decide +kernel)) ggL_law_X11_size
set_option maxRecDepth 20000 in
theorem ggL_law_X12_size : GoodIn wsL_law wsX12_size := goodIn_r _ [200, 201, 202, 203, 140, 141, 142, 204, 205, 206, 207, 5, 208, 209, 210, 211, 212, 213, 214, 215, 1049, 1050, 1051, 1052, 1053, 1054, 1055, 1056, 1057, 1058, 1059, 1060, 1061, 1062, 1063, 1064, 1065, 1066, 1067, 1068, 1069, 1070, 1071, 1072, 1073, 1074, 1075, 1076, 1077, 1078, 1079, 1080, 1081, 1082, 1083, 1084, 1085, 1086, 1087, 1088, 1089] (by decide +kernel) (by decide +kernel)
set_option maxRecDepth 20000 in
theorem gL_law_X12_size : GoodIn wsL_law (wsV RL 17 RX12 yX12_size wsX12_size) := goodIn_app (goodIn_of _ (by decide +kernel)) ggL_law_X12_size
set_option maxRecDepth 20000 in
theorem ggL_law_X11_add : GoodIn wsL_law wsX11_add := goodIn_r _ [219, 15, 220, 221, 222, 44, 223, 68, 224, 225, 226, 20, 227, 77, 84, 78, 228, 229, 230, 231, 232, 80, 177, 178, 179, 180, 181, 182, 134, 183, 233, 234, 235, 184, 185, 186, 187, 236, 237, 238, 239, 82, 83, 240, 70, 71, 72, 61, 241, 242, 243, 244, 67, 69, 245, 246, 247, 248, 249, 250, 251, 252, 253, 254, 255, 256, 257, 258, 1041, 1042, 1043, 1044, 1045, 1046, 1047, 1048, 1090, 1091, 1092, 1093, 1119, 1120, 1121, 1122, 1094, 1095, 1096, 1097, 1098, 1099, 1100] (by decide +kernel) (by decide +kernel)
set_option maxRecDepth 20000 in
theorem gL_law_X11_add : GoodIn wsL_law (wsV RL 18 RX11 yX11_add wsX11_add) := goodIn_app (goodIn_of _ (by decide +kernel)) ggL_law_X11_add
set_option maxRecDepth 20000 in
theorem ggL_law_X12_add : GoodIn wsL_law wsX12_add := goodIn_r _ [262, 142, 263, 264, 265, 5, 266, 212, 213, 214, 215, 140, 141, 209, 210, 211, 206, 207, 208, 267, 268, 269, 270, 1049, 1050, 1051, 1052, 1053, 1054, 1055, 1056, 1057, 1058, 1059, 1060, 1061, 1062, 1063, 1064, 1065, 1066, 1067, 1068, 1069, 1070, 1071, 1072, 1073, 1074, 1075, 1076, 1077, 1078, 1079, 1080, 1081, 1082, 1083, 1084, 1085, 1086, 1087, 1088, 1089] (by decide +kernel) (by decide +kernel)
set_option maxRecDepth 20000 in
theorem gL_law_X12_add : GoodIn wsL_law (wsV RL 22 RX12 yX12_add wsX12_add) := goodIn_app (goodIn_of _ (by decide +kernel)) ggL_law_X12_add
set_option maxRecDepth 20000 in
theorem ggL_law_X11_drop : GoodIn wsL_law wsX11_drop := goodIn_r _ [274, 15, 220, 221, 222, 44, 223, 68, 275, 276, 277, 20, 278, 84, 78, 229, 230, 231, 232, 80, 177, 178, 179, 180, 181, 182, 134, 183, 233, 234, 235, 184, 185, 186, 187, 236, 237, 238, 239, 77, 82, 83, 240, 70, 71, 72, 61, 241, 242, 243, 244, 67, 69, 245, 246, 247, 248, 249, 250, 251, 252, 253, 254, 255, 256, 257, 258, 1041, 1042, 1043, 1044, 1045, 1046, 1047, 1048, 1090, 1091, 1092, 1093, 1119, 1120, 1121, 1122, 1094, 1095, 1096, 1097, 1098, 1099, 1100] (by decide +kernel) (by decide +kernel)
set_option maxRecDepth 20000 in
theorem gL_law_X11_drop : GoodIn wsL_law (wsV RL 23 RX11 yX11_drop wsX11_drop) := goodIn_app (goodIn_of _ (by decide +kernel)) ggL_law_X11_drop
set_option maxRecDepth 20000 in
theorem ggL_law_X12_drop : GoodIn wsL_law wsX12_drop := goodIn_r _ [282, 142, 263, 264, 265, 5, 266, 212, 213, 214, 215, 140, 141, 209, 210, 211, 206, 207, 208, 267, 268, 269, 270, 1049, 1050, 1051, 1052, 1053, 1054, 1055, 1056, 1057, 1058, 1059, 1060, 1061, 1062, 1063, 1064, 1065, 1066, 1067, 1068, 1069, 1070, 1071, 1072, 1073, 1074, 1075, 1076, 1077, 1078, 1079, 1080, 1081, 1082, 1083, 1084, 1085, 1086, 1087, 1088, 1089] (by decide +kernel) (by decide +kernel)
set_option maxRecDepth 20000 in
theorem gL_law_X12_drop : GoodIn wsL_law (wsV RL 26 RX12 yX12_drop wsX12_drop) := goodIn_app (goodIn_of _ (by decide +kernel)) ggL_law_X12_drop
set_option maxRecDepth 20000 in
theorem ggL_law_X11_clear : GoodIn wsL_law wsX11_clear := goodIn_r _ [286, 15, 255, 256, 257, 20, 258, 84, 287, 174, 175, 176, 82, 83, 177, 178, 179, 180, 78, 181, 182, 134, 183, 184, 185, 186, 187, 80, 188, 133, 135, 1041, 1042, 1043, 1044, 1045, 1046, 1047, 1048, 1090, 1091, 1092, 1093, 1094, 1095, 1096, 1097, 1098, 1099, 1100] (by decide +kernel) (by decide +kernel)
set_option maxRecDepth 20000 in
theorem gL_law_X11_clear : GoodIn wsL_law (wsV RL 27 RX11 yX11_clear wsX11_clear) := goodIn_app (goodIn_of _ (by decide +kernel)) ggL_law_X11_clear
set_option maxRecDepth 20000 in
theorem ggL_law_X12_clear : GoodIn wsL_law wsX12_clear := goodIn_r _ [291, 142, 267, 268, 269, 5, 270, 1049, 1050, 1051, 1052, 1053, 1054, 1055, 1056, 1057, 1058, 1059, 1060, 1061, 1062, 1063, 1064, 1065, 1066, 1067, 1068, 1069, 1070, 1071, 1072, 1073, 1074, 1075, 1076, 1077, 1078, 1079, 1080, 1081, 1082, 1083, 1084, 1085, 1086, 1087, 1088, 1089] (by decide +kernel) (by decide +kernel)
set_option maxRecDepth 20000 in
theorem gL_law_X12_clear : GoodIn wsL_law (wsV RL 31 RX12 yX12_clear wsX12_clear) := goodIn_app (goodIn_of _ (by decide +kernel)) ggL_law_X12_clear
set_option maxRecDepth 20000 in
theorem ggL_law_X11_word : GoodIn wsL_law wsX11_word := goodIn_r _ [295, 15, 296, 297, 298, 20, 299, 84, 300, 178, 179, 180, 78, 181, 182, 134, 183, 1041, 1042, 1043, 1044, 1045, 1046, 1047, 1048, 1090, 1091, 1092, 1093, 1094, 1095, 1096, 1097, 1098, 1099, 1100] (by decide +kernel) (by decide +kernel)
set_option maxRecDepth 20000 in
theorem gL_law_X11_word : GoodIn wsL_law (wsV RL 32 RX11 yX11_word wsX11_word) := goodIn_app (goodIn_of _ (by decide +kernel)) ggL_law_X11_word
set_option maxRecDepth 20000 in
theorem ggL_law_X12_word : GoodIn wsL_law wsX12_word := goodIn_r _ [304, 305, 306, 307, 5, 308, 142, 1049, 1050, 1051, 1052, 1053, 1054, 1055, 1056, 1057, 1058, 1059, 1060, 1061, 1062, 1063, 1064, 1065, 1066, 1067, 1068, 1069, 1070, 1071, 1072, 1073, 1074, 1075, 1076, 1077, 1078, 1079, 1080, 1081, 1082, 1083, 1084, 1085, 1086, 1087, 1088, 1089] (by decide +kernel) (by decide +kernel)
set_option maxRecDepth 20000 in
theorem gL_law_X12_word : GoodIn wsL_law (wsV RL 35 RX12 yX12_word wsX12_word) := goodIn_app (goodIn_of _ (by decide +kernel)) ggL_law_X12_word
set_option maxRecDepth 20000 in
theorem ggL_law_X11_letter : GoodIn wsL_law wsX11_letter := goodIn_r _ [312, 15, 220, 221, 222, 44, 223, 68, 313, 314, 315, 316, 67, 69, 70, 71, 72, 61, 245, 246, 134, 247, 252, 253, 254, 1041, 1042, 1043, 1044, 1045, 1046, 1047, 1048, 1090, 1091, 1092, 1093, 1119, 1120, 1121, 1122] (by decide +kernel) (by decide +kernel)
set_option maxRecDepth 20000 in
theorem gL_law_X11_letter : GoodIn wsL_law (wsV RL 36 RX11 yX11_letter wsX11_letter) := goodIn_app (goodIn_of _ (by decide +kernel)) ggL_law_X11_letter
set_option maxRecDepth 20000 in
theorem ggL_law_X12_letter : GoodIn wsL_law wsX12_letter := goodIn_r _ [320, 141, 263, 264, 265, 5, 266, 212, 213, 214, 215, 140, 209, 210, 211, 206, 207, 208, 321, 322, 323, 324, 1049, 1050, 1051, 1052, 1053, 1054, 1055, 1056, 1057, 1058, 1059, 1060, 1061, 1062, 1063, 1064, 1065, 1066, 1067, 1068, 1069, 1070, 1071, 1072, 1073, 1074, 1075, 1076, 1077, 1078, 1079, 1080, 1081, 1082, 1083, 1084, 1085, 1086, 1087, 1088, 1089] (by decide +kernel) (by decide +kernel)
set_option maxRecDepth 20000 in
theorem gL_law_X12_letter : GoodIn wsL_law (wsV RL 39 RX12 yX12_letter wsX12_letter) := goodIn_app (goodIn_of _ (by decide +kernel)) ggL_law_X12_letter
set_option maxRecDepth 20000 in
theorem ggL_law_X11_hides : GoodIn wsL_law wsX11_hides := goodIn_r _ [328, 15, 220, 221, 222, 44, 223, 68, 329, 330, 331, 332, 67, 333, 249, 250, 251, 69, 70, 71, 72, 61, 252, 253, 134, 254, 334, 242, 243, 244, 245, 246, 247, 1041, 1042, 1043, 1044, 1045, 1046, 1047, 1048, 1090, 1091, 1092, 1093, 1119, 1120, 1121, 1122] (by decide +kernel) (by decide +kernel)
set_option maxRecDepth 20000 in
theorem gL_law_X11_hides : GoodIn wsL_law (wsV RL 40 RX11 yX11_hides wsX11_hides) := goodIn_app (goodIn_of _ (by decide +kernel)) ggL_law_X11_hides
set_option maxRecDepth 20000 in
theorem ggL_law_X12_hides : GoodIn wsL_law wsX12_hides := goodIn_r _ [338, 141, 263, 264, 265, 5, 266, 212, 213, 214, 215, 140, 209, 210, 211, 206, 207, 208, 339, 340, 341, 342, 1049, 1050, 1051, 1052, 1053, 1054, 1055, 1056, 1057, 1058, 1059, 1060, 1061, 1062, 1063, 1064, 1065, 1066, 1067, 1068, 1069, 1070, 1071, 1072, 1073, 1074, 1075, 1076, 1077, 1078, 1079, 1080, 1081, 1082, 1083, 1084, 1085, 1086, 1087, 1088, 1089] (by decide +kernel) (by decide +kernel)
set_option maxRecDepth 20000 in
theorem gL_law_X12_hides : GoodIn wsL_law (wsV RL 44 RX12 yX12_hides wsX12_hides) := goodIn_app (goodIn_of _ (by decide +kernel)) ggL_law_X12_hides
set_option maxRecDepth 20000 in
theorem ggL_law_X11_clash : GoodIn wsL_law wsX11_clash := goodIn_r _ [346, 15, 347, 348, 349, 20, 350, 84, 177, 178, 179, 180, 78, 181, 182, 134, 183, 351, 352, 353, 354, 77, 83, 82, 240, 70, 71, 44, 72, 61, 241, 242, 243, 244, 67, 69, 245, 246, 247, 248, 249, 250, 251, 252, 253, 254, 355, 356, 357, 358, 359, 360, 361, 362, 363, 330, 331, 332, 333, 334, 229, 230, 231, 232, 80, 1041, 1042, 1043, 1044, 1045, 1046, 1047, 1048, 1090, 1091, 1092, 1093, 1094, 1095, 1096, 1097, 1098, 1099, 1100, 1119, 1120, 1121, 1122] (by decide +kernel) (by decide +kernel)
set_option maxRecDepth 20000 in
theorem gL_law_X11_clash : GoodIn wsL_law (wsV RL 45 RX11 yX11_clash wsX11_clash) := goodIn_app (goodIn_of _ (by decide +kernel)) ggL_law_X11_clash
set_option maxRecDepth 20000 in
theorem ggL_law_X12_clash : GoodIn wsL_law wsX12_clash := goodIn_r _ [367, 368, 369, 370, 371, 206, 207, 5, 208, 372, 373, 374, 375, 142, 141, 212, 213, 214, 215, 140, 209, 210, 211, 339, 340, 341, 342, 1049, 1050, 1051, 1052, 1053, 1054, 1055, 1056, 1057, 1058, 1059, 1060, 1061, 1062, 1063, 1064, 1065, 1066, 1067, 1068, 1069, 1070, 1071, 1072, 1073, 1074, 1075, 1076, 1077, 1078, 1079, 1080, 1081, 1082, 1083, 1084, 1085, 1086, 1087, 1088, 1089] (by decide +kernel) (by decide +kernel)
set_option maxRecDepth 20000 in
theorem gL_law_X12_clash : GoodIn wsL_law (wsV RL 48 RX12 yX12_clash wsX12_clash) := goodIn_app (goodIn_of _ (by decide +kernel)) ggL_law_X12_clash
set_option maxRecDepth 20000 in
theorem ggL_law_X11_may : GoodIn wsL_law wsX11_may := goodIn_r _ [379, 15, 220, 221, 222, 44, 223, 68, 380, 381, 382, 20, 383, 77, 228, 229, 230, 231, 232, 80, 236, 237, 238, 239, 82, 83, 240, 70, 71, 72, 61, 241, 242, 243, 244, 67, 69, 245, 246, 134, 247, 248, 249, 250, 251, 252, 253, 254, 181, 182, 183, 233, 234, 235, 351, 352, 353, 354, 384, 348, 349, 350, 84, 177, 178, 179, 180, 78, 1041, 1042, 1043, 1044, 1045, 1046, 1047, 1048, 1090, 1091, 1092, 1093, 1119, 1120, 1121, 1122, 1094, 1095, 1096, 1097, 1098, 1099, 1100] (by decide +kernel) (by decide +kernel)
set_option maxRecDepth 20000 in
theorem gL_law_X11_may : GoodIn wsL_law (wsV RL 49 RX11 yX11_may wsX11_may) := goodIn_app (goodIn_of _ (by decide +kernel)) ggL_law_X11_may
